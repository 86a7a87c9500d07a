section
/-- a private method of a class that the tables say can be made, by its rows of tables_1 -/
def lw_okq (q : MethodName × Nat) : Prop := (q.1.cls ≠ "java/lang/invoke/MethodHandle" ∧ q.1.cls ≠ "java/lang/invoke/VarHandle") ∧ Cond.instantiable q.1.cls q.2 ∈ tables_1 ∧ Cond.privateMethod q.1 ∈ tables_1 ∧ Cond.instanceMethod q.1 ∈ tables_1
theorem lw_p0 : lw_okq (⟨"java/util/ArrayList", "add", "(Ljava/lang/Object;[Ljava/lang/Object;I)V"⟩, 3) := ⟨⟨by decide +kernel, by decide +kernel⟩, List.mem_of_getElem? (i := 36) (by decide +kernel), List.mem_of_getElem? (i := 122) (by decide +kernel), List.mem_of_getElem? (i := 123) (by decide +kernel)⟩
theorem lw_p1 : lw_okq (⟨"java/util/ArrayList", "grow", "()[Ljava/lang/Object;"⟩, 3) := ⟨⟨by decide +kernel, by decide +kernel⟩, List.mem_of_getElem? (i := 36) (by decide +kernel), List.mem_of_getElem? (i := 126) (by decide +kernel), List.mem_of_getElem? (i := 127) (by decide +kernel)⟩
theorem lw_p2 : lw_okq (⟨"java/util/ArrayList", "grow", "(I)[Ljava/lang/Object;"⟩, 3) := ⟨⟨by decide +kernel, by decide +kernel⟩, List.mem_of_getElem? (i := 36) (by decide +kernel), List.mem_of_getElem? (i := 130) (by decide +kernel), List.mem_of_getElem? (i := 131) (by decide +kernel)⟩
theorem lw_p3 : lw_okq (⟨"java/lang/Throwable", "fillInStackTrace", "(I)Ljava/lang/Throwable;"⟩, 6) := ⟨⟨by decide +kernel, by decide +kernel⟩, List.mem_of_getElem? (i := 273) (by decide +kernel), List.mem_of_getElem? (i := 271) (by decide +kernel), List.mem_of_getElem? (i := 272) (by decide +kernel)⟩
theorem lw_p4 : lw_okq (⟨"Cogwright", "lowestCutter", "(II)I"⟩, 7) := ⟨⟨by decide +kernel, by decide +kernel⟩, List.mem_of_getElem? (i := 28) (by decide +kernel), List.mem_of_getElem? (i := 343) (by decide +kernel), List.mem_of_getElem? (i := 344) (by decide +kernel)⟩
theorem lw_p5 : lw_okq (⟨"Cogwright", "hasAllCutters", "(LCogwright$Train;)Z"⟩, 7) := ⟨⟨by decide +kernel, by decide +kernel⟩, List.mem_of_getElem? (i := 28) (by decide +kernel), List.mem_of_getElem? (i := 428) (by decide +kernel), List.mem_of_getElem? (i := 429) (by decide +kernel)⟩
theorem lw_p6 : lw_okq (⟨"Cogwright", "trainAt", "(I)LCogwright$Train;"⟩, 7) := ⟨⟨by decide +kernel, by decide +kernel⟩, List.mem_of_getElem? (i := 28) (by decide +kernel), List.mem_of_getElem? (i := 442) (by decide +kernel), List.mem_of_getElem? (i := 443) (by decide +kernel)⟩
theorem lw_p7 : lw_okq (⟨"Cogwright", "queue", "(LCogwright$Order;II)V"⟩, 7) := ⟨⟨by decide +kernel, by decide +kernel⟩, List.mem_of_getElem? (i := 28) (by decide +kernel), List.mem_of_getElem? (i := 552) (by decide +kernel), List.mem_of_getElem? (i := 553) (by decide +kernel)⟩
theorem lw_p8 : lw_okq (⟨"Cogwright", "giveOutJobs", "()V"⟩, 7) := ⟨⟨by decide +kernel, by decide +kernel⟩, List.mem_of_getElem? (i := 28) (by decide +kernel), List.mem_of_getElem? (i := 584) (by decide +kernel), List.mem_of_getElem? (i := 585) (by decide +kernel)⟩
theorem lw_p9 : lw_okq (⟨"Cogwright", "giveJob", "(LCogwright$Machine;)V"⟩, 7) := ⟨⟨by decide +kernel, by decide +kernel⟩, List.mem_of_getElem? (i := 28) (by decide +kernel), List.mem_of_getElem? (i := 588) (by decide +kernel), List.mem_of_getElem? (i := 589) (by decide +kernel)⟩
theorem lw_p10 : lw_okq (⟨"Cogwright", "firstWithCutterOf", "(LCogwright$Machine;)I"⟩, 7) := ⟨⟨by decide +kernel, by decide +kernel⟩, List.mem_of_getElem? (i := 28) (by decide +kernel), List.mem_of_getElem? (i := 592) (by decide +kernel), List.mem_of_getElem? (i := 593) (by decide +kernel)⟩
theorem lw_p11 : lw_okq (⟨"Cogwright", "firstWithFreeCutter", "(LCogwright$Machine;)I"⟩, 7) := ⟨⟨by decide +kernel, by decide +kernel⟩, List.mem_of_getElem? (i := 28) (by decide +kernel), List.mem_of_getElem? (i := 596) (by decide +kernel), List.mem_of_getElem? (i := 597) (by decide +kernel)⟩
theorem lw_p12 : lw_okq (⟨"Cogwright", "isOnAnother", "(LCogwright$Machine;I)Z"⟩, 7) := ⟨⟨by decide +kernel, by decide +kernel⟩, List.mem_of_getElem? (i := 28) (by decide +kernel), List.mem_of_getElem? (i := 600) (by decide +kernel), List.mem_of_getElem? (i := 601) (by decide +kernel)⟩
theorem lw_p13 : lw_okq (⟨"java/util/ArrayList", "fastRemove", "([Ljava/lang/Object;I)V"⟩, 3) := ⟨⟨by decide +kernel, by decide +kernel⟩, List.mem_of_getElem? (i := 36) (by decide +kernel), List.mem_of_getElem? (i := 612) (by decide +kernel), List.mem_of_getElem? (i := 613) (by decide +kernel)⟩
theorem lw_p14 : lw_okq (⟨"Cogwright", "workOneTick", "()I"⟩, 7) := ⟨⟨by decide +kernel, by decide +kernel⟩, List.mem_of_getElem? (i := 28) (by decide +kernel), List.mem_of_getElem? (i := 617) (by decide +kernel), List.mem_of_getElem? (i := 618) (by decide +kernel)⟩
theorem lw_p15 : lw_okq (⟨"Cogwright", "machineAt", "(I)LCogwright$Machine;"⟩, 7) := ⟨⟨by decide +kernel, by decide +kernel⟩, List.mem_of_getElem? (i := 28) (by decide +kernel), List.mem_of_getElem? (i := 636) (by decide +kernel), List.mem_of_getElem? (i := 637) (by decide +kernel)⟩
def lw_privs_1 : List (MethodName × Nat) := [(⟨"java/util/ArrayList", "add", "(Ljava/lang/Object;[Ljava/lang/Object;I)V"⟩, 3), (⟨"java/util/ArrayList", "grow", "()[Ljava/lang/Object;"⟩, 3), (⟨"java/util/ArrayList", "grow", "(I)[Ljava/lang/Object;"⟩, 3), (⟨"java/lang/Throwable", "fillInStackTrace", "(I)Ljava/lang/Throwable;"⟩, 6), (⟨"Cogwright", "lowestCutter", "(II)I"⟩, 7), (⟨"Cogwright", "hasAllCutters", "(LCogwright$Train;)Z"⟩, 7), (⟨"Cogwright", "trainAt", "(I)LCogwright$Train;"⟩, 7), (⟨"Cogwright", "queue", "(LCogwright$Order;II)V"⟩, 7), (⟨"Cogwright", "giveOutJobs", "()V"⟩, 7), (⟨"Cogwright", "giveJob", "(LCogwright$Machine;)V"⟩, 7), (⟨"Cogwright", "firstWithCutterOf", "(LCogwright$Machine;)I"⟩, 7), (⟨"Cogwright", "firstWithFreeCutter", "(LCogwright$Machine;)I"⟩, 7), (⟨"Cogwright", "isOnAnother", "(LCogwright$Machine;I)Z"⟩, 7), (⟨"java/util/ArrayList", "fastRemove", "([Ljava/lang/Object;I)V"⟩, 3), (⟨"Cogwright", "workOneTick", "()I"⟩, 7), (⟨"Cogwright", "machineAt", "(I)LCogwright$Machine;"⟩, 7)]
theorem lw_r1 : ∀ q ∈ lw_privs_1, lw_okq q := List.forall_mem_cons.mpr ⟨lw_p0, List.forall_mem_cons.mpr ⟨lw_p1, List.forall_mem_cons.mpr ⟨lw_p2, List.forall_mem_cons.mpr ⟨lw_p3, List.forall_mem_cons.mpr ⟨lw_p4, List.forall_mem_cons.mpr ⟨lw_p5, List.forall_mem_cons.mpr ⟨lw_p6, List.forall_mem_cons.mpr ⟨lw_p7, List.forall_mem_cons.mpr ⟨lw_p8, List.forall_mem_cons.mpr ⟨lw_p9, List.forall_mem_cons.mpr ⟨lw_p10, List.forall_mem_cons.mpr ⟨lw_p11, List.forall_mem_cons.mpr ⟨lw_p12, List.forall_mem_cons.mpr ⟨lw_p13, List.forall_mem_cons.mpr ⟨lw_p14, List.forall_mem_cons.mpr ⟨lw_p15, fun _ h => absurd h List.not_mem_nil⟩⟩⟩⟩⟩⟩⟩⟩⟩⟩⟩⟩⟩⟩⟩⟩
theorem lw_p16 : lw_okq (⟨"Cogwright", "orderAt", "(I)LCogwright$Order;"⟩, 7) := ⟨⟨by decide +kernel, by decide +kernel⟩, List.mem_of_getElem? (i := 28) (by decide +kernel), List.mem_of_getElem? (i := 655) (by decide +kernel), List.mem_of_getElem? (i := 656) (by decide +kernel)⟩
theorem lw_p17 : lw_okq (⟨"Cogwright", "teethWithoutCutter", "(I)I"⟩, 7) := ⟨⟨by decide +kernel, by decide +kernel⟩, List.mem_of_getElem? (i := 28) (by decide +kernel), List.mem_of_getElem? (i := 713) (by decide +kernel), List.mem_of_getElem? (i := 714) (by decide +kernel)⟩
theorem lw_p18 : lw_okq (⟨"CogwrightModel", "cutter", "(II)I"⟩, 25) := ⟨⟨by decide +kernel, by decide +kernel⟩, List.mem_of_getElem? (i := 730) (by decide +kernel), List.mem_of_getElem? (i := 829) (by decide +kernel), List.mem_of_getElem? (i := 830) (by decide +kernel)⟩
theorem lw_p19 : lw_okq (⟨"CogwrightModel", "draftDistance", "()I"⟩, 25) := ⟨⟨by decide +kernel, by decide +kernel⟩, List.mem_of_getElem? (i := 730) (by decide +kernel), List.mem_of_getElem? (i := 837) (by decide +kernel), List.mem_of_getElem? (i := 838) (by decide +kernel)⟩
theorem lw_p20 : lw_okq (⟨"CogwrightModel", "isTrain", "(I)Z"⟩, 25) := ⟨⟨by decide +kernel, by decide +kernel⟩, List.mem_of_getElem? (i := 730) (by decide +kernel), List.mem_of_getElem? (i := 853) (by decide +kernel), List.mem_of_getElem? (i := 854) (by decide +kernel)⟩
theorem lw_p21 : lw_okq (⟨"CogwrightModel", "product", "(II)I"⟩, 25) := ⟨⟨by decide +kernel, by decide +kernel⟩, List.mem_of_getElem? (i := 730) (by decide +kernel), List.mem_of_getElem? (i := 857) (by decide +kernel), List.mem_of_getElem? (i := 858) (by decide +kernel)⟩
theorem lw_p22 : lw_okq (⟨"CogwrightModel", "waits", "(III)V"⟩, 25) := ⟨⟨by decide +kernel, by decide +kernel⟩, List.mem_of_getElem? (i := 730) (by decide +kernel), List.mem_of_getElem? (i := 882) (by decide +kernel), List.mem_of_getElem? (i := 883) (by decide +kernel)⟩
theorem lw_p23 : lw_okq (⟨"CogwrightModel", "tick", "()I"⟩, 25) := ⟨⟨by decide +kernel, by decide +kernel⟩, List.mem_of_getElem? (i := 730) (by decide +kernel), List.mem_of_getElem? (i := 890) (by decide +kernel), List.mem_of_getElem? (i := 891) (by decide +kernel)⟩
theorem lw_p24 : lw_okq (⟨"CogwrightModel", "takes", "(I)V"⟩, 25) := ⟨⟨by decide +kernel, by decide +kernel⟩, List.mem_of_getElem? (i := 730) (by decide +kernel), List.mem_of_getElem? (i := 894) (by decide +kernel), List.mem_of_getElem? (i := 895) (by decide +kernel)⟩
theorem lw_p25 : lw_okq (⟨"CogwrightModel", "first", "(IZ)I"⟩, 25) := ⟨⟨by decide +kernel, by decide +kernel⟩, List.mem_of_getElem? (i := 730) (by decide +kernel), List.mem_of_getElem? (i := 898) (by decide +kernel), List.mem_of_getElem? (i := 899) (by decide +kernel)⟩
theorem lw_p26 : lw_okq (⟨"CogwrightModel", "isOn", "(I)Z"⟩, 25) := ⟨⟨by decide +kernel, by decide +kernel⟩, List.mem_of_getElem? (i := 730) (by decide +kernel), List.mem_of_getElem? (i := 902) (by decide +kernel), List.mem_of_getElem? (i := 903) (by decide +kernel)⟩
theorem lw_p27 : lw_okq (⟨"CogwrightModel", "toCut", "(I)I"⟩, 25) := ⟨⟨by decide +kernel, by decide +kernel⟩, List.mem_of_getElem? (i := 730) (by decide +kernel), List.mem_of_getElem? (i := 906) (by decide +kernel), List.mem_of_getElem? (i := 907) (by decide +kernel)⟩
theorem lw_p28 : lw_okq (⟨"CogwrightModel", "isMachine", "(I)Z"⟩, 25) := ⟨⟨by decide +kernel, by decide +kernel⟩, List.mem_of_getElem? (i := 730) (by decide +kernel), List.mem_of_getElem? (i := 922) (by decide +kernel), List.mem_of_getElem? (i := 923) (by decide +kernel)⟩
theorem lw_p29 : lw_okq (⟨"CogwrightModel", "isOrder", "(I)Z"⟩, 25) := ⟨⟨by decide +kernel, by decide +kernel⟩, List.mem_of_getElem? (i := 730) (by decide +kernel), List.mem_of_getElem? (i := 934) (by decide +kernel), List.mem_of_getElem? (i := 935) (by decide +kernel)⟩
theorem lw_p30 : lw_okq (⟨"CogwrightModel", "news", "(IIIII)I"⟩, 25) := ⟨⟨by decide +kernel, by decide +kernel⟩, List.mem_of_getElem? (i := 730) (by decide +kernel), List.mem_of_getElem? (i := 958) (by decide +kernel), List.mem_of_getElem? (i := 959) (by decide +kernel)⟩
theorem lw_p31 : lw_okq (⟨"CogwrightModel", "lacks", "(II)I"⟩, 25) := ⟨⟨by decide +kernel, by decide +kernel⟩, List.mem_of_getElem? (i := 730) (by decide +kernel), List.mem_of_getElem? (i := 962) (by decide +kernel), List.mem_of_getElem? (i := 963) (by decide +kernel)⟩
def lw_privs_2 : List (MethodName × Nat) := [(⟨"Cogwright", "orderAt", "(I)LCogwright$Order;"⟩, 7), (⟨"Cogwright", "teethWithoutCutter", "(I)I"⟩, 7), (⟨"CogwrightModel", "cutter", "(II)I"⟩, 25), (⟨"CogwrightModel", "draftDistance", "()I"⟩, 25), (⟨"CogwrightModel", "isTrain", "(I)Z"⟩, 25), (⟨"CogwrightModel", "product", "(II)I"⟩, 25), (⟨"CogwrightModel", "waits", "(III)V"⟩, 25), (⟨"CogwrightModel", "tick", "()I"⟩, 25), (⟨"CogwrightModel", "takes", "(I)V"⟩, 25), (⟨"CogwrightModel", "first", "(IZ)I"⟩, 25), (⟨"CogwrightModel", "isOn", "(I)Z"⟩, 25), (⟨"CogwrightModel", "toCut", "(I)I"⟩, 25), (⟨"CogwrightModel", "isMachine", "(I)Z"⟩, 25), (⟨"CogwrightModel", "isOrder", "(I)Z"⟩, 25), (⟨"CogwrightModel", "news", "(IIIII)I"⟩, 25), (⟨"CogwrightModel", "lacks", "(II)I"⟩, 25)]
theorem lw_r2 : ∀ q ∈ lw_privs_2, lw_okq q := List.forall_mem_cons.mpr ⟨lw_p16, List.forall_mem_cons.mpr ⟨lw_p17, List.forall_mem_cons.mpr ⟨lw_p18, List.forall_mem_cons.mpr ⟨lw_p19, List.forall_mem_cons.mpr ⟨lw_p20, List.forall_mem_cons.mpr ⟨lw_p21, List.forall_mem_cons.mpr ⟨lw_p22, List.forall_mem_cons.mpr ⟨lw_p23, List.forall_mem_cons.mpr ⟨lw_p24, List.forall_mem_cons.mpr ⟨lw_p25, List.forall_mem_cons.mpr ⟨lw_p26, List.forall_mem_cons.mpr ⟨lw_p27, List.forall_mem_cons.mpr ⟨lw_p28, List.forall_mem_cons.mpr ⟨lw_p29, List.forall_mem_cons.mpr ⟨lw_p30, List.forall_mem_cons.mpr ⟨lw_p31, fun _ h => absurd h List.not_mem_nil⟩⟩⟩⟩⟩⟩⟩⟩⟩⟩⟩⟩⟩⟩⟩⟩
def lw_privs : List (MethodName × Nat) := lw_privs_1 ++ (lw_privs_2)
def lw_tbl : List Cond := k2_sels lw_privs ++ tables_1
theorem lw_privs_ok : ∀ q ∈ lw_privs, lw_okq q := by
  show ∀ q ∈ lw_privs_1 ++ (lw_privs_2), lw_okq q
  exact List.forall_mem_append.mpr ⟨lw_r1, lw_r2⟩
end
section
/-! ===== BEGIN words of one list among another's, by their places ===== -/
theorem goodIn_r {big : List Cond} (ws : List Cond) (ps : List Nat) (hp : ws = ps.filterMap (fun i => big[i]?)) (h : ws.all goodWord = true) : GoodIn big ws := by
  intro w hw
  have h1 := List.all_eq_true.mp h w hw
  rw [hp] at hw
  obtain ⟨i, -, hi⟩ := List.mem_filterMap.mp hw
  have hm : w ∈ big := by first | exact List.mem_of_getElem? hi | exact List.getElem?_mem hi
  exact ⟨hm, good_of_word h1⟩
theorem goodIn_app {big a b : List Cond} (ha : GoodIn big a) (hb : GoodIn big b) : GoodIn big (a ++ b) := fun w h => (List.mem_append.mp h).elim (ha w) (hb w)
theorem goodIn_ca {big a b : List Cond} {c : Cond} (ha : GoodIn big (c :: a)) (hb : GoodIn big b) : GoodIn big (c :: (a ++ b)) := fun w h => (List.mem_cons.mp h).elim (fun e => ha w (List.mem_cons.mpr (Or.inl e))) (fun h => (List.mem_append.mp h).elim (fun h => ha w (List.mem_cons.mpr (Or.inr h))) (hb w))
theorem goodIn_sub {big ws : List Cond} (hm : ∀ w ∈ ws, w ∈ big) (h : ws.all goodWord = true) : GoodIn big ws := fun w hw => ⟨hm w hw, good_of_word (List.all_eq_true.mp h w hw)⟩
/-! ===== END ===== -/

/-! ===== BEGIN exceptions that leave a method, and their catching by the caller (launches without stack traces) ===== -/
section VXA
/-! The laws vx_back, vx_callV, vx_callS, vx_callSW, vx_throw0, vx_throwS follow proofs of the library, with one case more: JvmDerived/Free/Laws.lean (Back.of_free), Shelf42/LK1.lean (callV, callS), Shelf/KitTraced.lean (throwNew0V, throwNewS). -/
/-- where a method has thrown q: the class by its name, the cell, what was written, the world -/
def vx_T (XC : String → State → State → Prop) (st : State) (q : Addr) (t : State) (mc ms : Nat) (free : Addr → Prop) : Prop :=
  ∃ (E : String) (ce : Cell) (L : List Loc), XC E st t ∧ t.heap[q]? = some ce ∧ ce.vm = .none ∧ st.vm.findClass E = some ce.cls ∧ st.WarmedH t.vm ∧ st.sameButNew ({ t with vm := st.vm } : State) L mc ms ∧ ∀ z ∈ L, free z.base
def vx_Q (Qc : Array Value → State → Outcome → State → Prop) (XC : String → State → State → Prop) (mc ms : Nat) (free : Addr → Prop) : Array Value → State → Outcome → State → Prop := fun a st o t =>
  (Qc a st o t ∧ ∃ L, FrameEnd st o t L mc ms ∧ ∀ q ∈ L, free q.base) ∨ ∃ q, o = .threw q ∧ vx_T XC st q t mc ms free
/-- a callee that returns or throws -/
def vx_Met (l : Launch) (y : MethodName) (ws : List Cond) (rm : Room) (Pc : Array Value → State → Prop) (Qc : Array Value → State → Outcome → State → Prop) (XC : String → State → State → Prop) (mc ms : Nat) (free : Addr → Prop) : Prop :=
  MetFree l y (headSpec ws rm) Pc (fun _ _ _ _ _ => True) (vx_Q Qc XC mc ms free)
def vx_Post (XC : String → State → State → Prop) (mc ms : Nat) (free : Addr → Prop) : Pt → Array Value → Addr → Pt → Prop := fun A a q B =>
  ∃ (g : JFrame) (mk : MethodId) (t : State) (L : List Loc) (E : String) (ce : Cell), B.U.heap = t.heap ∧ B.U.vm = t.vm ∧ XC E (A.U.calling g mk a) t ∧ t.heap[q]? = some ce ∧ ce.vm = .none ∧ A.U.vm.findClass E = some ce.cls ∧ B.locs = A.locs ++ L ∧ (∀ z ∈ L, free z.base) ∧ B.cells = A.cells + mc ∧ B.slots = A.slots + ms
def vx_Back (l : Launch) (R : Room) (p : Program) (e : Env) (below : List Frame) (s : State) (sargs : Array Value) (y : MethodName) (len W9 : Nat)
    (Pre : Pt → Array Value → Prop) (Post : Pt → Array Value → Option Value → Pt → Prop) (PostX : Pt → Array Value → Addr → Pt → Prop) : Prop :=
  ∀ (m : MethodId) (meth : Method) (c : Code) (A : Pt) (g : JFrame) (ig : Instr) (mk : MethodId) (a : Array Value),
    Stand p l e R s m sargs below meth c A.U A.locs A.cells A.slots → g.method = m → g.locals.size = c.maxLocals → decode c.code g.pc = .ok (ig, len) →
    2 * g.monitorRoom + (g.stack.map fun v => v.category).sum ≤ W9 → A.U.methodNamed? y = some mk → Pre A a →
    (∃ (v : Option Value) (B : Pt), Stand p l e R s m sargs below meth c B.U B.locs B.cells B.slots ∧ Post A a v B ∧
      Steps p.tables e below (doInvoke e (A.U.setTop g) [] mk a).1 (B.U.setTop { g with pc := g.pc + len, stack := v.toList ++ g.stack })) ∨
    (∃ (q : Addr) (B : Pt), Stand p l e R s m sargs below meth c B.U B.locs B.cells B.slots ∧ PostX A a q B ∧
      Steps p.tables e below (doInvoke e (A.U.setTop g) [] mk a).1 ((B.U.setTop g).pushFrame (.throwing q)))
section Payer
variable {l : Launch} {R : Room} {p : Program} {e : Env} {below : List Frame} {s : State} {sargs : Array Value} {y : MethodName} {len W9 : Nat}
theorem vx_back {ws : List Cond} {rm : Room} {Pc : Array Value → State → Prop} {Qc : Array Value → State → Outcome → State → Prop} {XC : String → State → State → Prop} {mc ms : Nat} {free : Addr → Prop} {bytes : ByteArray} {maxL : Nat} {ret : Option FieldType}
    (hM : vx_Met l y ws rm Pc Qc XC mc ms free) (hblind : FrameBlind Pc) (hrc : rm.cells = mc) (hrs : rm.slots = ms)
    (hframes : rm.frames + 1 ≤ R.frames) (hlocals : W9 + (maxL + 11) + rm.locals ≤ R.locals)
    (hws : ∀ w ∈ ws, ∀ a' U, s.WarmedH U.vm → w.before a' U = true) (hcode : Cond.code y bytes maxL ret ∈ ws) (hinit : ∀ a' U, s.WarmedH U.vm → (Cond.initialized y.cls).before a' U = true) :
    vx_Back l R p e below s sargs y len W9 (PreOf R mc ms Pc) (PostOf Qc mc ms free) (vx_Post XC mc ms free) := by
  intro m meth c A g ig mk a X hg hsize hdg hW hn hp
  have h1 : (headSpec ws rm).pre.before a A.U = true := atoms_intro fun w hw => hws w hw _ _ X.warmed
  have h2 : (Cond.code y bytes maxL ret).before a A.U = true := hws _ hcode _ _ X.warmed
  have h3 : (Cond.initialized y.cls).before a A.U = true := hinit _ _ X.warmed
  have h4 : A.cells + (headSpec ws rm).room.cells ≤ R.cells := by rw [show (headSpec ws rm).room.cells = mc from hrc]; exact hp.1
  have h5 : A.slots + (headSpec ws rm).room.slots ≤ R.slots := by rw [show (headSpec ws rm).room.slots = ms from hrs]; exact hp.2.1
  have hPc : Pc a (A.U.calling g mk a) := hblind _ _ _ _ hp.2.2
  obtain ⟨U, Ls, c0, s0⟩ := A
  dsimp only [Pt.U, Pt.locs, Pt.cells, Pt.slots] at h1 h2 h3 h4 h5 X hn hPc ⊢
  obtain ⟨methY, cY, hmY, hcY, -, hlY, -, -, -, -⟩ := Cond.code_spec hn h2
  obtain ⟨kY, hkY, -⟩ := className_of_methodNamed hn
  have hinitY : kY.init = .initialized := Cond.initialized_spec (findClass_of_methodNamed hn) hkY h3
  have h : At U g.method c below := by rw [hg]; exact X.here
  have hlocals9 : W9 + (maxL + 11) + (headSpec ws rm).room.locals ≤ R.locals := hlocals
  have happ : (headSpec ws rm).appliesLoose y e.platform (U.calling g mk a) = true :=
    Spec.appliesLoose_calling (g := g) h hdg hn hkY hinitY
      (X.room_calling (g := g) (R' := (headSpec ws rm).room) hsize hmY hcY hframes (by rw [hlY]; omega) h4 h5) h1
  obtain ⟨mid, hmid⟩ := h.above
  have hfr : (U.setTop g).frames = (.java g :: mid) ++ below := by rw [State.frames_setTop' g h.top, hmid]; rfl
  obtain ⟨o, s₂, hsteps, -, hend, hq⟩ := Steps.callFree hM p X.admits X.cas X.clock (acts := []) hfr happ hPc trivial
  have hq' : vx_Q Qc XC mc ms free a (U.calling g mk a) o s₂ := hq
  rw [State.frames_setTop' g h.top] at hend
  obtain ⟨g₀, hg0⟩ := Option.isSome_iff_exists.mp h.top
  obtain ⟨r, hr⟩ := State.topJava?_eq_some.mp hg0
  have hr' : (({ U with heap := s₂.heap, slotsUsed := s₂.slotsUsed } : State).setVm s₂.vm).frames = .java g₀ :: r := hr
  rcases hq' with ⟨hqc, L, hfe, hL⟩ | ⟨q, rfl, E, ce, L, hx, hce, hcv, hcl, hW₂, hsm, hL⟩
  · obtain ⟨⟨v, rfl⟩, hW₂, e2, q2, q3, q4, q5, q6⟩ := id hfe
    have e3 : s₂ = ({ (U.calling g mk a).setFrames s₂.frames with heap := s₂.heap, slotsUsed := s₂.slotsUsed } : State).setVm s₂.vm := by
      have : s₂ = ({ s₂ with vm := (U.calling g mk a).vm } : State).setVm s₂.vm := rfl
      rw [e2] at this
      exact this
    obtain ⟨c₂, i₂, len₂, hc₂, hd₂, hf₂⟩ := hend
    have hW' : U.WarmedH s₂.vm := hW₂
    have hcc : c₂ = c := by
      have h1 : s₂.code? g.method = U.code? g.method := by
        rw [State.code?_eq, State.code?_eq, hW'.alike.method?]
      exact Option.some.inj (hc₂.symm.trans (h1.trans h.code))
    subst hcc
    have hlen : len₂ = len := by rw [hdg] at hd₂; cases hd₂; rfl
    subst hlen
    have hs₂ : s₂ = (({ U with heap := s₂.heap, slotsUsed := s₂.slotsUsed } : State).setVm s₂.vm).setTop { g with pc := g.pc + len₂, stack := v.toList ++ g.stack } := by
      refine e3.trans ?_
      rw [hf₂, State.calling_eq h.top, State.setFrames_setFrames, State.setTop_of_frames _ hr', hr]
      rfl
    have hsame : U.sameButNew ({ U with heap := s₂.heap, slotsUsed := s₂.slotsUsed } : State) L mc ms := by
      refine ⟨?_, q2, q3, q4, q5, q6⟩
      obtain ⟨t, ht, -⟩ := State.frames_cons hr
      show ({ U with heap := s₂.heap, slotsUsed := s₂.slotsUsed } : State) = { U.setFrames U.frames with heap := s₂.heap, slotsUsed := s₂.slotsUsed }
      rw [State.setFrames_self ht]
    subst hg
    refine Or.inl ⟨v, ⟨(({ U with heap := s₂.heap, slotsUsed := s₂.slotsUsed } : State).setVm s₂.vm), Ls ++ L, c0 + mc, s0 + ms⟩,
      ⟨X.admits, X.cas, X.clock, X.frames, X.room, X.hears, X.method, X.code, (X.here.setHeapUsed s₂.heap s₂.slotsUsed).setVm hW'.alike, X.tail, State.WarmedH.trans X.warmed hW', X.limits, X.bytes, X.same.trans (hsame.setVm s.vm)⟩,
      ⟨g, mk, s₂, L, rfl, rfl, hqc, rfl, hL, rfl, rfl⟩, ?_⟩
    show Steps p.tables e below _ ((({ U with heap := s₂.heap, slotsUsed := s₂.slotsUsed } : State).setVm s₂.vm).setTop { g with pc := g.pc + len₂, stack := v.toList ++ g.stack })
    rw [← hs₂]
    exact hsteps
  · obtain ⟨e2, q2, q3, q4, q5, q6⟩ := id hsm
    have e3 : s₂ = ({ (U.calling g mk a).setFrames s₂.frames with heap := s₂.heap, slotsUsed := s₂.slotsUsed } : State).setVm s₂.vm := by
      have : s₂ = ({ s₂ with vm := (U.calling g mk a).vm } : State).setVm s₂.vm := rfl
      rw [e2] at this
      exact this
    have hf₂ : s₂.frames = .throwing q :: .java g :: U.frames.tail := hend
    have hW' : U.WarmedH s₂.vm := hW₂
    have hs₂ : s₂ = ((({ U with heap := s₂.heap, slotsUsed := s₂.slotsUsed } : State).setVm s₂.vm).setTop g).pushFrame (.throwing q) := by
      refine e3.trans ?_
      rw [hf₂, State.calling_eq h.top, State.setFrames_setFrames, State.pushFrame, State.frames_setTop _ hr', State.setTop_of_frames _ hr', State.setFrames_setFrames, hr]
      rfl
    have hsame : U.sameButNew ({ U with heap := s₂.heap, slotsUsed := s₂.slotsUsed } : State) L mc ms := by
      refine ⟨?_, q2, q3, q4, q5, q6⟩
      obtain ⟨t, ht, -⟩ := State.frames_cons hr
      show ({ U with heap := s₂.heap, slotsUsed := s₂.slotsUsed } : State) = { U.setFrames U.frames with heap := s₂.heap, slotsUsed := s₂.slotsUsed }
      rw [State.setFrames_self ht]
    subst hg
    refine Or.inr ⟨q, ⟨(({ U with heap := s₂.heap, slotsUsed := s₂.slotsUsed } : State).setVm s₂.vm), Ls ++ L, c0 + mc, s0 + ms⟩,
      ⟨X.admits, X.cas, X.clock, X.frames, X.room, X.hears, X.method, X.code, (X.here.setHeapUsed s₂.heap s₂.slotsUsed).setVm hW'.alike, X.tail, State.WarmedH.trans X.warmed hW', X.limits, X.bytes, X.same.trans (hsame.setVm s.vm)⟩,
      ⟨g, mk, s₂, L, E, ce, rfl, rfl, hx, hce, hcv, hcl, rfl, hL, rfl, rfl⟩, ?_⟩
    show Steps p.tables e below _ (((({ U with heap := s₂.heap, slotsUsed := s₂.slotsUsed } : State).setVm s₂.vm).setTop g).pushFrame (.throwing q))
    rw [← hs₂]
    exact hsteps
end Payer
section Calls
variable {p : Program} {l : Launch} {e : Env} {R : Room} {s : State} {m : MethodId} {args : Array Value} {below : List Frame} {meth : Method} {c : Code} {T : State} {locs : List Loc} {cells slots : Nat}
theorem vx_callV (X : Stand p l e R s m args below meth c T locs cells slots) (hexec : p.tables.exec = Jvm.exec) {own C : String} {index : Nat} {y : MethodName} {bytes : ByteArray} {maxL : Nat} {ret : Option FieldType}
    (hown : s.vm.findClass own = some m.cls) (hlink : (Cond.methodLink own index y).before args s = true) (hinst : (Cond.instanceMethod y).before args s = true) (hsel : (Cond.selects C y y).before args s = true)
    (hcode : (Cond.code y bytes maxL ret).before args s = true) (hy : y.cls ≠ "java/lang/invoke/MethodHandle" ∧ y.cls ≠ "java/lang/invoke/VarHandle")
    {W9 : Nat} {Pre : Pt → Array Value → Prop} {Post : Pt → Array Value → Option Value → Pt → Prop} {PostX : Pt → Array Value → Addr → Pt → Prop} (hK : vx_Back l R p e below s args y 3 W9 Pre Post PostX)
    {b : Addr} {cellB : Cell} (hcell : T.heap[b]? = some cellB) (hobj : cellB.vm.isStatics = false) (hcls : s.vm.findClass C = some cellB.cls)
    {g : JFrame} (hg : g.method = m) (hsize : g.locals.size = c.maxLocals) {argsL rest : List Value} (hlen : ∀ sig, parseMethodDescriptor y.desc = some sig → argsL.length = sig.parameters.length)
    (hstack : g.stack = argsL.reverse ++ .ref b :: rest) (hW : 2 * g.monitorRoom + (rest.map fun v => v.category).sum ≤ W9) (hdg : decode c.code g.pc = .ok (.invokevirtual index, 3))
    (hpre : ∀ vm₁, s.WarmedH vm₁ → Pre ⟨T.setVm vm₁, locs, cells, slots⟩ (Value.ref b :: argsL).toArray) :
    (∃ (v : Option Value) (vm₁ : Vm) (B : Pt), s.WarmedH vm₁ ∧ Stand p l e R s m args below meth c B.U B.locs B.cells B.slots ∧ Post ⟨T.setVm vm₁, locs, cells, slots⟩ (Value.ref b :: argsL).toArray v B ∧
      ∀ target, Steps p.tables e below (B.U.setTop { g with pc := g.pc + 3, stack := v.toList ++ rest }) target → Steps p.tables e below (T.setTop g) target) ∨
    (∃ (q : Addr) (vm₁ : Vm) (B : Pt), s.WarmedH vm₁ ∧ Stand p l e R s m args below meth c B.U B.locs B.cells B.slots ∧ PostX ⟨T.setVm vm₁, locs, cells, slots⟩ (Value.ref b :: argsL).toArray q B ∧
      Steps p.tables e below (T.setTop g) ((B.U.setTop { g with stack := rest }).pushFrame (.throwing q))) := by
  obtain ⟨mk, methM, hnamed, hmethM, hstM, habM⟩ := Cond.instanceMethod_spec hinst
  obtain ⟨methM', cM, hmethM', -, -, -, -, -, -, hsigM⟩ := Cond.code_spec hnamed hcode
  cases hmethM.symm.trans hmethM'
  obtain ⟨c2, r2, m2, q1, q2, q3, q4, kP, hkP, hkPi⟩ := Cond.selects_spec hsel
  cases hcls.symm.trans q1
  cases (State.methodFound?_of_named hnamed hy).symm.trans q2
  cases hnamed.symm.trans q3
  have hselP : selectMethod e.platform s.vm cellB.cls mk = .method mk := by rw [Launch.admits_selectMethod X.admits]; exact q4
  obtain ⟨vm₁, X₁, hstep₁⟩ := X.invokevirtual hexec hown hlink hnamed hmethM hstM hkP hkPi hy (a := b) (cell := cellB) hcell
    (fun z h => by rw [h] at hobj; cases hobj) hselP hmethM habM hkP hkPi (g := g) hg (argsL := argsL) (rest := rest) (hlen _ hsigM) hstack hdg
  rcases hK m meth c ⟨T.setVm vm₁, locs, cells, slots⟩ { g with stack := rest } (.invokevirtual index) mk (Value.ref b :: argsL).toArray X₁ hg hsize hdg hW (X₁.named hnamed) (hpre vm₁ X₁.warmed) with ⟨v, B, X', hpost, hsteps⟩ | ⟨q, B, X', hpost, hsteps⟩
  · exact Or.inl ⟨v, vm₁, B, X₁.warmed, X', hpost, fun target h => hstep₁ _ fun acts => by rw [doInvoke_state]; exact hsteps.trans h⟩
  · exact Or.inr ⟨q, vm₁, B, X₁.warmed, X', hpost, hstep₁ _ fun acts => by rw [doInvoke_state]; exact hsteps⟩
theorem vx_callS (X : Stand p l e R s m args below meth c T locs cells slots) (hexec : p.tables.exec = Jvm.exec) {own : String} {index : Nat} {y : MethodName} {bytes : ByteArray} {maxL : Nat} {ret : Option FieldType}
    (hown : s.vm.findClass own = some m.cls) (hlink : (Cond.methodLink own index y).before args s = true) (hstat : (Cond.static y).before args s = true) (hinit : (Cond.initialized y.cls).before args s = true)
    (hcode : (Cond.code y bytes maxL ret).before args s = true) (hy : y.cls ≠ "java/lang/invoke/MethodHandle" ∧ y.cls ≠ "java/lang/invoke/VarHandle")
    {W9 : Nat} {Pre : Pt → Array Value → Prop} {Post : Pt → Array Value → Option Value → Pt → Prop} {PostX : Pt → Array Value → Addr → Pt → Prop} (hK : vx_Back l R p e below s args y 3 W9 Pre Post PostX)
    {g : JFrame} (hg : g.method = m) (hsize : g.locals.size = c.maxLocals) {argsL rest : List Value} (hlen : ∀ sig, parseMethodDescriptor y.desc = some sig → argsL.length = sig.parameters.length)
    (hstack : g.stack = argsL.reverse ++ rest) (hW : 2 * g.monitorRoom + (rest.map fun v => v.category).sum ≤ W9) (hdg : decode c.code g.pc = .ok (.invokestatic index, 3))
    (hpre : ∀ vm₁, s.WarmedH vm₁ → Pre ⟨T.setVm vm₁, locs, cells, slots⟩ argsL.toArray) :
    (∃ (v : Option Value) (vm₁ : Vm) (B : Pt), s.WarmedH vm₁ ∧ Stand p l e R s m args below meth c B.U B.locs B.cells B.slots ∧ Post ⟨T.setVm vm₁, locs, cells, slots⟩ argsL.toArray v B ∧
      ∀ target, Steps p.tables e below (B.U.setTop { g with pc := g.pc + 3, stack := v.toList ++ rest }) target → Steps p.tables e below (T.setTop g) target) ∨
    (∃ (q : Addr) (vm₁ : Vm) (B : Pt), s.WarmedH vm₁ ∧ Stand p l e R s m args below meth c B.U B.locs B.cells B.slots ∧ PostX ⟨T.setVm vm₁, locs, cells, slots⟩ argsL.toArray q B ∧
      Steps p.tables e below (T.setTop g) ((B.U.setTop { g with stack := rest }).pushFrame (.throwing q))) := by
  obtain ⟨mk, hnamed⟩ := Cond.code_named hcode
  obtain ⟨methM, cM, hmethM, -, -, -, -, -, -, hsigM⟩ := Cond.code_spec hnamed hcode
  have hstatic : methM.isStatic = true := Cond.static_spec hnamed hmethM hstat
  obtain ⟨kP, hkP, -⟩ := className_of_methodNamed hnamed
  have hinitP : kP.init = .initialized := Cond.initialized_spec (findClass_of_methodNamed hnamed) hkP hinit
  obtain ⟨vm₁, X₁, hstep₁⟩ := X.invokestatic hexec hown hlink hnamed hmethM hstatic hkP hinitP hy (g := g) hg (argsL := argsL) (rest := rest) (hlen _ hsigM) hstack hdg
  rcases hK m meth c ⟨T.setVm vm₁, locs, cells, slots⟩ { g with stack := rest } (.invokestatic index) mk argsL.toArray X₁ hg hsize hdg hW (X₁.named hnamed) (hpre vm₁ X₁.warmed) with ⟨v, B, X', hpost, hsteps⟩ | ⟨q, B, X', hpost, hsteps⟩
  · exact Or.inl ⟨v, vm₁, B, X₁.warmed, X', hpost, fun target h => hstep₁ _ fun acts => by rw [doInvoke_state]; exact hsteps.trans h⟩
  · exact Or.inr ⟨q, vm₁, B, X₁.warmed, X', hpost, hstep₁ _ fun acts => by rw [doInvoke_state]; exact hsteps⟩
end Calls
theorem vx_cls {s : State} {T : State} {vm₁ : Vm} {E : String} {k : ClassId} (hW : s.WarmedH vm₁) (h : (T.setVm vm₁).vm.findClass E = some k) : s.vm.findClass E = some k := by
  have h1 : vm₁.findClass E = some k := h
  rw [hW.alike.findClass] at h1
  exact h1
/-- the method's frame g, with q thrown over it -/
def vx_W (p : Program) (l : Launch) (e : Env) (R : Room) (s : State) (m : MethodId) (args : Array Value) (below : List Frame) (meth : Method) (c : Code) (H : Heap) (locs : List Loc) (cells slots : Nat) (Q : State → Prop) (g : JFrame) (q : Addr) : Prop :=
  ∀ T : State, T.heap = H → Stand p l e R s m args below meth c T locs cells slots → ∃ t, Steps p.tables e below ((T.setTop g).pushFrame (.throwing q)) t ∧ Q t
def vx_Run (p : Program) (l : Launch) (e : Env) (R : Room) (s : State) (m : MethodId) (args : Array Value) (below : List Frame) (meth : Method) (c : Code) (H : Heap) (locs : List Loc) (cells slots mc ms : Nat) (g : JFrame) (rest : List Value) (Qa : State → Outcome → State → Prop) (XC : String → State → State → Prop) (free : Addr → Prop) : Prop :=
  ∀ T : State, T.heap = H → Stand p l e R s m args below meth c T locs cells slots →
    (∃ (v : Option Value) (st₀ t T' : State) (L : List Loc), st₀.heap = H ∧ Stand p l e R s m args below meth c T' (locs ++ L) (cells + mc) (slots + ms) ∧ (∀ q ∈ L, free q.base) ∧ T'.heap = t.heap ∧ T'.vm = t.vm ∧ Qa st₀ (.returned v) t ∧
      Goes p e below T g T' { g with pc := g.pc + 3, stack := v.toList ++ rest }) ∨
    (∃ (q : Addr) (st₀ t T' : State) (L : List Loc) (E : String) (ce : Cell), st₀.heap = H ∧ Stand p l e R s m args below meth c T' (locs ++ L) (cells + mc) (slots + ms) ∧ (∀ z ∈ L, free z.base) ∧ T'.heap = t.heap ∧ T'.vm = t.vm ∧ XC E st₀ t ∧ t.heap[q]? = some ce ∧ ce.vm = .none ∧ s.vm.findClass E = some ce.cls ∧
      Steps p.tables e below (T.setTop g) ((T'.setTop { g with stack := rest }).pushFrame (.throwing q)))
def vx_X {S : Type} (px : S → Prop) (B : String → S → State → Prop) (A : Nat → Prop) : String → State → State → Prop := fun E st t => ∃ u : S, px u ∧ B E u t ∧ va_F A st t
section Runs
variable {p : Program} {l : Launch} {e : Env} {R : Room} {s : State} {m : MethodId} {args : Array Value} {below : List Frame} {meth : Method} {c : Code} {H : Heap} {locs : List Loc} {cells slots : Nat}
variable {y : MethodName} {bytes cc : ByteArray} {maxL nL mc ms n index : Nat} {ret : Option FieldType} {ws : List Cond} {rm : Room} {Pc : Array Value → State → Prop} {Qc : Array Value → State → Outcome → State → Prop} {XC : String → State → State → Prop} {free : Addr → Prop} {Ts : List Cond} {own C : String} {b : Addr} {As rest : List Value} {g : JFrame}
theorem vx_callBack (cb : CallB R s args own index y bytes maxL ret ws rm mc ms n) (hM : vx_Met l y ws rm Pc Qc XC mc ms free) (hbl : FrameBlind Pc) : vx_Back l R p e below s args y 3 8 (PreOf R mc ms Pc) (PostOf Qc mc ms free) (vx_Post XC mc ms free) := by
  obtain ⟨hrc, hrs, hfr, hlo, hws, hcw, -, hini, -⟩ := cb
  exact vx_back (bytes := bytes) (maxL := maxL) (ret := ret) hM hbl hrc hrs hfr hlo hws hcw (fun a' U hW => word_at hW (Or.inl (by first | rfl | simp [Cond.onTables, Cond.keeps, Cond.steady])) hini)
theorem vx_runV (S : CallFix p m c cc nL s args Ts own) (hM : vx_Met l y ws rm Pc Qc XC mc ms free) (cw : CallW R s args own C index y bytes maxL ret ws rm mc ms n) (hp : PreV s H C b Pc As)
    (hg : g.method = m) (hn : As.length = n) (hsize : g.locals.size = nL) (hstack : g.stack = As.reverse ++ .ref b :: rest) (hW : 2 * g.monitorRoom + (rest.map fun v => v.category).sum ≤ 8) (hdg : decode cc g.pc = .ok (.invokevirtual index, 3)) (hf : cells + mc ≤ R.cells ∧ slots + ms ≤ R.slots) :
    vx_Run p l e R s m args below meth c H locs cells slots mc ms g rest (Qc (Value.ref b :: As).toArray) XC free := by
  have hK : vx_Back l R p e below s args y 3 8 (PreOf R mc ms Pc) (PostOf Qc mc ms free) (vx_Post XC mc ms free) := vx_callBack cw.1 hM hp.1
  obtain ⟨⟨-, -, -, -, -, -, hcode, -, hy, hlen, hl⟩, hin, hse⟩ := cw
  obtain ⟨hx, hb, hml, ho, -⟩ := S
  obtain ⟨-, ⟨cellB, hcB, hoB, hclB⟩, hPc⟩ := hp
  intro T hT X
  rcases vx_callV X hx (C := C) (bytes := bytes) (maxL := maxL) (ret := ret) ho hl hin hse hcode hy hK (by rw [hT]; exact hcB) hoB hclB hg (hsize.trans hml.symm) (argsL := As) (rest := rest) (fun sig h => hn.trans (hlen sig h)) hstack hW (by rw [hb]; exact hdg)
    (fun vm₁ hW₁ => ⟨hf.1, hf.2, hPc (T.setVm vm₁) hT hW₁⟩) with ⟨v, vm₁, ⟨U', l2, c2, s2⟩, hW₁, X', ⟨g', mk, t, L, e1, e2, hq, h1, hL, h2, h3⟩, st⟩ | ⟨q, vm₁, ⟨U', l2, c2, s2⟩, hW₁, X', ⟨g', mk, t, L, E, ce, e1, e2, hq, hce, hcv, hcl, h1, hL, h2, h3⟩, st⟩
  · dsimp only [Pt.U, Pt.locs, Pt.cells, Pt.slots] at X' e1 e2 h1 h2 h3 st
    subst h1; subst h2; subst h3
    exact Or.inl ⟨v, (T.setVm vm₁).calling g' mk (Value.ref b :: As).toArray, t, U', L, hT, X', hL, e1, e2, hq, st⟩
  · dsimp only [Pt.U, Pt.locs, Pt.cells, Pt.slots] at X' e1 e2 h1 h2 h3 st hcl
    subst h1; subst h2; subst h3
    exact Or.inr ⟨q, (T.setVm vm₁).calling g' mk (Value.ref b :: As).toArray, t, U', L, E, ce, hT, X', hL, e1, e2, hq, hce, hcv, vx_cls hW₁ hcl, st⟩
theorem vx_runS (S : CallFix p m c cc nL s args Ts own) (hM : vx_Met l y ws rm Pc Qc XC mc ms free) (cw : CallB R s args own index y bytes maxL ret ws rm mc ms n ∧ (Cond.static y).before args s = true) (hp : PreS s H Pc As)
    (hg : g.method = m) (hn : As.length = n) (hsize : g.locals.size = nL) (hstack : g.stack = As.reverse ++ rest) (hW : 2 * g.monitorRoom + (rest.map fun v => v.category).sum ≤ 8) (hdg : decode cc g.pc = .ok (.invokestatic index, 3)) (hf : cells + mc ≤ R.cells ∧ slots + ms ≤ R.slots) :
    vx_Run p l e R s m args below meth c H locs cells slots mc ms g rest (Qc As.toArray) XC free := by
  have hK : vx_Back l R p e below s args y 3 8 (PreOf R mc ms Pc) (PostOf Qc mc ms free) (vx_Post XC mc ms free) := vx_callBack cw.1 hM hp.1
  obtain ⟨⟨-, -, -, -, -, -, hcode, hini, hy, hlen, hl⟩, hstt⟩ := cw
  obtain ⟨hx, hb, hml, ho, -⟩ := S
  intro T hT X
  rcases vx_callS X hx (bytes := bytes) (maxL := maxL) (ret := ret) ho hl hstt hini hcode hy hK hg (hsize.trans hml.symm) (argsL := As) (rest := rest) (fun sig h => hn.trans (hlen sig h)) hstack hW (by rw [hb]; exact hdg)
    (fun vm₁ hW₁ => ⟨hf.1, hf.2, hp.2 (T.setVm vm₁) hT hW₁⟩) with ⟨v, vm₁, ⟨U', l2, c2, s2⟩, hW₁, X', ⟨g', mk, t, L, e1, e2, hq, h1, hL, h2, h3⟩, st⟩ | ⟨q, vm₁, ⟨U', l2, c2, s2⟩, hW₁, X', ⟨g', mk, t, L, E, ce, e1, e2, hq, hce, hcv, hcl, h1, hL, h2, h3⟩, st⟩
  · dsimp only [Pt.U, Pt.locs, Pt.cells, Pt.slots] at X' e1 e2 h1 h2 h3 st
    subst h1; subst h2; subst h3
    exact Or.inl ⟨v, (T.setVm vm₁).calling g' mk As.toArray, t, U', L, hT, X', hL, e1, e2, hq, st⟩
  · dsimp only [Pt.U, Pt.locs, Pt.cells, Pt.slots] at X' e1 e2 h1 h2 h3 st hcl
    subst h1; subst h2; subst h3
    exact Or.inr ⟨q, (T.setVm vm₁).calling g' mk As.toArray, t, U', L, E, ce, hT, X', hL, e1, e2, hq, hce, hcv, vx_cls hW₁ hcl, st⟩
end Runs
section Rows
variable {p : Program} {l : Launch} {e : Env} {R : Room} {s : State} {m : MethodId} {args : Array Value} {below : List Frame} {meth : Method} {c : Code} {H : Heap} {locs : List Loc} {cells slots : Nat} {Q : State → Prop}
variable {mc ms : Nat} {free : Addr → Prop} {A0 A1 : Nat → Prop} {H0 : Heap} {a : Array Value} {pc : Nat} {ls : Array Slot} {st0 rest : List Value}
theorem vx_keep {st₀ t T' : State} {L : List Loc} (h0 : st₀.heap = H) (e1 : T'.heap = t.heap) (hS : va_S A0 H0 H locs) (hA : ∀ q, q < H.size → A1 q → A0 q) (hf : ∀ q, free q → A0 q) (hL : ∀ q ∈ L, free q.base) (hF : va_F A1 st₀ t) :
    H.size ≤ T'.heap.size ∧ (∀ q : Nat, q < H.size → ¬ A1 q → T'.heap[q]? = H[q]?) ∧ va_S A0 H0 T'.heap (locs ++ L) := by
  obtain ⟨hz, hk⟩ := hF
  rw [h0] at hz hk
  exact ⟨by rw [e1]; exact hz, fun q h1 h2 => by rw [e1]; exact hk q h1 h2,
    ⟨Nat.le_trans hS.1 (by rw [e1]; exact hz), fun q h1 h2 => by rw [e1, hk q (Nat.lt_of_lt_of_le h1 hS.1) (fun z => h2 (hA q (Nat.lt_of_lt_of_le h1 hS.1) z))]; exact hS.2.1 q h1 h2, fun q hq => by
      rcases List.mem_append.mp hq with h | h
      · exact hS.2.2 q h
      · exact hf _ (hL q h)⟩⟩
theorem vx_calli {S SX : Type} {post : Int32 → S → Prop} {px : SX → Prop} {B : S → State → Prop} {BX : String → SX → State → Prop} {AX : Nat → Prop} (hr : vx_Run p l e R s m args below meth c H locs cells slots mc ms (F0 m pc ls st0) rest (va_Qi post B A1 a) (vx_X px BX AX) free) (hS : va_S A0 H0 H locs) (hA : ∀ q, q < H.size → A1 q → A0 q) (hf : ∀ q, free q → A0 q) (hAX : ∀ q, q < H.size → AX q → A0 q)
    (kx : ∀ (E : String) (ce : Cell) (q9 : Addr) (u : SX) (t : State) (H1 : Heap) (locs1 : List Loc), t.heap = H1 → s.vm.Alike t.vm → px u → BX E u t → H.size ≤ H1.size → (∀ q : Nat, q < H.size → ¬ AX q → H1[q]? = H[q]?) → va_S A0 H0 H1 locs1 → H1[q9]? = some ce → ce.vm = .none → s.vm.findClass E = some ce.cls → vx_W p l e R s m args below meth c H1 locs1 (cells + mc) (slots + ms) Q (F0 m pc ls rest) q9)
    (kk : ∀ (r : Int32) (u : S) (t : State) (H1 : Heap) (locs1 : List Loc), t.heap = H1 → s.vm.Alike t.vm → post r u → B u t → H.size ≤ H1.size → (∀ q : Nat, q < H.size → ¬ A1 q → H1[q]? = H[q]?) → va_S A0 H0 H1 locs1 → W p l e R s m args below meth c H1 locs1 (cells + mc) (slots + ms) Q (F0 m (pc + 3) ls (.int r :: rest))) : W p l e R s m args below meth c H locs cells slots Q (F0 m pc ls st0) := by
  intro T hT X
  rcases hr T hT X with ⟨v, st₀, t, T', L, h0, X', hL, e1, e2, ⟨⟨r, u, hv, hp, hb⟩, hF⟩, st⟩ | ⟨q, st₀, t, T', L, E, ce, h0, X', hL, e1, e2, ⟨u, hp, hb, hF⟩, hce, hcv, hcl, st⟩
  · cases hv
    obtain ⟨k1, k2, k3⟩ := vx_keep h0 e1 hS hA hf hL hF
    obtain ⟨t2, a1, b1⟩ := kk r u t T'.heap (locs ++ L) e1.symm (by rw [← e2]; exact X'.warmed.alike) hp hb k1 k2 k3 T' rfl X'
    exact ⟨t2, st t2 a1, b1⟩
  · obtain ⟨k1, k2, k3⟩ := vx_keep h0 e1 hS hAX hf hL hF
    obtain ⟨t2, a1, b1⟩ := kx E ce q u t T'.heap (locs ++ L) e1.symm (by rw [← e2]; exact X'.warmed.alike) hp hb k1 k2 k3 (by rw [e1]; exact hce) hcv hcl T' rfl X'
    exact ⟨t2, st.trans a1, b1⟩
theorem vx_calll {S SX : Type} {post : Int64 → S → Prop} {px : SX → Prop} {B : S → State → Prop} {BX : String → SX → State → Prop} {AX : Nat → Prop} (hr : vx_Run p l e R s m args below meth c H locs cells slots mc ms (F0 m pc ls st0) rest (va_Ql post B A1 a) (vx_X px BX AX) free) (hS : va_S A0 H0 H locs) (hA : ∀ q, q < H.size → A1 q → A0 q) (hf : ∀ q, free q → A0 q) (hAX : ∀ q, q < H.size → AX q → A0 q)
    (kx : ∀ (E : String) (ce : Cell) (q9 : Addr) (u : SX) (t : State) (H1 : Heap) (locs1 : List Loc), t.heap = H1 → s.vm.Alike t.vm → px u → BX E u t → H.size ≤ H1.size → (∀ q : Nat, q < H.size → ¬ AX q → H1[q]? = H[q]?) → va_S A0 H0 H1 locs1 → H1[q9]? = some ce → ce.vm = .none → s.vm.findClass E = some ce.cls → vx_W p l e R s m args below meth c H1 locs1 (cells + mc) (slots + ms) Q (F0 m pc ls rest) q9)
    (kk : ∀ (r : Int64) (u : S) (t : State) (H1 : Heap) (locs1 : List Loc), t.heap = H1 → s.vm.Alike t.vm → post r u → B u t → H.size ≤ H1.size → (∀ q : Nat, q < H.size → ¬ A1 q → H1[q]? = H[q]?) → va_S A0 H0 H1 locs1 → W p l e R s m args below meth c H1 locs1 (cells + mc) (slots + ms) Q (F0 m (pc + 3) ls (.long r :: rest))) : W p l e R s m args below meth c H locs cells slots Q (F0 m pc ls st0) := by
  intro T hT X
  rcases hr T hT X with ⟨v, st₀, t, T', L, h0, X', hL, e1, e2, ⟨⟨r, u, hv, hp, hb⟩, hF⟩, st⟩ | ⟨q, st₀, t, T', L, E, ce, h0, X', hL, e1, e2, ⟨u, hp, hb, hF⟩, hce, hcv, hcl, st⟩
  · cases hv
    obtain ⟨k1, k2, k3⟩ := vx_keep h0 e1 hS hA hf hL hF
    obtain ⟨t2, a1, b1⟩ := kk r u t T'.heap (locs ++ L) e1.symm (by rw [← e2]; exact X'.warmed.alike) hp hb k1 k2 k3 T' rfl X'
    exact ⟨t2, st t2 a1, b1⟩
  · obtain ⟨k1, k2, k3⟩ := vx_keep h0 e1 hS hAX hf hL hF
    obtain ⟨t2, a1, b1⟩ := kx E ce q u t T'.heap (locs ++ L) e1.symm (by rw [← e2]; exact X'.warmed.alike) hp hb k1 k2 k3 (by rw [e1]; exact hce) hcv hcl T' rfl X'
    exact ⟨t2, st.trans a1, b1⟩
theorem vx_callf {S SX : Type} {post : UInt32 → S → Prop} {px : SX → Prop} {B : S → State → Prop} {BX : String → SX → State → Prop} {AX : Nat → Prop} (hr : vx_Run p l e R s m args below meth c H locs cells slots mc ms (F0 m pc ls st0) rest (va_Qf post B A1 a) (vx_X px BX AX) free) (hS : va_S A0 H0 H locs) (hA : ∀ q, q < H.size → A1 q → A0 q) (hf : ∀ q, free q → A0 q) (hAX : ∀ q, q < H.size → AX q → A0 q)
    (kx : ∀ (E : String) (ce : Cell) (q9 : Addr) (u : SX) (t : State) (H1 : Heap) (locs1 : List Loc), t.heap = H1 → s.vm.Alike t.vm → px u → BX E u t → H.size ≤ H1.size → (∀ q : Nat, q < H.size → ¬ AX q → H1[q]? = H[q]?) → va_S A0 H0 H1 locs1 → H1[q9]? = some ce → ce.vm = .none → s.vm.findClass E = some ce.cls → vx_W p l e R s m args below meth c H1 locs1 (cells + mc) (slots + ms) Q (F0 m pc ls rest) q9)
    (kk : ∀ (r : UInt32) (u : S) (t : State) (H1 : Heap) (locs1 : List Loc), t.heap = H1 → s.vm.Alike t.vm → post r u → B u t → H.size ≤ H1.size → (∀ q : Nat, q < H.size → ¬ A1 q → H1[q]? = H[q]?) → va_S A0 H0 H1 locs1 → W p l e R s m args below meth c H1 locs1 (cells + mc) (slots + ms) Q (F0 m (pc + 3) ls (.float r :: rest))) : W p l e R s m args below meth c H locs cells slots Q (F0 m pc ls st0) := by
  intro T hT X
  rcases hr T hT X with ⟨v, st₀, t, T', L, h0, X', hL, e1, e2, ⟨⟨r, u, hv, hp, hb⟩, hF⟩, st⟩ | ⟨q, st₀, t, T', L, E, ce, h0, X', hL, e1, e2, ⟨u, hp, hb, hF⟩, hce, hcv, hcl, st⟩
  · cases hv
    obtain ⟨k1, k2, k3⟩ := vx_keep h0 e1 hS hA hf hL hF
    obtain ⟨t2, a1, b1⟩ := kk r u t T'.heap (locs ++ L) e1.symm (by rw [← e2]; exact X'.warmed.alike) hp hb k1 k2 k3 T' rfl X'
    exact ⟨t2, st t2 a1, b1⟩
  · obtain ⟨k1, k2, k3⟩ := vx_keep h0 e1 hS hAX hf hL hF
    obtain ⟨t2, a1, b1⟩ := kx E ce q u t T'.heap (locs ++ L) e1.symm (by rw [← e2]; exact X'.warmed.alike) hp hb k1 k2 k3 (by rw [e1]; exact hce) hcv hcl T' rfl X'
    exact ⟨t2, st.trans a1, b1⟩
theorem vx_calld {S SX : Type} {post : UInt64 → S → Prop} {px : SX → Prop} {B : S → State → Prop} {BX : String → SX → State → Prop} {AX : Nat → Prop} (hr : vx_Run p l e R s m args below meth c H locs cells slots mc ms (F0 m pc ls st0) rest (va_Qd post B A1 a) (vx_X px BX AX) free) (hS : va_S A0 H0 H locs) (hA : ∀ q, q < H.size → A1 q → A0 q) (hf : ∀ q, free q → A0 q) (hAX : ∀ q, q < H.size → AX q → A0 q)
    (kx : ∀ (E : String) (ce : Cell) (q9 : Addr) (u : SX) (t : State) (H1 : Heap) (locs1 : List Loc), t.heap = H1 → s.vm.Alike t.vm → px u → BX E u t → H.size ≤ H1.size → (∀ q : Nat, q < H.size → ¬ AX q → H1[q]? = H[q]?) → va_S A0 H0 H1 locs1 → H1[q9]? = some ce → ce.vm = .none → s.vm.findClass E = some ce.cls → vx_W p l e R s m args below meth c H1 locs1 (cells + mc) (slots + ms) Q (F0 m pc ls rest) q9)
    (kk : ∀ (r : UInt64) (u : S) (t : State) (H1 : Heap) (locs1 : List Loc), t.heap = H1 → s.vm.Alike t.vm → post r u → B u t → H.size ≤ H1.size → (∀ q : Nat, q < H.size → ¬ A1 q → H1[q]? = H[q]?) → va_S A0 H0 H1 locs1 → W p l e R s m args below meth c H1 locs1 (cells + mc) (slots + ms) Q (F0 m (pc + 3) ls (.double r :: rest))) : W p l e R s m args below meth c H locs cells slots Q (F0 m pc ls st0) := by
  intro T hT X
  rcases hr T hT X with ⟨v, st₀, t, T', L, h0, X', hL, e1, e2, ⟨⟨r, u, hv, hp, hb⟩, hF⟩, st⟩ | ⟨q, st₀, t, T', L, E, ce, h0, X', hL, e1, e2, ⟨u, hp, hb, hF⟩, hce, hcv, hcl, st⟩
  · cases hv
    obtain ⟨k1, k2, k3⟩ := vx_keep h0 e1 hS hA hf hL hF
    obtain ⟨t2, a1, b1⟩ := kk r u t T'.heap (locs ++ L) e1.symm (by rw [← e2]; exact X'.warmed.alike) hp hb k1 k2 k3 T' rfl X'
    exact ⟨t2, st t2 a1, b1⟩
  · obtain ⟨k1, k2, k3⟩ := vx_keep h0 e1 hS hAX hf hL hF
    obtain ⟨t2, a1, b1⟩ := kx E ce q u t T'.heap (locs ++ L) e1.symm (by rw [← e2]; exact X'.warmed.alike) hp hb k1 k2 k3 (by rw [e1]; exact hce) hcv hcl T' rfl X'
    exact ⟨t2, st.trans a1, b1⟩
theorem vx_callv {S SX : Type} {post : S → Prop} {px : SX → Prop} {B : S → State → Prop} {BX : String → SX → State → Prop} {AX : Nat → Prop} (hr : vx_Run p l e R s m args below meth c H locs cells slots mc ms (F0 m pc ls st0) rest (va_Qv post B A1 a) (vx_X px BX AX) free) (hS : va_S A0 H0 H locs) (hA : ∀ q, q < H.size → A1 q → A0 q) (hf : ∀ q, free q → A0 q) (hAX : ∀ q, q < H.size → AX q → A0 q)
    (kx : ∀ (E : String) (ce : Cell) (q9 : Addr) (u : SX) (t : State) (H1 : Heap) (locs1 : List Loc), t.heap = H1 → s.vm.Alike t.vm → px u → BX E u t → H.size ≤ H1.size → (∀ q : Nat, q < H.size → ¬ AX q → H1[q]? = H[q]?) → va_S A0 H0 H1 locs1 → H1[q9]? = some ce → ce.vm = .none → s.vm.findClass E = some ce.cls → vx_W p l e R s m args below meth c H1 locs1 (cells + mc) (slots + ms) Q (F0 m pc ls rest) q9)
    (kk : ∀ (u : S) (t : State) (H1 : Heap) (locs1 : List Loc), t.heap = H1 → s.vm.Alike t.vm → post u → B u t → H.size ≤ H1.size → (∀ q : Nat, q < H.size → ¬ A1 q → H1[q]? = H[q]?) → va_S A0 H0 H1 locs1 → W p l e R s m args below meth c H1 locs1 (cells + mc) (slots + ms) Q (F0 m (pc + 3) ls (rest))) : W p l e R s m args below meth c H locs cells slots Q (F0 m pc ls st0) := by
  intro T hT X
  rcases hr T hT X with ⟨v, st₀, t, T', L, h0, X', hL, e1, e2, ⟨⟨u, hv, hp, hb⟩, hF⟩, st⟩ | ⟨q, st₀, t, T', L, E, ce, h0, X', hL, e1, e2, ⟨u, hp, hb, hF⟩, hce, hcv, hcl, st⟩
  · cases hv
    obtain ⟨k1, k2, k3⟩ := vx_keep h0 e1 hS hA hf hL hF
    obtain ⟨t2, a1, b1⟩ := kk u t T'.heap (locs ++ L) e1.symm (by rw [← e2]; exact X'.warmed.alike) hp hb k1 k2 k3 T' rfl X'
    exact ⟨t2, st t2 a1, b1⟩
  · obtain ⟨k1, k2, k3⟩ := vx_keep h0 e1 hS hAX hf hL hF
    obtain ⟨t2, a1, b1⟩ := kx E ce q u t T'.heap (locs ++ L) e1.symm (by rw [← e2]; exact X'.warmed.alike) hp hb k1 k2 k3 (by rw [e1]; exact hce) hcv hcl T' rfl X'
    exact ⟨t2, st.trans a1, b1⟩
/-- caught by the row x of this method's table; the rows ahead don't take it -/
theorem vx_catch {own name : String} {E : String} {ce : Cell} {q : Addr} (hown : s.vm.findClass own = some m.cls) (pre : List ExceptionTableEntry) (x : ExceptionTableEntry) (suf : List ExceptionTableEntry) (hsplit : c.exceptionTable.toList = pre ++ x :: suf)
    (hpass : ∀ z ∈ pre, covers z pc = false ∨ (z.catchType ≠ 0 ∧ ∃ nm : String, (Cond.classLink own z.catchType nm).before args s = true ∧ va_Nc E nm s)) (hx : covers x pc = true) (h0 : x.catchType ≠ 0)
    (hlink : (Cond.classLink own x.catchType name).before args s = true) (hcast : (Cond.castable E name).before args s = true) (hcell : H[q]? = some ce) (hv : ce.vm = .none) (hcl : s.vm.findClass E = some ce.cls)
    (kk : W p l e R s m args below meth c H locs cells slots Q (F0 m x.handlerPc ls [.ref q])) : vx_W p l e R s m args below meth c H locs cells slots Q (F0 m pc ls rest) q := by
  intro T hT X
  have hpl : e.platform.magicAccessors = ({} : Platform).magicAccessors := by rw [X.admits.platform]
  obtain ⟨c3, c4, hc3, hc4, hasg⟩ := Cond.castable_spec hcast
  cases Option.some.inj (hc3.symm.trans hcl)
  obtain ⟨c5, hc5, hcl5⟩ := Cond.classLink_spec hown hlink e.platform hpl
  cases Option.some.inj (hc4.symm.trans hc5)
  obtain ⟨vm', X', st⟩ := X.thenCaughtThrough q (g := F0 m pc ls rest) rfl (Steps.refl _) (by rw [hT]; exact hcell) (by rw [hv]; rfl) (by obtain ⟨k9, h9, -⟩ := Vm.findClass_spec hcl; exact ⟨k9, h9⟩) pre x suf hsplit
    (fun z hz => by
      rcases hpass z hz with h | ⟨hz0, nm, hl1, hn1⟩
      · exact Or.inl h
      · obtain ⟨c6, hc6, hcl6⟩ := Cond.classLink_spec hown hl1 e.platform hpl
        obtain ⟨a8, b8, h1, h2, h3⟩ := hn1
        cases Option.some.inj (h1.symm.trans hcl)
        cases Option.some.inj (h2.symm.trans hc6)
        exact Or.inr ⟨hz0, _, hcl6, h3⟩) hx (Or.inr ⟨h0, c4, hcl5, hasg⟩)
  obtain ⟨t, a1, b1⟩ := kk (T.setVm vm') hT X'
  exact ⟨t, st.trans a1, b1⟩
end Rows
section Ends
variable {p : Program} {l : Launch} {e : Env} {R : Room} {s : State} {m : MethodId} {args : Array Value} {below : List Frame} {meth : Method} {c : Code} {H : Heap} {locs : List Loc} {cells slots : Nat} {Q : State → Prop}
variable {mc ms : Nat} {free : Addr → Prop} {A0 A1 : Nat → Prop} {H0 : Heap} {a : Array Value} {ls : Array Slot} {st0 rest : List Value}
variable {Qc : Array Value → State → Outcome → State → Prop} {XC : String → State → State → Prop}
/-- what a body that may throw owes at its end -/
def vx_MQ (below : List Frame) (Qc : Array Value → State → Outcome → State → Prop) (XC : String → State → State → Prop) (a : Array Value) (s : State) (mc ms : Nat) (free : Addr → Prop) : State → Prop := fun t =>
  ∃ o, t.status = .running ∧ Ended t below o ∧ vx_Q Qc XC mc ms free a s o t
theorem vx_ret {g : JFrame} {mc ms : Nat} (k : W p l e R s m args below meth c H locs cells slots (MQ below Qc args s mc ms free) g) : W p l e R s m args below meth c H locs cells slots (vx_MQ below Qc XC args s mc ms free) g := by
  intro T hT X
  obtain ⟨t, a1, o, b1, b2, b3, b4⟩ := k T hT X
  exact ⟨t, a1, o, b1, b2, Or.inl ⟨b3, b4⟩⟩
/-- not caught here: it goes on to the caller -/
theorem vx_widen {g : JFrame} {q : Addr} {k n : Nat} (h1 : cells ≤ k) (h2 : slots ≤ n) (kk : vx_W p l e R s m args below meth c H locs k n Q g q) : vx_W p l e R s m args below meth c H locs cells slots Q g q := fun T hT X => kk T hT (stand_widen X h1 h2)
theorem vx_out {pc : Nat} {E : String} {ce : Cell} {q : Addr} {mc ms : Nat} (hout : ∀ x ∈ c.exceptionTable.toList, covers x pc = false) (hlocks : meth.locks = false) (hcell : H[q]? = some ce) (hv : ce.vm = .none) (hcl : s.vm.findClass E = some ce.cls)
    (hx : ∀ t : State, t.heap = H → s.vm.Alike t.vm → XC E s t) (hf : ∀ z ∈ locs, free z.base) (hc : cells ≤ mc) (hs : slots ≤ ms) :
    vx_W p l e R s m args below meth c H locs cells slots (vx_MQ below Qc XC args s mc ms free) (F0 m pc ls rest) q := by
  intro T hT X
  obtain ⟨st1, hrun, hend, hW, hsm⟩ := X.leaveThrown q (g := F0 m pc ls rest) rfl rfl rfl hout hlocks
  have hcell9 : (T.setFrames (.throwing q :: below)).heap[q]? = some ce := by
    show T.heap[q]? = some ce
    rw [hT]; exact hcell
  exact ⟨_, st1, .threw q, hrun, hend, Or.inr ⟨q, rfl, E, ce, locs, hx _ hT hW.alike, hcell9, hv, hcl, hW, hsm.mono hc hs, hf⟩⟩
theorem vx_frame {U : State} {k n : Nat} (h : s.sameButNew ({ U with vm := s.vm } : State) locs k n) : s.heap.size ≤ U.heap.size ∧ ∀ q : Nat, q < s.heap.size → (∀ z ∈ locs, z.base ≠ q) → U.heap[q]? = s.heap[q]? := by
  obtain ⟨-, h2, -, -, -, h6⟩ := h
  refine ⟨h2, fun q hq hz => ?_⟩
  obtain ⟨c9, e1, e2, e3, e4⟩ := h6 q _ (Array.getElem?_eq_getElem hq)
  have hs : c9.slots = (s.heap[q]).slots := Array.ext_getElem? fun i => e4 i fun hm => hz _ hm rfl
  have h9 : c9 = s.heap[q] := by
    rw [hs] at e2
    exact e2
  have e5 : U.heap[q]? = some c9 := e1
  rw [e5, h9, Array.getElem?_eq_getElem hq]
/-- the words of a throw but the four that speak of the heap -/
def vx_no (w : Cond) : Bool := decide (w ≠ .isRef (.static Bundle.tN "UNASSIGNED_STACK" Bundle.steD)) && decide (w ≠ .isRef (.static Bundle.tN "SUPPRESSED_SENTINEL" Bundle.listD)) && decide (w ≠ .laysStatic Bundle.tN "UNASSIGNED_STACK" Bundle.steD) && decide (w ≠ .laysStatic Bundle.tN "SUPPRESSED_SENTINEL" Bundle.listD)
def vx_at0 (own : String) (ic : Nat) (X : String) (names : List String) : List Cond := (Bundle.ownAtoms0 own ic X names).filter vx_no
def vx_atS (own : String) (ic : Nat) (X : String) (names : List String) : List Cond := (Bundle.ownAtoms own ic X names).filter vx_no
/-- a word that the tables alone decide, or a good one -/
def vx_ot (w : Cond) : Bool := w.onTables || goodWord w
theorem vx_ot_at {args a' : Array Value} {s U : State} {w : Cond} (hW : s.WarmedH U.vm) (hvm : s.vm = U.vm) (hg : vx_ot w = true) (h : w.before args s = true) : w.before a' U = true := by
  simp only [vx_ot, Bool.or_eq_true] at hg
  rcases hg with hg | hg
  · exact va_tabs hg hvm h
  · exact word_at hW (good_of_word hg) h
/-- a list's words: the good ones out of the method's own list, the others by premises of their own -/
theorem vx_hat {args : Array Value} {s : State} {L B : List Cond} (h1 : ∀ w ∈ L.filter goodWord, w.before args s = true) (h2 : ∀ w ∈ L.filter (fun w => !goodWord w), w ∈ B) (h3 : ∀ w ∈ B, w.before args s = true) : ∀ w ∈ L, w.before args s = true := by
  intro w hw
  by_cases g : goodWord w = true
  · exact h1 w (List.mem_filter.mpr ⟨hw, g⟩)
  · refine h3 w (h2 w (List.mem_filter.mpr ⟨hw, ?_⟩))
    show (!goodWord w) = true
    cases hgw : goodWord w
    · rfl
    · exact absurd hgw g
theorem vx_c {args : Array Value} {s : State} {w : Cond} {B : List Cond} (h : w.before args s = true) (t : ∀ w ∈ B, w.before args s = true) : ∀ w' ∈ w :: B, w'.before args s = true := fun w' h' => (List.mem_cons.mp h').elim (fun e => by rw [e]; exact h) (t w')
theorem vx_n {args : Array Value} {s : State} : ∀ w ∈ ([] : List Cond), w.before args s = true := fun _ h => nomatch h
theorem vx_own {args : Array Value} {s : State} {L : List Cond} (h1 : ∀ w ∈ L.filter vx_no, w.before args s = true)
    (hU : (Cond.isRef (.static Bundle.tN "UNASSIGNED_STACK" Bundle.steD)).before args s = true) (hN : (Cond.isRef (.static Bundle.tN "SUPPRESSED_SENTINEL" Bundle.listD)).before args s = true)
    (lU : (Cond.laysStatic Bundle.tN "UNASSIGNED_STACK" Bundle.steD).before args s = true) (lN : (Cond.laysStatic Bundle.tN "SUPPRESSED_SENTINEL" Bundle.listD).before args s = true) : ∀ w ∈ L, w.before args s = true := by
  intro w hw
  by_cases e1 : w = .isRef (.static Bundle.tN "UNASSIGNED_STACK" Bundle.steD)
  · rw [e1]; exact hU
  · by_cases e2 : w = .isRef (.static Bundle.tN "SUPPRESSED_SENTINEL" Bundle.listD)
    · rw [e2]; exact hN
    · by_cases e3 : w = .laysStatic Bundle.tN "UNASSIGNED_STACK" Bundle.steD
      · rw [e3]; exact lU
      · by_cases e4 : w = .laysStatic Bundle.tN "SUPPRESSED_SENTINEL" Bundle.listD
        · rw [e4]; exact lN
        · exact h1 w (List.mem_filter.mpr ⟨hw, by unfold vx_no; rw [decide_eq_true e1, decide_eq_true e2, decide_eq_true e3, decide_eq_true e4]; rfl⟩)
/-- where a static field lies, its class's statics cell in H -/
def vx_L (C n d : String) (A : Nat → Prop) (U : State) (H : Heap) : Prop := ∃ (c : ClassId) (k : Class) (i : Nat) (f : Field) (a : Nat) (cell : Cell), U.vm.findClass C = some c ∧ U.fieldFound? C n d = some (c, k, i, f) ∧ f.isStatic = true ∧ k.statics = some a ∧ H[a]? = some cell ∧ cell.vm.isStatics = true ∧ cell.cls = c ∧ f.slot < cell.slots.size ∧ k.staticTypes[f.slot]? = some f.type ∧ ¬ A a
theorem vx_L.moved {C n d : String} {A : Nat → Prop} {u U : State} {H : Heap} (hvm : u.vm.Alike U.vm) (h : vx_L C n d A u H) : vx_L C n d A U H := by
  obtain ⟨c, k, i, f, a, cell, h1, h2, h3, h4, h5, h6, h7, h8, h9, h10⟩ := h
  obtain ⟨k', hi', he⟩ := State.fieldFound?_setVm hvm h2
  exact ⟨c, k', i, f, a, cell, by rw [hvm.findClass]; exact h1, hi', h3, by rw [he]; exact h4, h5, h6, h7, h8, by rw [he]; exact h9, h10⟩
theorem vx_L.kept {C n d : String} {A : Nat → Prop} {U : State} {H H1 : Heap} (h : vx_L C n d A U H) (hq : ∀ a : Nat, a < H.size → ¬ A a → H1[a]? = H[a]?) : vx_L C n d A U H1 := by
  obtain ⟨c, k, i, f, a, cell, h1, h2, h3, h4, h5, h6, h7, h8, h9, h10⟩ := h
  exact ⟨c, k, i, f, a, cell, h1, h2, h3, h4, by rw [hq a (Array.getElem?_eq_some_iff.mp h5).1 h10]; exact h5, h6, h7, h8, h9, h10⟩
theorem vx_L.narrow {C n d : String} {A B : Nat → Prop} {U : State} {H : Heap} (h : vx_L C n d A U H) (hAB : ∀ q, B q → A q) : vx_L C n d B U H := by
  obtain ⟨c, k, i, f, a, cell, h1, h2, h3, h4, h5, h6, h7, h8, h9, h10⟩ := h
  exact ⟨c, k, i, f, a, cell, h1, h2, h3, h4, h5, h6, h7, h8, h9, fun z => h10 (hAB _ z)⟩
theorem vx_L.word {C n d : String} {A : Nat → Prop} {s : State} {args : Array Value} (h : vx_L C n d A s s.heap) : (Cond.laysStatic C n d).before args s = true := by
  obtain ⟨c, k, i, f, a, cell, h1, h2, h3, h4, h5, h6, h7, h8, h9, -⟩ := h
  show (Cond.laysStatic C n d).holds args s none s [] = true
  exact Cond.laysStatic_of h1 h2 h3 h4 h5 h6 h7 h8 h9
/-- .. and what it holds: null or some reference -/
def vx_Zq (C n d : String) (A : Nat → Prop) (U : State) (H : Heap) : Prop := va_Zq C n d A U H ∧ vx_L C n d A U H
theorem vx_Zq.moved {C n d : String} {A : Nat → Prop} {u U : State} {H : Heap} (hvm : u.vm.Alike U.vm) (h : vx_Zq C n d A u H) : vx_Zq C n d A U H := ⟨va_Zq.moved hvm h.1, vx_L.moved hvm h.2⟩
theorem vx_Zq.kept {C n d : String} {A : Nat → Prop} {U : State} {H H1 : Heap} (h : vx_Zq C n d A U H) (hq : ∀ a : Nat, a < H.size → ¬ A a → H1[a]? = H[a]?) : vx_Zq C n d A U H1 := ⟨va_Zq.kept h.1 hq, vx_L.kept h.2 hq⟩
theorem vx_Zq.narrow {C n d : String} {A B : Nat → Prop} {U : State} {H : Heap} (h : vx_Zq C n d A U H) (hAB : ∀ q, B q → A q) : vx_Zq C n d B U H := ⟨va_Zq.narrow h.1 hAB, vx_L.narrow h.2 hAB⟩
theorem vx_Zqof {args : Array Value} {s : State} {C n d : String} {A : Nat → Prop} (hl : (Cond.laysStatic C n d).before args s = true) (hini : (Cond.initialized C).before args s = true) (h : (Cond.isRef (.static C n d)).before args s = true) (hA : ∀ a : Nat, a < s.heap.size → ¬ A a) : vx_Zq C n d A s s.heap := by
  refine ⟨va_Zqof hl hini h hA, ?_⟩
  obtain ⟨c, k, i, f, a, cell, h1, h2, h3, h4, h5, h6, h7, h8, h9⟩ := Cond.laysStatic_spec hl
  exact ⟨c, k, i, f, a, cell, h1, h2, h3, h4, h5, h6, h7, h8, h9, hA a (Array.getElem?_eq_some_iff.mp h5).1⟩
theorem vx_isRef {C n d : String} {v : Value} {A : Nat → Prop} {s : State} {args : Array Value} (h : va_Z C n d v A s s.heap) (hv : v.isRef = true) : (Cond.isRef (.static C n d)).before args s = true := by
  obtain ⟨cf, kf, fi, f, a, cell, h1, h2, h3, h4, h5, h6, h7, -⟩ := h
  have he : (Term.static C n d).eval args s none [] s = some v := by
    simp [Term.eval, State.fieldNamed?, h1, h2, h4, h5, h6, h7]
  simp only [Cond.before, Cond.holds, Cond.value, he]
  cases v <;> simp_all [Value.isRef]
theorem vx_isRefq {C n d : String} {A : Nat → Prop} {s : State} {args : Array Value} (h : va_Zq C n d A s s.heap) : (Cond.isRef (.static C n d)).before args s = true := by
  rcases h with h | ⟨t, h⟩
  · exact vx_isRef h rfl
  · exact vx_isRef h rfl
/-- the same frame, seen from here: as if the method were called anew in this heap -/
theorem vx_rebase {T : State} (X : Stand p l e R s m args below meth c T locs cells slots) {R' : Room} (hf : R'.frames ≤ R.frames) (hl : R'.locals ≤ R.locals) (hc : cells + R'.cells ≤ R.cells) (hs : slots + R'.slots ≤ R.slots) :
    Stand p l e R' ((T.setVm s.vm).setFrames (.invoking m args :: below)) m args below meth c T [] 0 0 := by
  have htop : (T.setVm s.vm).topJava?.isSome := X.here.top
  have hF : ((T.setVm s.vm).setFrames (.invoking m args :: below)).frames = .invoking m args :: below := State.frames_setFrames _ (State.cur_lt_of_top htop)
  obtain ⟨g₀, hg0⟩ := Option.isSome_iff_exists.mp htop
  obtain ⟨r, hr⟩ := State.topJava?_eq_some.mp hg0
  have hl9 : e.platform.stackLimits (T.setVm s.vm).me = e.platform.stackLimits s.me := X.limits
  have hb9 : (T.setVm s.vm).me.stackBytes = s.me.stackBytes := X.bytes
  refine ⟨X.admits, X.cas, X.clock, hF, ?_, X.hears, X.method, X.code, X.here, X.tail, X.warmed, ?_, ?_, ?_⟩
  · have h := X.room
    have hU : ((T.setVm s.vm).setFrames (.invoking m args :: below)).localsInUse = s.localsInUse := by
      rw [State.localsInUse_invoking hF (meth := meth) (c := c) X.method X.code, State.localsInUse_invoking X.frames X.method X.code]
    simp only [State.hasRoom, Bool.and_eq_true, decide_eq_true_eq] at h ⊢
    obtain ⟨⟨⟨⟨h1, h2, h3, h4, h5, h6⟩, h7⟩, h8⟩, h9⟩ := h
    rw [X.frames, List.length_cons] at h2 h3
    have q1 := X.heapSize
    have q2 := X.used
    simp only [hF, hU, List.length_cons, State.stackLimits_setFrames, State.stackBytes_setFrames, hl9, hb9]
    refine ⟨⟨⟨⟨by omega, by omega, by omega, by omega, by omega, h6⟩, ?_⟩, ?_⟩, X.book⟩
    · show T.heap.size + R'.cells ≤ e.platform.maxCells
      omega
    · show T.slotsUsed + R'.slots ≤ e.platform.maxSlots
      omega
  · rw [State.stackLimits_setFrames]; rfl
  · rw [State.stackBytes_setFrames]; rfl
  · refine ⟨?_, Nat.le_refl _, Nat.le_refl _, ?_, ?_, fun a c9 h9 => ⟨c9, h9, rfl, rfl, fun _ _ => rfl⟩⟩
    · obtain ⟨t, ht, -⟩ := State.frames_cons hr
      show T.setVm s.vm = { ((T.setVm s.vm).setFrames (.invoking m args :: below)).setFrames (T.setVm s.vm).frames with heap := T.heap, slotsUsed := T.slotsUsed }
      rw [State.setFrames_setFrames, State.setFrames_self ht]
      rfl
    · show T.slotsUsed = T.slotsUsed + ((T.heap.toList.drop T.heap.size).map (·.slots.size)).sum
      rw [List.drop_eq_nil_of_le (Nat.le_of_eq Array.length_toList)]
      rfl
    · show ((T.heap.toList.drop T.heap.size).map (·.slots.size)).sum ≤ 0
      rw [List.drop_eq_nil_of_le (Nat.le_of_eq Array.length_toList)]
      exact Nat.le_refl _
/-- 'throw new E()': new; dup; invokespecial; athrow -/
theorem vx_throw0 {cc : ByteArray} {pc : Nat} (hexec : p.tables.exec = Jvm.exec) (hb : c.code = cc) (hl : l.stackTraces = false) {own cls : String} {names : List String} {ik ic mc ms : Nat} {A : Nat → Prop}
    (hown : s.vm.findClass own = some m.cls) (hcls : Bundle.fit cls = true) (hnames : ∀ n ∈ names, Bundle.fit n = true)
    (hk : (Cond.classLink own ik cls).before args s = true) (hini : (Cond.initialized cls).before args s = true) (hat : ∀ w ∈ vx_at0 own ic cls names, w.before args s = true)
    (hgood : ∀ w ∈ Cond.classLink own ik cls :: Cond.initialized cls :: vx_at0 own ic cls names, vx_ot w = true)
    (hU : vx_Zq Bundle.tN "UNASSIGNED_STACK" Bundle.steD A s s.heap) (hN : vx_Zq Bundle.tN "SUPPRESSED_SENTINEL" Bundle.listD A s s.heap) (hS : va_S A s.heap H locs) (hsize : ls.size = c.maxLocals)
    (d0 : decode cc pc = .ok (.new ik, 3)) (d3 : decode cc (pc + 3) = .ok (.dup, 1)) (d4 : decode cc (pc + 4) = .ok (.invokespecial ic, 3)) (d7 : decode cc (pc + 7) = .ok (.athrow, 1))
    (hout : ∀ x ∈ c.exceptionTable.toList, covers x (pc + 7) = false)
    (hRframes : names.length + 3 < R.frames) (hRlocals : (rest.map fun v => v.category).sum + (13 * (names.length + 1) + 42) ≤ R.locals) (hRcells : cells + 1 ≤ R.cells) (hRslots : slots + 6 ≤ R.slots) (hlocks : meth.locks = false)
    (hx : ∀ t : State, s.vm.Alike t.vm → H.size ≤ t.heap.size → (∀ q : Nat, q < H.size → t.heap[q]? = H[q]?) → XC cls s t)
    (hf : ∀ z ∈ locs, free z.base) (hc : cells + 1 ≤ mc) (hs : slots + 6 ≤ ms) :
    W p l e R s m args below meth c H locs cells slots (vx_MQ below Qc XC args s mc ms free) (F0 m pc ls rest) := by
  intro T hT X
  have htr : e.platform.stackTraces = false := (show e.platform.stackTraces = l.stackTraces by rw [X.admits.platform]).trans hl
  have Y := vx_rebase X (R' := { frames := R.frames, locals := R.locals, cells := 1, slots := 6 }) (Nat.le_refl _) (Nat.le_refl _) hRcells hRslots
  obtain ⟨s', hA⟩ : ∃ z, z = (T.setVm s.vm).setFrames (.invoking m args :: below) := ⟨_, rfl⟩
  rw [← hA] at Y
  have hvm : s'.vm = s.vm := by rw [hA]; rfl
  have hhp : s'.heap = H := by rw [hA]; exact hT
  have hW0 : s.WarmedH s'.vm := by rw [hvm]; exact State.WarmedH.refl s
  have hat' : ∀ w ∈ vx_at0 own ic cls names, w.before args s' = true := fun w hw => vx_ot_at hW0 hvm.symm (hgood w (List.mem_cons_of_mem _ (List.mem_cons_of_mem _ hw))) (hat w hw)
  have hk' : (Cond.classLink own ik cls).before args s' = true := vx_ot_at hW0 hvm.symm (hgood _ List.mem_cons_self) hk
  have hini' : (Cond.initialized cls).before args s' = true := vx_ot_at hW0 hvm.symm (hgood _ (List.mem_cons_of_mem _ List.mem_cons_self)) hini
  have hU' : vx_Zq Bundle.tN "UNASSIGNED_STACK" Bundle.steD A s' s'.heap := by rw [hhp]; exact vx_Zq.moved hW0.alike (hU.kept hS.2.1)
  have hN' : vx_Zq Bundle.tN "SUPPRESSED_SENTINEL" Bundle.listD A s' s'.heap := by rw [hhp]; exact vx_Zq.moved hW0.alike (hN.kept hS.2.1)
  have h : ∀ w ∈ Bundle.ownAtoms0 own ic cls names, w.before args s' = true := vx_own hat' (vx_isRefq hU'.1) (vx_isRefq hN'.1) hU'.2.word hN'.2.word
  have hown' : s'.vm.findClass own = some m.cls := by rw [hvm]; exact hown
  have hins : (Cond.instantiable cls 6).before args s' = true := h _ (by simp [Bundle.ownAtoms0])
  obtain ⟨vm₁, cX, kX, hfX, hkX, -, -, X₁, st1⟩ := Y.newCold hexec (own := own) (C := cls) (index := ik) (n := 6) hown' hk' hins hini'
    (g := F0 m pc ls rest) rfl (by rw [hb]; exact d0) (Nat.le_refl _) (Nat.le_refl _)
  generalize hT1 : (T.setVm vm₁).pushCell { cls := cX, slots := kX.instanceTypes.map defaultValue, vm := .none } = T1 at X₁ st1
  have hcat : (Value.ref T.heap.size).category = 1 := rfl
  have hcellA : T1.heap[T.heap.size]? = some (freshCell cX kX) := by rw [← hT1]; exact State.heap_pushCell_size _ _
  have d3' : decode c.code (pc + 3) = .ok (.dup, 1) := by rw [hb]; exact d3
  obtain ⟨U, hsteps, hrun, hend, hW, hsame, ce, hce, hO⟩ := X₁.ctorThrow0 hexec htr (own := own) (cls := cls) (names := names) (ic := ic) hown' hcls hnames h (fun x hx => nomatch hx) hfX hkX hcellA (by rw [hhp, hT]; exact Nat.le_refl _)
    (g := { method := m, pc := pc + 4, locals := ls, stack := .ref T.heap.size :: .ref T.heap.size :: rest, locked := none }) rfl hsize rfl rfl (rest := rest) rfl
    (by rw [hb]; exact d4) (by rw [hb]; exact d7) hout hRframes (by simp only [List.map_cons, List.sum_cons, hcat]; omega) hlocks
  obtain ⟨f1, f2⟩ := vx_frame hsame
  rw [hhp] at f1 f2
  have hWs : s.WarmedH U.vm := State.WarmedH.trans hW0 hW
  have hcl : s.vm.findClass cls = some ce.cls := by
    have h9 := hO.cls
    rw [hvm] at h9
    exact h9
  have hall : s.sameButNew ({ U with vm := s.vm } : State) locs mc ms := by
    subst hA
    obtain ⟨e1, e2⟩ := hsame
    rw [State.setFrames_setFrames] at e1
    have h2 : (T.setVm s.vm).sameButNew ({ U with vm := s.vm } : State) [] (0 + 1) (0 + 6) := ⟨e1, e2⟩
    have h3 := X.same.trans h2
    rw [List.append_nil] at h3
    exact h3.mono hc hs
  refine ⟨U, ?_, .threw T.heap.size, hrun, hend, Or.inr ⟨T.heap.size, rfl, cls, ce, locs, hx U hWs.alike f1 (fun q hq => f2 q hq (fun z hz => nomatch hz)), hce, hO.vm, hcl, hWs, hall, hf⟩⟩
  refine st1 _ ?_
  show Steps p.tables e below (T1.setTop { method := m, pc := pc + 3, locals := ls, stack := .ref T.heap.size :: rest, locked := none }) _
  jvm_step X₁.here [X₁.here.top, hexec, d3', Value.category]
  exact hsteps
/-- 'throw new E("text")': new; dup; ldc; invokespecial; athrow -/
theorem vx_throwS {cc : ByteArray} {pc : Nat} (hexec : p.tables.exec = Jvm.exec) (hb : c.code = cc) (hl : l.stackTraces = false) {own cls text : String} {names : List String} {ik is ic mc ms sa : Nat} {A : Nat → Prop}
    (hown : s.vm.findClass own = some m.cls) (hcls : Bundle.fit cls = true) (hnames : ∀ n ∈ names, Bundle.fit n = true)
    (hk : (Cond.classLink own ik cls).before args s = true) (hini : (Cond.initialized cls).before args s = true) (hstr : vk_R own is text sa s) (hat : ∀ w ∈ vx_atS own ic cls names, w.before args s = true)
    (hgood : ∀ w ∈ Cond.classLink own ik cls :: Cond.initialized cls :: vx_atS own ic cls names, vx_ot w = true)
    (hU : vx_Zq Bundle.tN "UNASSIGNED_STACK" Bundle.steD A s s.heap) (hN : vx_Zq Bundle.tN "SUPPRESSED_SENTINEL" Bundle.listD A s s.heap) (hS : va_S A s.heap H locs) (hsize : ls.size = c.maxLocals)
    (d0 : decode cc pc = .ok (.new ik, 3)) (d3 : decode cc (pc + 3) = .ok (.dup, 1)) (d4 : decode cc (pc + 4) = .ok (.ldc is, 2)) (d6 : decode cc (pc + 6) = .ok (.invokespecial ic, 3)) (d9 : decode cc (pc + 9) = .ok (.athrow, 1))
    (hout : ∀ x ∈ c.exceptionTable.toList, covers x (pc + 9) = false)
    (hRframes : names.length + 3 < R.frames) (hRlocals : (rest.map fun v => v.category).sum + (13 * (names.length + 1) + 43) ≤ R.locals) (hRcells : cells + 1 ≤ R.cells) (hRslots : slots + 6 ≤ R.slots) (hlocks : meth.locks = false)
    (hx : ∀ t : State, s.vm.Alike t.vm → H.size ≤ t.heap.size → (∀ q : Nat, q < H.size → t.heap[q]? = H[q]?) → XC cls s t)
    (hf : ∀ z ∈ locs, free z.base) (hc : cells + 1 ≤ mc) (hs : slots + 6 ≤ ms) :
    W p l e R s m args below meth c H locs cells slots (vx_MQ below Qc XC args s mc ms free) (F0 m pc ls rest) := by
  intro T hT X
  have htr : e.platform.stackTraces = false := (show e.platform.stackTraces = l.stackTraces by rw [X.admits.platform]).trans hl
  have Y := vx_rebase X (R' := { frames := R.frames, locals := R.locals, cells := 1, slots := 6 }) (Nat.le_refl _) (Nat.le_refl _) hRcells hRslots
  obtain ⟨s', hA⟩ : ∃ z, z = (T.setVm s.vm).setFrames (.invoking m args :: below) := ⟨_, rfl⟩
  rw [← hA] at Y
  have hvm : s'.vm = s.vm := by rw [hA]; rfl
  have hhp : s'.heap = H := by rw [hA]; exact hT
  have hW0 : s.WarmedH s'.vm := by rw [hvm]; exact State.WarmedH.refl s
  have hat' : ∀ w ∈ vx_atS own ic cls names, w.before args s' = true := fun w hw => vx_ot_at hW0 hvm.symm (hgood w (List.mem_cons_of_mem _ (List.mem_cons_of_mem _ hw))) (hat w hw)
  have hk' : (Cond.classLink own ik cls).before args s' = true := vx_ot_at hW0 hvm.symm (hgood _ List.mem_cons_self) hk
  have hini' : (Cond.initialized cls).before args s' = true := vx_ot_at hW0 hvm.symm (hgood _ (List.mem_cons_of_mem _ List.mem_cons_self)) hini
  have hU' : vx_Zq Bundle.tN "UNASSIGNED_STACK" Bundle.steD A s' s'.heap := by rw [hhp]; exact vx_Zq.moved hW0.alike (hU.kept hS.2.1)
  have hN' : vx_Zq Bundle.tN "SUPPRESSED_SENTINEL" Bundle.listD A s' s'.heap := by rw [hhp]; exact vx_Zq.moved hW0.alike (hN.kept hS.2.1)
  have h : ∀ w ∈ Bundle.ownAtoms own ic cls names, w.before args s' = true := vx_own hat' (vx_isRefq hU'.1) (vx_isRefq hN'.1) hU'.2.word hN'.2.word
  have hown' : s'.vm.findClass own = some m.cls := by rw [hvm]; exact hown
  have hins : (Cond.instantiable cls 6).before args s' = true := h _ (by simp [Bundle.ownAtoms])
  obtain ⟨vm₁, cX, kX, hfX, hkX, -, -, X₁, st1⟩ := Y.newCold hexec (own := own) (C := cls) (index := ik) (n := 6) hown' hk' hins hini'
    (g := F0 m pc ls rest) rfl (by rw [hb]; exact d0) (Nat.le_refl _) (Nat.le_refl _)
  generalize hT1 : (T.setVm vm₁).pushCell { cls := cX, slots := kX.instanceTypes.map defaultValue, vm := .none } = T1 at X₁ st1
  have hcat : (Value.ref T.heap.size).category = 1 := rfl
  have hcellA : T1.heap[T.heap.size]? = some (freshCell cX kX) := by rw [← hT1]; exact State.heap_pushCell_size _ _
  have d3' : decode c.code (pc + 3) = .ok (.dup, 1) := by rw [hb]; exact d3
  have d4' : decode c.code (pc + 4) = .ok (.ldc is, 2) := by rw [hb]; exact d4
  have hstr' : vk_R own is text sa s' := vk_R.warm hW0 hstr
  obtain ⟨U, hsteps, hrun, hend, hW, hsame, ce, hce, hO⟩ := X₁.ctorThrowS hexec htr (own := own) (cls := cls) (names := names) (ic := ic) hown' hcls hnames h (fun x hx => nomatch hx) hfX hkX hcellA (by rw [hhp, hT]; exact Nat.le_refl _) (msg := .ref sa) rfl
    (g := { method := m, pc := pc + 6, locals := ls, stack := .ref sa :: .ref T.heap.size :: .ref T.heap.size :: rest, locked := none }) rfl hsize rfl rfl (rest := rest) rfl
    (by rw [hb]; exact d6) (by rw [hb]; exact d9) hout hRframes (by simp only [List.map_cons, List.sum_cons, hcat]; omega) hlocks
  obtain ⟨f1, f2⟩ := vx_frame hsame
  rw [hhp] at f1 f2
  have hWs : s.WarmedH U.vm := State.WarmedH.trans hW0 hW
  have hcl : s.vm.findClass cls = some ce.cls := by
    have h9 := hO.cls
    rw [hvm] at h9
    exact h9
  have hall : s.sameButNew ({ U with vm := s.vm } : State) locs mc ms := by
    subst hA
    obtain ⟨e1, e2⟩ := hsame
    rw [State.setFrames_setFrames] at e1
    have h2 : (T.setVm s.vm).sameButNew ({ U with vm := s.vm } : State) [] (0 + 1) (0 + 6) := ⟨e1, e2⟩
    have h3 := X.same.trans h2
    rw [List.append_nil] at h3
    exact h3.mono hc hs
  refine ⟨U, ?_, .threw T.heap.size, hrun, hend, Or.inr ⟨T.heap.size, rfl, cls, ce, locs, hx U hWs.alike f1 (fun q hq => f2 q hq (fun z hz => nomatch hz)), hce, hO.vm, hcl, hWs, hall, hf⟩⟩
  refine st1 _ ?_
  show Steps p.tables e below (T1.setTop { method := m, pc := pc + 3, locals := ls, stack := .ref T.heap.size :: rest, locked := none }) _
  jvm_step X₁.here [X₁.here.top, hexec, d3', Value.category]
  exact X₁.ldcString hexec (own := own) (text := text) (index := is) (a := sa) hown' hstr'.1 hstr'.2
    (g := { method := m, pc := pc + 4, locals := ls, stack := .ref T.heap.size :: .ref T.heap.size :: rest, locked := none }) rfl d4' _ hsteps
/-- 'throw new E("text")', the text by a wide index -/
theorem vx_throwSW {cc : ByteArray} {pc : Nat} (hexec : p.tables.exec = Jvm.exec) (hb : c.code = cc) (hl : l.stackTraces = false) {own cls text : String} {names : List String} {ik is ic mc ms sa : Nat} {A : Nat → Prop}
    (hown : s.vm.findClass own = some m.cls) (hcls : Bundle.fit cls = true) (hnames : ∀ n ∈ names, Bundle.fit n = true)
    (hk : (Cond.classLink own ik cls).before args s = true) (hini : (Cond.initialized cls).before args s = true) (hstr : vk_R own is text sa s) (hat : ∀ w ∈ vx_atS own ic cls names, w.before args s = true)
    (hgood : ∀ w ∈ Cond.classLink own ik cls :: Cond.initialized cls :: vx_atS own ic cls names, vx_ot w = true)
    (hU : vx_Zq Bundle.tN "UNASSIGNED_STACK" Bundle.steD A s s.heap) (hN : vx_Zq Bundle.tN "SUPPRESSED_SENTINEL" Bundle.listD A s s.heap) (hS : va_S A s.heap H locs) (hsize : ls.size = c.maxLocals)
    (d0 : decode cc pc = .ok (.new ik, 3)) (d3 : decode cc (pc + 3) = .ok (.dup, 1)) (d4 : decode cc (pc + 4) = .ok (.ldc_w is, 3)) (d7 : decode cc (pc + 7) = .ok (.invokespecial ic, 3)) (d10 : decode cc (pc + 10) = .ok (.athrow, 1))
    (hout : ∀ x ∈ c.exceptionTable.toList, covers x (pc + 10) = false)
    (hRframes : names.length + 3 < R.frames) (hRlocals : (rest.map fun v => v.category).sum + (13 * (names.length + 1) + 43) ≤ R.locals) (hRcells : cells + 1 ≤ R.cells) (hRslots : slots + 6 ≤ R.slots) (hlocks : meth.locks = false)
    (hx : ∀ t : State, s.vm.Alike t.vm → H.size ≤ t.heap.size → (∀ q : Nat, q < H.size → t.heap[q]? = H[q]?) → XC cls s t)
    (hf : ∀ z ∈ locs, free z.base) (hc : cells + 1 ≤ mc) (hs : slots + 6 ≤ ms) :
    W p l e R s m args below meth c H locs cells slots (vx_MQ below Qc XC args s mc ms free) (F0 m pc ls rest) := by
  intro T hT X
  have htr : e.platform.stackTraces = false := (show e.platform.stackTraces = l.stackTraces by rw [X.admits.platform]).trans hl
  have Y := vx_rebase X (R' := { frames := R.frames, locals := R.locals, cells := 1, slots := 6 }) (Nat.le_refl _) (Nat.le_refl _) hRcells hRslots
  obtain ⟨s', hA⟩ : ∃ z, z = (T.setVm s.vm).setFrames (.invoking m args :: below) := ⟨_, rfl⟩
  rw [← hA] at Y
  have hvm : s'.vm = s.vm := by rw [hA]; rfl
  have hhp : s'.heap = H := by rw [hA]; exact hT
  have hW0 : s.WarmedH s'.vm := by rw [hvm]; exact State.WarmedH.refl s
  have hat' : ∀ w ∈ vx_atS own ic cls names, w.before args s' = true := fun w hw => vx_ot_at hW0 hvm.symm (hgood w (List.mem_cons_of_mem _ (List.mem_cons_of_mem _ hw))) (hat w hw)
  have hk' : (Cond.classLink own ik cls).before args s' = true := vx_ot_at hW0 hvm.symm (hgood _ List.mem_cons_self) hk
  have hini' : (Cond.initialized cls).before args s' = true := vx_ot_at hW0 hvm.symm (hgood _ (List.mem_cons_of_mem _ List.mem_cons_self)) hini
  have hU' : vx_Zq Bundle.tN "UNASSIGNED_STACK" Bundle.steD A s' s'.heap := by rw [hhp]; exact vx_Zq.moved hW0.alike (hU.kept hS.2.1)
  have hN' : vx_Zq Bundle.tN "SUPPRESSED_SENTINEL" Bundle.listD A s' s'.heap := by rw [hhp]; exact vx_Zq.moved hW0.alike (hN.kept hS.2.1)
  have h : ∀ w ∈ Bundle.ownAtoms own ic cls names, w.before args s' = true := vx_own hat' (vx_isRefq hU'.1) (vx_isRefq hN'.1) hU'.2.word hN'.2.word
  have hown' : s'.vm.findClass own = some m.cls := by rw [hvm]; exact hown
  have hins : (Cond.instantiable cls 6).before args s' = true := h _ (by simp [Bundle.ownAtoms])
  obtain ⟨vm₁, cX, kX, hfX, hkX, -, -, X₁, st1⟩ := Y.newCold hexec (own := own) (C := cls) (index := ik) (n := 6) hown' hk' hins hini'
    (g := F0 m pc ls rest) rfl (by rw [hb]; exact d0) (Nat.le_refl _) (Nat.le_refl _)
  generalize hT1 : (T.setVm vm₁).pushCell { cls := cX, slots := kX.instanceTypes.map defaultValue, vm := .none } = T1 at X₁ st1
  have hcat : (Value.ref T.heap.size).category = 1 := rfl
  have hcellA : T1.heap[T.heap.size]? = some (freshCell cX kX) := by rw [← hT1]; exact State.heap_pushCell_size _ _
  have d3' : decode c.code (pc + 3) = .ok (.dup, 1) := by rw [hb]; exact d3
  have d4' : decode c.code (pc + 4) = .ok (.ldc_w is, 3) := by rw [hb]; exact d4
  have hstr' : vk_R own is text sa s' := vk_R.warm hW0 hstr
  obtain ⟨U, hsteps, hrun, hend, hW, hsame, ce, hce, hO⟩ := X₁.ctorThrowS hexec htr (own := own) (cls := cls) (names := names) (ic := ic) hown' hcls hnames h (fun x hx => nomatch hx) hfX hkX hcellA (by rw [hhp, hT]; exact Nat.le_refl _) (msg := .ref sa) rfl
    (g := { method := m, pc := pc + 7, locals := ls, stack := .ref sa :: .ref T.heap.size :: .ref T.heap.size :: rest, locked := none }) rfl hsize rfl rfl (rest := rest) rfl
    (by rw [hb]; exact d7) (by rw [hb]; exact d10) hout hRframes (by simp only [List.map_cons, List.sum_cons, hcat]; omega) hlocks
  obtain ⟨f1, f2⟩ := vx_frame hsame
  rw [hhp] at f1 f2
  have hWs : s.WarmedH U.vm := State.WarmedH.trans hW0 hW
  have hcl : s.vm.findClass cls = some ce.cls := by
    have h9 := hO.cls
    rw [hvm] at h9
    exact h9
  have hall : s.sameButNew ({ U with vm := s.vm } : State) locs mc ms := by
    subst hA
    obtain ⟨e1, e2⟩ := hsame
    rw [State.setFrames_setFrames] at e1
    have h2 : (T.setVm s.vm).sameButNew ({ U with vm := s.vm } : State) [] (0 + 1) (0 + 6) := ⟨e1, e2⟩
    have h3 := X.same.trans h2
    rw [List.append_nil] at h3
    exact h3.mono hc hs
  refine ⟨U, ?_, .threw T.heap.size, hrun, hend, Or.inr ⟨T.heap.size, rfl, cls, ce, locs, hx U hWs.alike f1 (fun q hq => f2 q hq (fun z hz => nomatch hz)), hce, hO.vm, hcl, hWs, hall, hf⟩⟩
  refine st1 _ ?_
  show Steps p.tables e below (T1.setTop { method := m, pc := pc + 3, locals := ls, stack := .ref T.heap.size :: rest, locked := none }) _
  jvm_step X₁.here [X₁.here.top, hexec, d3', Value.category]
  exact X₁.ldcStringW hexec (own := own) (text := text) (index := is) (a := sa) hown' hstr'.1 hstr'.2
    (g := { method := m, pc := pc + 4, locals := ls, stack := .ref T.heap.size :: .ref T.heap.size :: rest, locked := none }) rfl d4' _ hsteps
end Ends
section Bodies
variable {l : Launch}
theorem vx_ofW {y : MethodName} {ws ws' : List Cond} {rm : Room} {Pc : Array Value → State → Prop} {Qc : Array Value → State → Outcome → State → Prop} {XC : String → State → State → Prop} {mc ms : Nat} {free : Addr → Prop} {cc : ByteArray} {maxL : Nat} {ret : Option FieldType}
    (hy : plainName y.cls = true) (hw : ws = Cond.code y cc maxL ret :: ws')
    (body : ∀ p e s m args below meth c s₁, BodyLoose p l y (headSpec ws rm) cc maxL ret e s m args below meth c s₁ → c.maxLocals = maxL → (∀ x ∈ c.exceptionTable.toList, False) → Pc args s →
      W p l e (headSpec ws rm).room s m args below meth c s.heap [] 0 0 (vx_MQ below Qc XC args s mc ms free) (entryFrame m args maxL)) : vx_Met l y ws rm Pc Qc XC mc ms free := by
  refine MetFree.of_bodyS (code := cc) (maxLocals := maxL) (ret := ret) hy ?_ ?_
  · intro args s m h hn
    obtain ⟨meth, c, h1, h2, h3, h4, h5, h6, -, -⟩ := Cond.code_spec hn (atoms_spec (ws := ws) h _ (by rw [hw]; exact List.mem_cons_self))
    exact ⟨meth, c, h1, h2, h3, h4, h5, h6⟩
  · intro p e s m args below meth c s₁ B hml hP _
    have hh0 : s₁.heap = s.heap := by rw [B.state]; rfl
    have ht : ∀ x ∈ c.exceptionTable.toList, False := by
      obtain ⟨meth9, c9, h1, h2, -, -, -, -, h7, -⟩ := Cond.code_spec B.named (atoms_spec (ws := ws) B.pre _ (by rw [hw]; exact List.mem_cons_self))
      cases Option.some.inj (h1.symm.trans B.method)
      cases Option.some.inj (h2.symm.trans (Stand.of_body B).code)
      intro x hx
      rw [Array.isEmpty_iff.mp h7] at hx
      cases hx
    obtain ⟨t, a1, o, b1, b2, b3⟩ := body p e s m args below meth c s₁ B hml ht hP s₁ hh0 (Stand.of_body B)
    exact ⟨t, o, a1, b1, b2, b3⟩
/-- the table of a body with handlers -/
theorem vx_table {p : Program} {x y : MethodName} {S : Spec} {cc bytes : ByteArray} {maxL maxL' : Nat} {ret ret' : Option FieldType} {e : Env} {s s₁ : State} {m : MethodId} {args : Array Value} {below : List Frame} {meth : Method} {c : Code} {hh : List (Nat × Nat × Nat × Nat)}
    (B : BodyLoose p l y S cc maxL ret e s m args below meth c s₁) (h : (Cond.codeWith y bytes maxL' ret' hh).before args s = true) : c.exceptionTable.toList = tableOf hh := by
  obtain ⟨m9, meth9, c9, hn9, h1, h2, -, -, h6, -⟩ := Cond.codeWith_spec h
  cases Option.some.inj (hn9.symm.trans B.named)
  cases Option.some.inj (h1.symm.trans B.method)
  cases Option.some.inj (h2.symm.trans (Stand.of_body B).code)
  rw [← h6, table_eq]
end Bodies
end VXA
/-! ===== END ===== -/
/-! ===== BEGIN a static call of a method with an exception table ===== -/
section VXS
variable {p : Program} {l : Launch} {e : Env} {R : Room} {s : State} {m : MethodId} {args : Array Value} {below : List Frame} {meth : Method} {c : Code} {T : State} {H : Heap} {locs : List Loc} {cells slots : Nat}
abbrev vx_CSW (R : Room) (s : State) (args : Array Value) (own : String) (index : Nat) (y : MethodName) (bytes : ByteArray) (maxL : Nat) (ret : Option FieldType) (hh : List (Nat × Nat × Nat × Nat)) (ws : List Cond) (rm : Room) (mc ms n : Nat) : Prop :=
  (rm.cells = mc ∧ rm.slots = ms ∧ rm.frames + 1 ≤ R.frames ∧ 8 + (maxL + 11) + rm.locals ≤ R.locals ∧ (∀ w ∈ ws, ∀ (a' : Array Value) (U : State), s.WarmedH U.vm → w.before a' U = true) ∧ Cond.codeWith y bytes maxL ret hh ∈ ws) ∧
  (Cond.codeWith y bytes maxL ret hh).before args s = true ∧ (Cond.initialized y.cls).before args s = true ∧ (y.cls ≠ "java/lang/invoke/MethodHandle" ∧ y.cls ≠ "java/lang/invoke/VarHandle") ∧
  (∀ sig, parseMethodDescriptor y.desc = some sig → n = sig.parameters.length) ∧ (Cond.methodLink own index y).before args s = true ∧ (Cond.static y).before args s = true
theorem vx_cwSW {own : String} {index maxL mc ms : Nat} {y : MethodName} {bytes : ByteArray} {ret : Option FieldType} {hh : List (Nat × Nat × Nat × Nat)} {Ts ws ws' : List Cond} {rm : Room} (n : Nat) (ht : ∀ w ∈ Ts, w.before args s = true) (hT : GoodIn Ts (va_wsS own index y ws)) (hw : ws = Cond.codeWith y bytes maxL ret hh :: ws') (hrc : rm.cells = mc) (hrs : rm.slots = ms)
    (hd : y.cls ≠ "java/lang/invoke/MethodHandle" ∧ y.cls ≠ "java/lang/invoke/VarHandle" ∧ (parseMethodDescriptor y.desc).map (fun d => d.parameters.length) = some n) (hR : rm.frames + 1 ≤ R.frames ∧ 8 + (maxL + 11) + rm.locals ≤ R.locals) :
    vx_CSW R s args own index y bytes maxL ret hh ws rm mc ms n := by
  have ok : ∀ w ∈ va_wsS own index y ws, w.before args s = true := fun w h => ht w (hT w h).1
  have hG : GoodIn Ts ws := fun w h => hT w (by unfold va_wsS; exact List.mem_append_right _ h)
  have hc : Cond.codeWith y bytes maxL ret hh ∈ ws := by rw [hw]; exact List.mem_cons_self
  refine ⟨⟨hrc, hrs, hR.1, hR.2, pay_in ht hG, hc⟩, ht _ (hG _ hc).1, ok _ (by simp [va_wsS]), ⟨hd.1, hd.2.1⟩, fun sig h => ?_, ok _ (by simp [va_wsS]), ok _ (by simp [va_wsS])⟩
  have h2 := hd.2.2
  rw [h] at h2
  exact (Option.some.inj h2).symm
theorem vx_callSW (X : Stand p l e R s m args below meth c T locs cells slots) (hexec : p.tables.exec = Jvm.exec) {own : String} {index : Nat} {y : MethodName} {bytes : ByteArray} {maxL : Nat} {ret : Option FieldType} {hh : List (Nat × Nat × Nat × Nat)}
    (hown : s.vm.findClass own = some m.cls) (hlink : (Cond.methodLink own index y).before args s = true) (hstat : (Cond.static y).before args s = true) (hinit : (Cond.initialized y.cls).before args s = true)
    (hcode : (Cond.codeWith y bytes maxL ret hh).before args s = true) (hy : y.cls ≠ "java/lang/invoke/MethodHandle" ∧ y.cls ≠ "java/lang/invoke/VarHandle")
    {W9 : Nat} {Pre : Pt → Array Value → Prop} {Post : Pt → Array Value → Option Value → Pt → Prop} (hK : Back l R p e below s args y 3 W9 Pre Post)
    {g : JFrame} (hg : g.method = m) (hsize : g.locals.size = c.maxLocals) {argsL rest : List Value} (hlen : ∀ sig, parseMethodDescriptor y.desc = some sig → argsL.length = sig.parameters.length)
    (hstack : g.stack = argsL.reverse ++ rest) (hW : 2 * g.monitorRoom + (rest.map fun v => v.category).sum ≤ W9) (hdg : decode c.code g.pc = .ok (.invokestatic index, 3))
    (hpre : ∀ vm₁, s.WarmedH vm₁ → Pre ⟨T.setVm vm₁, locs, cells, slots⟩ argsL.toArray) :
    ∃ (v : Option Value) (vm₁ : Vm) (B : Pt), s.WarmedH vm₁ ∧ Stand p l e R s m args below meth c B.U B.locs B.cells B.slots ∧ Post ⟨T.setVm vm₁, locs, cells, slots⟩ argsL.toArray v B ∧
      ∀ target, Steps p.tables e below (B.U.setTop { g with pc := g.pc + 3, stack := v.toList ++ rest }) target → Steps p.tables e below (T.setTop g) target := by
  obtain ⟨mk, methM, cM, hnamed, hmethM, -, -, -, -, -, -, hsigM⟩ := Cond.codeWith_spec hcode
  have hstatic : methM.isStatic = true := Cond.static_spec hnamed hmethM hstat
  obtain ⟨kP, hkP, -⟩ := className_of_methodNamed hnamed
  have hinitP : kP.init = .initialized := Cond.initialized_spec (findClass_of_methodNamed hnamed) hkP hinit
  obtain ⟨vm₁, X₁, hstep₁⟩ := X.invokestatic hexec hown hlink hnamed hmethM hstatic hkP hinitP hy (g := g) hg (argsL := argsL) (rest := rest) (hlen _ hsigM) hstack hdg
  obtain ⟨v, B, X', hpost, hsteps⟩ := hK m meth c ⟨T.setVm vm₁, locs, cells, slots⟩ { g with stack := rest } (.invokestatic index) mk argsL.toArray X₁ hg hsize hdg hW (X₁.named hnamed) (hpre vm₁ X₁.warmed)
  exact ⟨v, vm₁, B, X₁.warmed, X', hpost, fun target h => hstep₁ _ fun acts => by rw [doInvoke_state]; exact hsteps.trans h⟩
theorem vx_runSW {y : MethodName} {bytes cc : ByteArray} {maxL nL mc ms n index : Nat} {ret : Option FieldType} {hh : List (Nat × Nat × Nat × Nat)} {ws : List Cond} {rm : Room} {Pc : Array Value → State → Prop} {Qc : Array Value → State → Outcome → State → Prop} {free : Addr → Prop} {Ts : List Cond} {own : String} {As rest : List Value} {g : JFrame}
    (S : CallFix p m c cc nL s args Ts own) (hM : Met l y ws rm Pc Qc mc ms free) (cw : vx_CSW R s args own index y bytes maxL ret hh ws rm mc ms n) (hp : PreS s H Pc As)
    (hg : g.method = m) (hn : As.length = n) (hsize : g.locals.size = nL) (hstack : g.stack = As.reverse ++ rest) (hW : 2 * g.monitorRoom + (rest.map fun v => v.category).sum ≤ 8) (hdg : decode cc g.pc = .ok (.invokestatic index, 3)) (hf : cells + mc ≤ R.cells ∧ slots + ms ≤ R.slots) :
    va_Run p l e R s m args below meth c H locs cells slots mc ms g rest (Qc As.toArray) (free) := by
  obtain ⟨⟨hrc, hrs, hfr, hlo, hws, hcw⟩, hcode, hini, hy, hlen, hl, hstt⟩ := cw
  have hK : Back l R p e below s args y 3 8 (PreOf R mc ms Pc) (PostOf Qc mc ms free) := va_backW (hh := hh) (bytes := bytes) (maxL := maxL) (ret := ret) hM hp.1 hrc hrs hfr hlo hws hcw (fun a' U hW => word_at hW (Or.inl (by first | rfl | simp [Cond.onTables, Cond.keeps, Cond.steady])) hini)
  obtain ⟨hx, hb, hml, ho, -⟩ := S
  intro T hT X
  obtain ⟨v, vm₁, ⟨U', l2, c2, s2⟩, hW₁, X', ⟨g', mk, t, L, e1, e2, hq, h1, hL, h2, h3⟩, st⟩ := vx_callSW X hx (hh := hh) (bytes := bytes) (maxL := maxL) (ret := ret) ho hl hstt hini hcode hy hK hg (hsize.trans hml.symm) (argsL := As) (rest := rest) (fun sig h => hn.trans (hlen sig h)) hstack hW (by rw [hb]; exact hdg)
    (fun vm₁ hW₁ => ⟨hf.1, hf.2, hp.2 (T.setVm vm₁) hT hW₁⟩)
  dsimp only [Pt.U, Pt.locs, Pt.cells, Pt.slots] at X' e1 e2 h1 h2 h3 st
  subst h1; subst h2; subst h3
  exact ⟨v, (T.setVm vm₁).calling g' mk As.toArray, t, U', L, hT, X', hL, e1, e2, hq, st⟩
/-- not caught here, past rows that name other classes: it goes on to the caller -/
theorem vx_outP {p : Program} {l : Launch} {e : Env} {R : Room} {s : State} {m : MethodId} {args : Array Value} {below : List Frame} {meth : Method} {c : Code} {H : Heap} {locs : List Loc} {cells slots : Nat} {free : Addr → Prop} {ls : Array Slot} {rest : List Value} {Qc : Array Value → State → Outcome → State → Prop} {XC : String → State → State → Prop}
    {pc : Nat} {own E : String} {ce : Cell} {q : Addr} {mc ms : Nat} (hown : s.vm.findClass own = some m.cls) (hlocks : meth.locks = false)
    (hpass : ∀ z ∈ c.exceptionTable.toList, covers z pc = false ∨ (z.catchType ≠ 0 ∧ ∃ nm : String, (Cond.classLink own z.catchType nm).before args s = true ∧ va_Nc E nm s)) (hcell : H[q]? = some ce) (hv : ce.vm = .none) (hcl : s.vm.findClass E = some ce.cls)
    (hx : ∀ t : State, t.heap = H → s.vm.Alike t.vm → XC E s t) (hf : ∀ z ∈ locs, free z.base) (hc : cells ≤ mc) (hs : slots ≤ ms) :
    vx_W p l e R s m args below meth c H locs cells slots (vx_MQ below Qc XC args s mc ms free) (F0 m pc ls rest) q := by
  intro T hT X
  have hpl : e.platform.magicAccessors = ({} : Platform).magicAccessors := by rw [X.admits.platform]
  obtain ⟨vm', hW', X', st⟩ := X.outThrough hlocks q (g := F0 m pc ls rest) rfl rfl rfl (cell := ce) (by rw [hT]; exact hcell) (by rw [hv]; rfl)
    (by obtain ⟨k9, h9, -⟩ := Vm.findClass_spec hcl; exact ⟨k9, h9⟩) (fun z hz => by
      rcases hpass z hz with h | ⟨hz0, nm, hl1, hn1⟩
      · exact Or.inl h
      · obtain ⟨c6, hc6, hcl6⟩ := Cond.classLink_spec hown hl1 e.platform hpl
        obtain ⟨a8, b8, h1, h2, h3⟩ := hn1
        cases Option.some.inj (h1.symm.trans hcl)
        cases Option.some.inj (h2.symm.trans hc6)
        exact Or.inr ⟨hz0, _, hcl6, h3⟩)
  obtain ⟨g₀, hfr⟩ := X'.frames_eq
  have hcell9 : ((T.setVm vm').setFrames (.throwing q :: below)).heap[q]? = some ce := by
    show T.heap[q]? = some ce
    rw [hT]; exact hcell
  have hend : Ended ((T.setVm vm').setFrames (.throwing q :: below)) below (.threw q) := State.frames_setFrames _ (State.cur_lt_of_frames hfr)
  refine ⟨(T.setVm vm').setFrames (.throwing q :: below), ?_, .threw q, X'.here.running, hend, Or.inr ⟨q, rfl, E, ce, locs, hx _ hT (X'.ends _).1.alike, hcell9, hv, hcl, (X'.ends _).1, (X'.ends _).2.mono hc hs, hf⟩⟩
  rw [X.pushThrowing_eq]
  exact st
/-- a thing of a world lies in the heap -/
theorem vx_lt {D : va_G} {cl : List vw_C} {ws : va_W} {H1 : Heap} (h : va_P D cl ws H1) {k : Nat} {q : Nat × va_E} (hk : ws[k]? = some q) : q.1 < H1.size := (h k q hk).lt
end VXS
/-! ===== END ===== -/
/-! ===== BEGIN methods with a table of their own: called by a name, returning or throwing ===== -/
section VXH
/-! vx_backW, vx_callVX, vx_callSX, vx_callVW, vx_runVW, vx_runVX, vx_runSX, vx_ofWH follow the same proofs as their sisters above (Free/Laws.lean, Shelf42/LK1.lean); vx_outP calls Shelf42/NT130.lean (outThrough). -/
section
variable {l : Launch} {R : Room} {p : Program} {e : Env} {below : List Frame} {s : State} {sargs : Array Value} {y : MethodName} {len W9 : Nat}
theorem vx_backW {ws : List Cond} {rm : Room} {Pc : Array Value → State → Prop} {Qc : Array Value → State → Outcome → State → Prop} {XC : String → State → State → Prop} {mc ms : Nat} {free : Addr → Prop} {bytes : ByteArray} {maxL : Nat} {ret : Option FieldType} {hh : List (Nat × Nat × Nat × Nat)}
    (hM : vx_Met l y ws rm Pc Qc XC mc ms free) (hblind : FrameBlind Pc) (hrc : rm.cells = mc) (hrs : rm.slots = ms)
    (hframes : rm.frames + 1 ≤ R.frames) (hlocals : W9 + (maxL + 11) + rm.locals ≤ R.locals)
    (hws : ∀ w ∈ ws, ∀ a' U, s.WarmedH U.vm → w.before a' U = true) (hcode : Cond.codeWith y bytes maxL ret hh ∈ ws) (hinit : ∀ a' U, s.WarmedH U.vm → (Cond.initialized y.cls).before a' U = true) :
    vx_Back l R p e below s sargs y len W9 (PreOf R mc ms Pc) (PostOf Qc mc ms free) (vx_Post XC mc ms free) := by
  intro m meth c A g ig mk a X hg hsize hdg hW hn hp
  have h1 : (headSpec ws rm).pre.before a A.U = true := atoms_intro fun w hw => hws w hw _ _ X.warmed
  have h2 : (Cond.codeWith y bytes maxL ret hh).before a A.U = true := hws _ hcode _ _ X.warmed
  have h3 : (Cond.initialized y.cls).before a A.U = true := hinit _ _ X.warmed
  have h4 : A.cells + (headSpec ws rm).room.cells ≤ R.cells := by rw [show (headSpec ws rm).room.cells = mc from hrc]; exact hp.1
  have h5 : A.slots + (headSpec ws rm).room.slots ≤ R.slots := by rw [show (headSpec ws rm).room.slots = ms from hrs]; exact hp.2.1
  have hPc : Pc a (A.U.calling g mk a) := hblind _ _ _ _ hp.2.2
  obtain ⟨U, Ls, c0, s0⟩ := A
  dsimp only [Pt.U, Pt.locs, Pt.cells, Pt.slots] at h1 h2 h3 h4 h5 X hn hPc ⊢
  obtain ⟨m9, methY, cY, hn9, hmY, hcY, -, hlY, -⟩ := Cond.codeWith_spec h2
  cases Option.some.inj (hn9.symm.trans hn)
  obtain ⟨kY, hkY, -⟩ := className_of_methodNamed hn
  have hinitY : kY.init = .initialized := Cond.initialized_spec (findClass_of_methodNamed hn) hkY h3
  have h : At U g.method c below := by rw [hg]; exact X.here
  have hlocals9 : W9 + (maxL + 11) + (headSpec ws rm).room.locals ≤ R.locals := hlocals
  have happ : (headSpec ws rm).appliesLoose y e.platform (U.calling g mk a) = true :=
    Spec.appliesLoose_calling (g := g) h hdg hn hkY hinitY
      (X.room_calling (g := g) (R' := (headSpec ws rm).room) hsize hmY hcY hframes (by rw [hlY]; omega) h4 h5) h1
  obtain ⟨mid, hmid⟩ := h.above
  have hfr : (U.setTop g).frames = (.java g :: mid) ++ below := by rw [State.frames_setTop' g h.top, hmid]; rfl
  obtain ⟨o, s₂, hsteps, -, hend, hq⟩ := Steps.callFree hM p X.admits X.cas X.clock (acts := []) hfr happ hPc trivial
  have hq' : vx_Q Qc XC mc ms free a (U.calling g mk a) o s₂ := hq
  rw [State.frames_setTop' g h.top] at hend
  obtain ⟨g₀, hg0⟩ := Option.isSome_iff_exists.mp h.top
  obtain ⟨r, hr⟩ := State.topJava?_eq_some.mp hg0
  have hr' : (({ U with heap := s₂.heap, slotsUsed := s₂.slotsUsed } : State).setVm s₂.vm).frames = .java g₀ :: r := hr
  rcases hq' with ⟨hqc, L, hfe, hL⟩ | ⟨q, rfl, E, ce, L, hx, hce, hcv, hcl, hW₂, hsm, hL⟩
  · obtain ⟨⟨v, rfl⟩, hW₂, e2, q2, q3, q4, q5, q6⟩ := id hfe
    have e3 : s₂ = ({ (U.calling g mk a).setFrames s₂.frames with heap := s₂.heap, slotsUsed := s₂.slotsUsed } : State).setVm s₂.vm := by
      have : s₂ = ({ s₂ with vm := (U.calling g mk a).vm } : State).setVm s₂.vm := rfl
      rw [e2] at this
      exact this
    obtain ⟨c₂, i₂, len₂, hc₂, hd₂, hf₂⟩ := hend
    have hW' : U.WarmedH s₂.vm := hW₂
    have hcc : c₂ = c := by
      have h1 : s₂.code? g.method = U.code? g.method := by
        rw [State.code?_eq, State.code?_eq, hW'.alike.method?]
      exact Option.some.inj (hc₂.symm.trans (h1.trans h.code))
    subst hcc
    have hlen : len₂ = len := by rw [hdg] at hd₂; cases hd₂; rfl
    subst hlen
    have hs₂ : s₂ = (({ U with heap := s₂.heap, slotsUsed := s₂.slotsUsed } : State).setVm s₂.vm).setTop { g with pc := g.pc + len₂, stack := v.toList ++ g.stack } := by
      refine e3.trans ?_
      rw [hf₂, State.calling_eq h.top, State.setFrames_setFrames, State.setTop_of_frames _ hr', hr]
      rfl
    have hsame : U.sameButNew ({ U with heap := s₂.heap, slotsUsed := s₂.slotsUsed } : State) L mc ms := by
      refine ⟨?_, q2, q3, q4, q5, q6⟩
      obtain ⟨t, ht, -⟩ := State.frames_cons hr
      show ({ U with heap := s₂.heap, slotsUsed := s₂.slotsUsed } : State) = { U.setFrames U.frames with heap := s₂.heap, slotsUsed := s₂.slotsUsed }
      rw [State.setFrames_self ht]
    subst hg
    refine Or.inl ⟨v, ⟨(({ U with heap := s₂.heap, slotsUsed := s₂.slotsUsed } : State).setVm s₂.vm), Ls ++ L, c0 + mc, s0 + ms⟩,
      ⟨X.admits, X.cas, X.clock, X.frames, X.room, X.hears, X.method, X.code, (X.here.setHeapUsed s₂.heap s₂.slotsUsed).setVm hW'.alike, X.tail, State.WarmedH.trans X.warmed hW', X.limits, X.bytes, X.same.trans (hsame.setVm s.vm)⟩,
      ⟨g, mk, s₂, L, rfl, rfl, hqc, rfl, hL, rfl, rfl⟩, ?_⟩
    show Steps p.tables e below _ ((({ U with heap := s₂.heap, slotsUsed := s₂.slotsUsed } : State).setVm s₂.vm).setTop { g with pc := g.pc + len₂, stack := v.toList ++ g.stack })
    rw [← hs₂]
    exact hsteps
  · obtain ⟨e2, q2, q3, q4, q5, q6⟩ := id hsm
    have e3 : s₂ = ({ (U.calling g mk a).setFrames s₂.frames with heap := s₂.heap, slotsUsed := s₂.slotsUsed } : State).setVm s₂.vm := by
      have : s₂ = ({ s₂ with vm := (U.calling g mk a).vm } : State).setVm s₂.vm := rfl
      rw [e2] at this
      exact this
    have hf₂ : s₂.frames = .throwing q :: .java g :: U.frames.tail := hend
    have hW' : U.WarmedH s₂.vm := hW₂
    have hs₂ : s₂ = ((({ U with heap := s₂.heap, slotsUsed := s₂.slotsUsed } : State).setVm s₂.vm).setTop g).pushFrame (.throwing q) := by
      refine e3.trans ?_
      rw [hf₂, State.calling_eq h.top, State.setFrames_setFrames, State.pushFrame, State.frames_setTop _ hr', State.setTop_of_frames _ hr', State.setFrames_setFrames, hr]
      rfl
    have hsame : U.sameButNew ({ U with heap := s₂.heap, slotsUsed := s₂.slotsUsed } : State) L mc ms := by
      refine ⟨?_, q2, q3, q4, q5, q6⟩
      obtain ⟨t, ht, -⟩ := State.frames_cons hr
      show ({ U with heap := s₂.heap, slotsUsed := s₂.slotsUsed } : State) = { U.setFrames U.frames with heap := s₂.heap, slotsUsed := s₂.slotsUsed }
      rw [State.setFrames_self ht]
    subst hg
    refine Or.inr ⟨q, ⟨(({ U with heap := s₂.heap, slotsUsed := s₂.slotsUsed } : State).setVm s₂.vm), Ls ++ L, c0 + mc, s0 + ms⟩,
      ⟨X.admits, X.cas, X.clock, X.frames, X.room, X.hears, X.method, X.code, (X.here.setHeapUsed s₂.heap s₂.slotsUsed).setVm hW'.alike, X.tail, State.WarmedH.trans X.warmed hW', X.limits, X.bytes, X.same.trans (hsame.setVm s.vm)⟩,
      ⟨g, mk, s₂, L, E, ce, rfl, rfl, hx, hce, hcv, hcl, rfl, hL, rfl, rfl⟩, ?_⟩
    show Steps p.tables e below _ (((({ U with heap := s₂.heap, slotsUsed := s₂.slotsUsed } : State).setVm s₂.vm).setTop g).pushFrame (.throwing q))
    rw [← hs₂]
    exact hsteps
end
variable {p : Program} {l : Launch} {e : Env} {R : Room} {s : State} {m : MethodId} {args : Array Value} {below : List Frame} {meth : Method} {c : Code} {T : State} {H : Heap} {locs : List Loc} {cells slots : Nat}
theorem vx_callVX (X : Stand p l e R s m args below meth c T locs cells slots) (hexec : p.tables.exec = Jvm.exec) {own C : String} {index : Nat} {y : MethodName} {bytes : ByteArray} {maxL : Nat} {ret : Option FieldType} {hh : List (Nat × Nat × Nat × Nat)}
    (hown : s.vm.findClass own = some m.cls) (hlink : (Cond.methodLink own index y).before args s = true) (hinst : (Cond.instanceMethod y).before args s = true) (hsel : (Cond.selects C y y).before args s = true)
    (hcode : (Cond.codeWith y bytes maxL ret hh).before args s = true) (hy : y.cls ≠ "java/lang/invoke/MethodHandle" ∧ y.cls ≠ "java/lang/invoke/VarHandle")
    {W9 : Nat} {Pre : Pt → Array Value → Prop} {Post : Pt → Array Value → Option Value → Pt → Prop} {PostX : Pt → Array Value → Addr → Pt → Prop} (hK : vx_Back l R p e below s args y 3 W9 Pre Post PostX)
    {b : Addr} {cellB : Cell} (hcell : T.heap[b]? = some cellB) (hobj : cellB.vm.isStatics = false) (hcls : s.vm.findClass C = some cellB.cls)
    {g : JFrame} (hg : g.method = m) (hsize : g.locals.size = c.maxLocals) {argsL rest : List Value} (hlen : ∀ sig, parseMethodDescriptor y.desc = some sig → argsL.length = sig.parameters.length)
    (hstack : g.stack = argsL.reverse ++ .ref b :: rest) (hW : 2 * g.monitorRoom + (rest.map fun v => v.category).sum ≤ W9) (hdg : decode c.code g.pc = .ok (.invokevirtual index, 3))
    (hpre : ∀ vm₁, s.WarmedH vm₁ → Pre ⟨T.setVm vm₁, locs, cells, slots⟩ (Value.ref b :: argsL).toArray) :
    (∃ (v : Option Value) (vm₁ : Vm) (B : Pt), s.WarmedH vm₁ ∧ Stand p l e R s m args below meth c B.U B.locs B.cells B.slots ∧ Post ⟨T.setVm vm₁, locs, cells, slots⟩ (Value.ref b :: argsL).toArray v B ∧
      ∀ target, Steps p.tables e below (B.U.setTop { g with pc := g.pc + 3, stack := v.toList ++ rest }) target → Steps p.tables e below (T.setTop g) target) ∨
    (∃ (q : Addr) (vm₁ : Vm) (B : Pt), s.WarmedH vm₁ ∧ Stand p l e R s m args below meth c B.U B.locs B.cells B.slots ∧ PostX ⟨T.setVm vm₁, locs, cells, slots⟩ (Value.ref b :: argsL).toArray q B ∧
      Steps p.tables e below (T.setTop g) ((B.U.setTop { g with stack := rest }).pushFrame (.throwing q))) := by
  obtain ⟨mk, methM, hnamed, hmethM, hstM, habM⟩ := Cond.instanceMethod_spec hinst
  obtain ⟨m8, methM', cM, hn8, hmethM', -, -, -, -, -, -, hsigM⟩ := Cond.codeWith_spec hcode
  cases Option.some.inj (hn8.symm.trans hnamed)
  cases hmethM.symm.trans hmethM'
  obtain ⟨c2, r2, m2, q1, q2, q3, q4, kP, hkP, hkPi⟩ := Cond.selects_spec hsel
  cases hcls.symm.trans q1
  cases (State.methodFound?_of_named hnamed hy).symm.trans q2
  cases hnamed.symm.trans q3
  have hselP : selectMethod e.platform s.vm cellB.cls mk = .method mk := by rw [Launch.admits_selectMethod X.admits]; exact q4
  obtain ⟨vm₁, X₁, hstep₁⟩ := X.invokevirtual hexec hown hlink hnamed hmethM hstM hkP hkPi hy (a := b) (cell := cellB) hcell
    (fun z h => by rw [h] at hobj; cases hobj) hselP hmethM habM hkP hkPi (g := g) hg (argsL := argsL) (rest := rest) (hlen _ hsigM) hstack hdg
  rcases hK m meth c ⟨T.setVm vm₁, locs, cells, slots⟩ { g with stack := rest } (.invokevirtual index) mk (Value.ref b :: argsL).toArray X₁ hg hsize hdg hW (X₁.named hnamed) (hpre vm₁ X₁.warmed) with ⟨v, B, X', hpost, hsteps⟩ | ⟨q, B, X', hpost, hsteps⟩
  · exact Or.inl ⟨v, vm₁, B, X₁.warmed, X', hpost, fun target h => hstep₁ _ fun acts => by rw [doInvoke_state]; exact hsteps.trans h⟩
  · exact Or.inr ⟨q, vm₁, B, X₁.warmed, X', hpost, hstep₁ _ fun acts => by rw [doInvoke_state]; exact hsteps⟩
theorem vx_callSX (X : Stand p l e R s m args below meth c T locs cells slots) (hexec : p.tables.exec = Jvm.exec) {own : String} {index : Nat} {y : MethodName} {bytes : ByteArray} {maxL : Nat} {ret : Option FieldType} {hh : List (Nat × Nat × Nat × Nat)}
    (hown : s.vm.findClass own = some m.cls) (hlink : (Cond.methodLink own index y).before args s = true) (hstat : (Cond.static y).before args s = true) (hinit : (Cond.initialized y.cls).before args s = true)
    (hcode : (Cond.codeWith y bytes maxL ret hh).before args s = true) (hy : y.cls ≠ "java/lang/invoke/MethodHandle" ∧ y.cls ≠ "java/lang/invoke/VarHandle")
    {W9 : Nat} {Pre : Pt → Array Value → Prop} {Post : Pt → Array Value → Option Value → Pt → Prop} {PostX : Pt → Array Value → Addr → Pt → Prop} (hK : vx_Back l R p e below s args y 3 W9 Pre Post PostX)
    {g : JFrame} (hg : g.method = m) (hsize : g.locals.size = c.maxLocals) {argsL rest : List Value} (hlen : ∀ sig, parseMethodDescriptor y.desc = some sig → argsL.length = sig.parameters.length)
    (hstack : g.stack = argsL.reverse ++ rest) (hW : 2 * g.monitorRoom + (rest.map fun v => v.category).sum ≤ W9) (hdg : decode c.code g.pc = .ok (.invokestatic index, 3))
    (hpre : ∀ vm₁, s.WarmedH vm₁ → Pre ⟨T.setVm vm₁, locs, cells, slots⟩ argsL.toArray) :
    (∃ (v : Option Value) (vm₁ : Vm) (B : Pt), s.WarmedH vm₁ ∧ Stand p l e R s m args below meth c B.U B.locs B.cells B.slots ∧ Post ⟨T.setVm vm₁, locs, cells, slots⟩ argsL.toArray v B ∧
      ∀ target, Steps p.tables e below (B.U.setTop { g with pc := g.pc + 3, stack := v.toList ++ rest }) target → Steps p.tables e below (T.setTop g) target) ∨
    (∃ (q : Addr) (vm₁ : Vm) (B : Pt), s.WarmedH vm₁ ∧ Stand p l e R s m args below meth c B.U B.locs B.cells B.slots ∧ PostX ⟨T.setVm vm₁, locs, cells, slots⟩ argsL.toArray q B ∧
      Steps p.tables e below (T.setTop g) ((B.U.setTop { g with stack := rest }).pushFrame (.throwing q))) := by
  obtain ⟨mk, methM, cM, hnamed, hmethM, -, -, -, -, -, -, hsigM⟩ := Cond.codeWith_spec hcode
  have hstatic : methM.isStatic = true := Cond.static_spec hnamed hmethM hstat
  obtain ⟨kP, hkP, -⟩ := className_of_methodNamed hnamed
  have hinitP : kP.init = .initialized := Cond.initialized_spec (findClass_of_methodNamed hnamed) hkP hinit
  obtain ⟨vm₁, X₁, hstep₁⟩ := X.invokestatic hexec hown hlink hnamed hmethM hstatic hkP hinitP hy (g := g) hg (argsL := argsL) (rest := rest) (hlen _ hsigM) hstack hdg
  rcases hK m meth c ⟨T.setVm vm₁, locs, cells, slots⟩ { g with stack := rest } (.invokestatic index) mk argsL.toArray X₁ hg hsize hdg hW (X₁.named hnamed) (hpre vm₁ X₁.warmed) with ⟨v, B, X', hpost, hsteps⟩ | ⟨q, B, X', hpost, hsteps⟩
  · exact Or.inl ⟨v, vm₁, B, X₁.warmed, X', hpost, fun target h => hstep₁ _ fun acts => by rw [doInvoke_state]; exact hsteps.trans h⟩
  · exact Or.inr ⟨q, vm₁, B, X₁.warmed, X', hpost, hstep₁ _ fun acts => by rw [doInvoke_state]; exact hsteps⟩
theorem vx_callVW (X : Stand p l e R s m args below meth c T locs cells slots) (hexec : p.tables.exec = Jvm.exec) {own C : String} {index : Nat} {y : MethodName} {bytes : ByteArray} {maxL : Nat} {ret : Option FieldType} {hh : List (Nat × Nat × Nat × Nat)}
    (hown : s.vm.findClass own = some m.cls) (hlink : (Cond.methodLink own index y).before args s = true) (hinst : (Cond.instanceMethod y).before args s = true) (hsel : (Cond.selects C y y).before args s = true)
    (hcode : (Cond.codeWith y bytes maxL ret hh).before args s = true) (hy : y.cls ≠ "java/lang/invoke/MethodHandle" ∧ y.cls ≠ "java/lang/invoke/VarHandle")
    {W9 : Nat} {Pre : Pt → Array Value → Prop} {Post : Pt → Array Value → Option Value → Pt → Prop} (hK : Back l R p e below s args y 3 W9 Pre Post)
    {b : Addr} {cellB : Cell} (hcell : T.heap[b]? = some cellB) (hobj : cellB.vm.isStatics = false) (hcls : s.vm.findClass C = some cellB.cls)
    {g : JFrame} (hg : g.method = m) (hsize : g.locals.size = c.maxLocals) {argsL rest : List Value} (hlen : ∀ sig, parseMethodDescriptor y.desc = some sig → argsL.length = sig.parameters.length)
    (hstack : g.stack = argsL.reverse ++ .ref b :: rest) (hW : 2 * g.monitorRoom + (rest.map fun v => v.category).sum ≤ W9) (hdg : decode c.code g.pc = .ok (.invokevirtual index, 3))
    (hpre : ∀ vm₁, s.WarmedH vm₁ → Pre ⟨T.setVm vm₁, locs, cells, slots⟩ (Value.ref b :: argsL).toArray) :
    ∃ (v : Option Value) (vm₁ : Vm) (B : Pt), s.WarmedH vm₁ ∧ Stand p l e R s m args below meth c B.U B.locs B.cells B.slots ∧ Post ⟨T.setVm vm₁, locs, cells, slots⟩ (Value.ref b :: argsL).toArray v B ∧
      ∀ target, Steps p.tables e below (B.U.setTop { g with pc := g.pc + 3, stack := v.toList ++ rest }) target → Steps p.tables e below (T.setTop g) target := by
  obtain ⟨mk, methM, hnamed, hmethM, hstM, habM⟩ := Cond.instanceMethod_spec hinst
  obtain ⟨m8, methM', cM, hn8, hmethM', -, -, -, -, -, -, hsigM⟩ := Cond.codeWith_spec hcode
  cases Option.some.inj (hn8.symm.trans hnamed)
  cases hmethM.symm.trans hmethM'
  obtain ⟨c2, r2, m2, q1, q2, q3, q4, kP, hkP, hkPi⟩ := Cond.selects_spec hsel
  cases hcls.symm.trans q1
  cases (State.methodFound?_of_named hnamed hy).symm.trans q2
  cases hnamed.symm.trans q3
  have hselP : selectMethod e.platform s.vm cellB.cls mk = .method mk := by rw [Launch.admits_selectMethod X.admits]; exact q4
  obtain ⟨vm₁, X₁, hstep₁⟩ := X.invokevirtual hexec hown hlink hnamed hmethM hstM hkP hkPi hy (a := b) (cell := cellB) hcell
    (fun z h => by rw [h] at hobj; cases hobj) hselP hmethM habM hkP hkPi (g := g) hg (argsL := argsL) (rest := rest) (hlen _ hsigM) hstack hdg
  obtain ⟨v, B, X', hpost, hsteps⟩ := hK m meth c ⟨T.setVm vm₁, locs, cells, slots⟩ { g with stack := rest } (.invokevirtual index) mk (Value.ref b :: argsL).toArray X₁ hg hsize hdg hW (X₁.named hnamed) (hpre vm₁ X₁.warmed)
  exact ⟨v, vm₁, B, X₁.warmed, X', hpost, fun target h => hstep₁ _ fun acts => by rw [doInvoke_state]; exact hsteps.trans h⟩
abbrev vx_CVW (R : Room) (s : State) (args : Array Value) (own C : String) (index : Nat) (y : MethodName) (bytes : ByteArray) (maxL : Nat) (ret : Option FieldType) (hh : List (Nat × Nat × Nat × Nat)) (ws : List Cond) (rm : Room) (mc ms n : Nat) : Prop :=
  (rm.cells = mc ∧ rm.slots = ms ∧ rm.frames + 1 ≤ R.frames ∧ 8 + (maxL + 11) + rm.locals ≤ R.locals ∧ (∀ w ∈ ws, ∀ (a' : Array Value) (U : State), s.WarmedH U.vm → w.before a' U = true) ∧ Cond.codeWith y bytes maxL ret hh ∈ ws) ∧
  (Cond.codeWith y bytes maxL ret hh).before args s = true ∧ (Cond.initialized y.cls).before args s = true ∧ (y.cls ≠ "java/lang/invoke/MethodHandle" ∧ y.cls ≠ "java/lang/invoke/VarHandle") ∧
  (∀ sig, parseMethodDescriptor y.desc = some sig → n = sig.parameters.length) ∧ (Cond.methodLink own index y).before args s = true ∧ (Cond.instanceMethod y).before args s = true ∧ (Cond.selects C y y).before args s = true
theorem vx_cwVW {own C : String} {index maxL mc ms : Nat} {y : MethodName} {bytes : ByteArray} {ret : Option FieldType} {hh : List (Nat × Nat × Nat × Nat)} {Ts ws ws' : List Cond} {rm : Room} (n : Nat) (ht : ∀ w ∈ Ts, w.before args s = true) (hT : GoodIn Ts (wsV own index C y ws)) (hw : ws = Cond.codeWith y bytes maxL ret hh :: ws') (hrc : rm.cells = mc) (hrs : rm.slots = ms)
    (hd : y.cls = C ∧ y.cls ≠ "java/lang/invoke/MethodHandle" ∧ y.cls ≠ "java/lang/invoke/VarHandle" ∧ (parseMethodDescriptor y.desc).map (fun d => d.parameters.length) = some n) (hR : rm.frames + 1 ≤ R.frames ∧ 8 + (maxL + 11) + rm.locals ≤ R.locals) :
    vx_CVW R s args own C index y bytes maxL ret hh ws rm mc ms n := by
  obtain ⟨hC, hd⟩ := hd
  subst hC
  have ok : ∀ w ∈ wsV own index y.cls y ws, w.before args s = true := fun w h => ht w (hT w h).1
  have hG : GoodIn Ts ws := fun w h => hT w (by unfold wsV; exact List.mem_append_right _ h)
  have hc : Cond.codeWith y bytes maxL ret hh ∈ ws := by rw [hw]; exact List.mem_cons_self
  refine ⟨⟨hrc, hrs, hR.1, hR.2, pay_in ht hG, hc⟩, ht _ (hG _ hc).1, ok _ (by simp [wsV]), ⟨hd.1, hd.2.1⟩, fun sig h => ?_, ok _ (by simp [wsV]), ok _ (by simp [wsV]), ok _ (by simp [wsV])⟩
  have h2 := hd.2.2
  rw [h] at h2
  exact (Option.some.inj h2).symm
theorem vx_runVW {y : MethodName} {bytes cc : ByteArray} {maxL nL mc ms n index : Nat} {ret : Option FieldType} {hh : List (Nat × Nat × Nat × Nat)} {ws : List Cond} {rm : Room} {Pc : Array Value → State → Prop} {Qc : Array Value → State → Outcome → State → Prop} {free : Addr → Prop} {Ts : List Cond} {own C : String} {b : Addr} {As rest : List Value} {g : JFrame}
    (S : CallFix p m c cc nL s args Ts own) (hM : Met l y ws rm Pc Qc mc ms free) (cw : vx_CVW R s args own C index y bytes maxL ret hh ws rm mc ms n) (hp : PreV s H C b Pc As)
    (hg : g.method = m) (hn : As.length = n) (hsize : g.locals.size = nL) (hstack : g.stack = As.reverse ++ .ref b :: rest) (hW : 2 * g.monitorRoom + (rest.map fun v => v.category).sum ≤ 8) (hdg : decode cc g.pc = .ok (.invokevirtual index, 3)) (hf : cells + mc ≤ R.cells ∧ slots + ms ≤ R.slots) :
    va_Run p l e R s m args below meth c H locs cells slots mc ms g rest (Qc (Value.ref b :: As).toArray) free := by
  obtain ⟨⟨hrc, hrs, hfr, hlo, hws, hcw⟩, hcode, hini, hy, hlen, hl, hin, hse⟩ := cw
  have hK : Back l R p e below s args y 3 8 (PreOf R mc ms Pc) (PostOf Qc mc ms free) := va_backW (hh := hh) (bytes := bytes) (maxL := maxL) (ret := ret) hM hp.1 hrc hrs hfr hlo hws hcw (fun a' U hW => word_at hW (Or.inl (by first | rfl | simp [Cond.onTables, Cond.keeps, Cond.steady])) hini)
  obtain ⟨hx, hb, hml, ho, -⟩ := S
  obtain ⟨-, ⟨cellB, hcB, hoB, hclB⟩, hPc⟩ := hp
  intro T hT X
  obtain ⟨v, vm₁, ⟨U', l2, c2, s2⟩, hW₁, X', ⟨g', mk, t, L, e1, e2, hq, h1, hL, h2, h3⟩, st⟩ := vx_callVW X hx (C := C) (hh := hh) (bytes := bytes) (maxL := maxL) (ret := ret) ho hl hin hse hcode hy hK (by rw [hT]; exact hcB) hoB hclB hg (hsize.trans hml.symm) (argsL := As) (rest := rest) (fun sig h => hn.trans (hlen sig h)) hstack hW (by rw [hb]; exact hdg)
    (fun vm₁ hW₁ => ⟨hf.1, hf.2, hPc (T.setVm vm₁) hT hW₁⟩)
  dsimp only [Pt.U, Pt.locs, Pt.cells, Pt.slots] at X' e1 e2 h1 h2 h3 st
  subst h1; subst h2; subst h3
  exact ⟨v, (T.setVm vm₁).calling g' mk (Value.ref b :: As).toArray, t, U', L, hT, X', hL, e1, e2, hq, st⟩
section
variable {y : MethodName} {bytes cc : ByteArray} {maxL nL mc ms n index : Nat} {ret : Option FieldType} {ws : List Cond} {rm : Room} {Pc : Array Value → State → Prop} {Qc : Array Value → State → Outcome → State → Prop} {XC : String → State → State → Prop} {free : Addr → Prop} {Ts : List Cond} {own C : String} {b : Addr} {As rest : List Value} {g : JFrame}
theorem vx_runVX {hh : List (Nat × Nat × Nat × Nat)} (S : CallFix p m c cc nL s args Ts own) (hM : vx_Met l y ws rm Pc Qc XC mc ms free) (cw : vx_CVW R s args own C index y bytes maxL ret hh ws rm mc ms n) (hp : PreV s H C b Pc As)
    (hg : g.method = m) (hn : As.length = n) (hsize : g.locals.size = nL) (hstack : g.stack = As.reverse ++ .ref b :: rest) (hW : 2 * g.monitorRoom + (rest.map fun v => v.category).sum ≤ 8) (hdg : decode cc g.pc = .ok (.invokevirtual index, 3)) (hf : cells + mc ≤ R.cells ∧ slots + ms ≤ R.slots) :
    vx_Run p l e R s m args below meth c H locs cells slots mc ms g rest (Qc (Value.ref b :: As).toArray) XC free := by
  obtain ⟨⟨hrc, hrs, hfr, hlo, hws, hcw⟩, hcode, hini, hy, hlen, hl, hin, hse⟩ := cw
  have hK : vx_Back l R p e below s args y 3 8 (PreOf R mc ms Pc) (PostOf Qc mc ms free) (vx_Post XC mc ms free) := vx_backW (hh := hh) (bytes := bytes) (maxL := maxL) (ret := ret) hM hp.1 hrc hrs hfr hlo hws hcw (fun a' U hW => word_at hW (Or.inl (by first | rfl | simp [Cond.onTables, Cond.keeps, Cond.steady])) hini)
  obtain ⟨hx, hb, hml, ho, -⟩ := S
  obtain ⟨-, ⟨cellB, hcB, hoB, hclB⟩, hPc⟩ := hp
  intro T hT X
  rcases vx_callVX X hx (C := C) (hh := hh) (bytes := bytes) (maxL := maxL) (ret := ret) ho hl hin hse hcode hy hK (by rw [hT]; exact hcB) hoB hclB hg (hsize.trans hml.symm) (argsL := As) (rest := rest) (fun sig h => hn.trans (hlen sig h)) hstack hW (by rw [hb]; exact hdg)
    (fun vm₁ hW₁ => ⟨hf.1, hf.2, hPc (T.setVm vm₁) hT hW₁⟩) with ⟨v, vm₁, ⟨U', l2, c2, s2⟩, hW₁, X', ⟨g', mk, t, L, e1, e2, hq, h1, hL, h2, h3⟩, st⟩ | ⟨q, vm₁, ⟨U', l2, c2, s2⟩, hW₁, X', ⟨g', mk, t, L, E, ce, e1, e2, hq, hce, hcv, hcl, h1, hL, h2, h3⟩, st⟩
  · dsimp only [Pt.U, Pt.locs, Pt.cells, Pt.slots] at X' e1 e2 h1 h2 h3 st
    subst h1; subst h2; subst h3
    exact Or.inl ⟨v, (T.setVm vm₁).calling g' mk (Value.ref b :: As).toArray, t, U', L, hT, X', hL, e1, e2, hq, st⟩
  · dsimp only [Pt.U, Pt.locs, Pt.cells, Pt.slots] at X' e1 e2 h1 h2 h3 st hcl
    subst h1; subst h2; subst h3
    exact Or.inr ⟨q, (T.setVm vm₁).calling g' mk (Value.ref b :: As).toArray, t, U', L, E, ce, hT, X', hL, e1, e2, hq, hce, hcv, vx_cls hW₁ hcl, st⟩
theorem vx_runSX {hh : List (Nat × Nat × Nat × Nat)} (S : CallFix p m c cc nL s args Ts own) (hM : vx_Met l y ws rm Pc Qc XC mc ms free) (cw : vx_CSW R s args own index y bytes maxL ret hh ws rm mc ms n) (hp : PreS s H Pc As)
    (hg : g.method = m) (hn : As.length = n) (hsize : g.locals.size = nL) (hstack : g.stack = As.reverse ++ rest) (hW : 2 * g.monitorRoom + (rest.map fun v => v.category).sum ≤ 8) (hdg : decode cc g.pc = .ok (.invokestatic index, 3)) (hf : cells + mc ≤ R.cells ∧ slots + ms ≤ R.slots) :
    vx_Run p l e R s m args below meth c H locs cells slots mc ms g rest (Qc As.toArray) XC free := by
  obtain ⟨⟨hrc, hrs, hfr, hlo, hws, hcw⟩, hcode, hini, hy, hlen, hl, hstt⟩ := cw
  have hK : vx_Back l R p e below s args y 3 8 (PreOf R mc ms Pc) (PostOf Qc mc ms free) (vx_Post XC mc ms free) := vx_backW (hh := hh) (bytes := bytes) (maxL := maxL) (ret := ret) hM hp.1 hrc hrs hfr hlo hws hcw (fun a' U hW => word_at hW (Or.inl (by first | rfl | simp [Cond.onTables, Cond.keeps, Cond.steady])) hini)
  obtain ⟨hx, hb, hml, ho, -⟩ := S
  intro T hT X
  rcases vx_callSX X hx (hh := hh) (bytes := bytes) (maxL := maxL) (ret := ret) ho hl hstt hini hcode hy hK hg (hsize.trans hml.symm) (argsL := As) (rest := rest) (fun sig h => hn.trans (hlen sig h)) hstack hW (by rw [hb]; exact hdg)
    (fun vm₁ hW₁ => ⟨hf.1, hf.2, hp.2 (T.setVm vm₁) hT hW₁⟩) with ⟨v, vm₁, ⟨U', l2, c2, s2⟩, hW₁, X', ⟨g', mk, t, L, e1, e2, hq, h1, hL, h2, h3⟩, st⟩ | ⟨q, vm₁, ⟨U', l2, c2, s2⟩, hW₁, X', ⟨g', mk, t, L, E, ce, e1, e2, hq, hce, hcv, hcl, h1, hL, h2, h3⟩, st⟩
  · dsimp only [Pt.U, Pt.locs, Pt.cells, Pt.slots] at X' e1 e2 h1 h2 h3 st
    subst h1; subst h2; subst h3
    exact Or.inl ⟨v, (T.setVm vm₁).calling g' mk As.toArray, t, U', L, hT, X', hL, e1, e2, hq, st⟩
  · dsimp only [Pt.U, Pt.locs, Pt.cells, Pt.slots] at X' e1 e2 h1 h2 h3 st hcl
    subst h1; subst h2; subst h3
    exact Or.inr ⟨q, (T.setVm vm₁).calling g' mk As.toArray, t, U', L, E, ce, hT, X', hL, e1, e2, hq, hce, hcv, vx_cls hW₁ hcl, st⟩
end
end VXH
theorem vx_ofWH {l : Launch} {y : MethodName} {ws ws' : List Cond} {rm : Room} {Pc : Array Value → State → Prop} {Qc : Array Value → State → Outcome → State → Prop} {XC : String → State → State → Prop} {mc ms : Nat} {free : Addr → Prop} {cc : ByteArray} {maxL : Nat} {ret : Option FieldType} {hh : List (Nat × Nat × Nat × Nat)}
    (hy : plainName y.cls = true) (hw : ws = Cond.codeWith y cc maxL ret hh :: ws')
    (body : ∀ p e s m args below meth c s₁, BodyLoose p l y (headSpec ws rm) cc maxL ret e s m args below meth c s₁ → c.maxLocals = maxL → Pc args s →
      W p l e (headSpec ws rm).room s m args below meth c s.heap [] 0 0 (vx_MQ below Qc XC args s mc ms free) (entryFrame m args maxL)) : vx_Met l y ws rm Pc Qc XC mc ms free := by
  refine MetFree.of_bodyS (code := cc) (maxLocals := maxL) (ret := ret) hy ?_ ?_
  · intro args s m h hn
    obtain ⟨m9, meth, c, hn9, h1, h2, h3, h4, -, h5, h6, -⟩ := Cond.codeWith_spec (atoms_spec (ws := ws) h _ (by rw [hw]; exact List.mem_cons_self))
    cases hn.symm.trans hn9
    exact ⟨meth, c, h1, h2, h3, h4, h5, h6⟩
  · intro p e s m args below meth c s₁ B hml hP _
    have hh0 : s₁.heap = s.heap := by rw [B.state]; rfl
    obtain ⟨t, a1, o, b1, b2, b3⟩ := body p e s m args below meth c s₁ B hml hP s₁ hh0 (Stand.of_body B)
    exact ⟨t, o, a1, b1, b2, b3⟩
/-! ===== END ===== -/
end
section
def RX0 : String := "Cogwright$Cutter"
def TX0 : u_T := fun k => match k with
  | 0 => ("Cogwright$Cutter", "module", "I", true)
  | 1 => ("Cogwright$Cutter", "least", "I", true)
  | _ => ("Cogwright$Cutter", "most", "I", true)
def tyX0 : Nat → FieldType := fun k => match k with
  | 0 => .int
  | 1 => .int
  | _ => .int
abbrev wsX00 : List Cond := u_ws RX0 TX0 3
theorem nmX0 : ∀ a, a < 3 → ∀ b, b < 3 → a ≠ b → (TX0 a).2.1 ≠ (TX0 b).2.1 := by decide +kernel
theorem tyX0_ok : ∀ k, k < 3 → parseFieldDescriptor (TX0 k).2.2.1 = some (tyX0 k) := by decide +kernel
abbrev cX0_init : ByteArray := prog_2_method_1_code
def yX0_init : MethodName := ⟨RX0, "<init>", "(III)V"⟩
abbrev cX0_cuts : ByteArray := prog_2_method_2_code
def yX0_cuts : MethodName := ⟨RX0, "cuts", "(II)Z"⟩
def RX1 : String := "Cogwright$Fraction"
def TX1 : u_T := fun k => match k with
  | 0 => ("Cogwright$Fraction", "above", "J", false)
  | _ => ("Cogwright$Fraction", "below", "J", false)
def tyX1 : Nat → FieldType := fun k => match k with
  | 0 => .long
  | _ => .long
abbrev wsX10 : List Cond := u_ws RX1 TX1 2
theorem nmX1 : ∀ a, a < 2 → ∀ b, b < 2 → a ≠ b → (TX1 a).2.1 ≠ (TX1 b).2.1 := by decide +kernel
theorem tyX1_ok : ∀ k, k < 2 → parseFieldDescriptor (TX1 k).2.2.1 = some (tyX1 k) := by decide +kernel
abbrev cX1_init : ByteArray := prog_3_method_1_code
def yX1_init : MethodName := ⟨RX1, "<init>", "(J)V"⟩
abbrev cX1_multiply : ByteArray := prog_3_method_2_code
def yX1_multiply : MethodName := ⟨RX1, "multiply", "(JJ)V"⟩
abbrev cX1_roundedDown : ByteArray := prog_3_method_3_code
def yX1_roundedDown : MethodName := ⟨RX1, "roundedDown", "()I"⟩
def RX2 : String := "Cogwright$Job"
def TX2 : u_T := fun k => match k with
  | 0 => ("Cogwright$Job", "order", "LCogwright$Order;", true)
  | 1 => ("Cogwright$Job", "teeth", "I", true)
  | _ => ("Cogwright$Job", "cutter", "I", true)
def tyX2 : Nat → FieldType := fun k => match k with
  | 0 => .object "Cogwright$Order"
  | 1 => .int
  | _ => .int
abbrev wsX20 : List Cond := u_ws RX2 TX2 3
theorem nmX2 : ∀ a, a < 3 → ∀ b, b < 3 → a ≠ b → (TX2 a).2.1 ≠ (TX2 b).2.1 := by decide +kernel
theorem tyX2_ok : ∀ k, k < 3 → parseFieldDescriptor (TX2 k).2.2.1 = some (tyX2 k) := by decide +kernel
abbrev cX2_init : ByteArray := prog_4_method_1_code
def yX2_init : MethodName := ⟨RX2, "<init>", "(LCogwright$Order;II)V"⟩
def RX3 : String := "Cogwright$Machine"
def TX3 : u_T := fun k => match k with
  | 0 => ("Cogwright$Machine", "cutter", "I", false)
  | 1 => ("Cogwright$Machine", "job", "LCogwright$Job;", false)
  | _ => ("Cogwright$Machine", "left", "I", false)
def tyX3 : Nat → FieldType := fun k => match k with
  | 0 => .int
  | 1 => .object "Cogwright$Job"
  | _ => .int
abbrev wsX30 : List Cond := u_ws RX3 TX3 3
theorem nmX3 : ∀ a, a < 3 → ∀ b, b < 3 → a ≠ b → (TX3 a).2.1 ≠ (TX3 b).2.1 := by decide +kernel
theorem tyX3_ok : ∀ k, k < 3 → parseFieldDescriptor (TX3 k).2.2.1 = some (tyX3 k) := by decide +kernel
abbrev cX3_init : ByteArray := prog_5_method_1_code
def yX3_init : MethodName := ⟨RX3, "<init>", "()V"⟩
abbrev cX3_begin : ByteArray := prog_5_method_2_code
def yX3_begin : MethodName := ⟨RX3, "begin", "(LCogwright$Job;I)V"⟩
abbrev cX3_work : ByteArray := prog_5_method_3_code
def yX3_work : MethodName := ⟨RX3, "work", "()LCogwright$Order;"⟩
def RX4 : String := "Cogwright$Mesh"
def TX4 : u_T := fun k => match k with
  | 0 => ("Cogwright$Mesh", "gears", "LCogwright$Stage;", true)
  | _ => ("Cogwright$Mesh", "worn", "I", false)
def tyX4 : Nat → FieldType := fun k => match k with
  | 0 => .object "Cogwright$Stage"
  | _ => .int
abbrev wsX40 : List Cond := u_ws RX4 TX4 2
theorem nmX4 : ∀ a, a < 2 → ∀ b, b < 2 → a ≠ b → (TX4 a).2.1 ≠ (TX4 b).2.1 := by decide +kernel
theorem tyX4_ok : ∀ k, k < 2 → parseFieldDescriptor (TX4 k).2.2.1 = some (tyX4 k) := by decide +kernel
abbrev cX4_init : ByteArray := prog_6_method_1_code
def yX4_init : MethodName := ⟨RX4, "<init>", "(LCogwright$Stage;)V"⟩
def RX5 : String := "Cogwright$Order"
def TX5 : u_T := fun k => match k with
  | 0 => ("Cogwright$Order", "train", "LCogwright$Train;", true)
  | 1 => ("Cogwright$Order", "meshes", "Ljava/util/ArrayList;", true)
  | 2 => ("Cogwright$Order", "uncut", "I", false)
  | 3 => ("Cogwright$Order", "endedAt", "I", false)
  | _ => ("Cogwright$Order", "broken", "Z", false)
def tyX5 : Nat → FieldType := fun k => match k with
  | 0 => .object "Cogwright$Train"
  | 1 => .object "java/util/ArrayList"
  | 2 => .int
  | 3 => .int
  | _ => .boolean
abbrev wsX50 : List Cond := u_ws RX5 TX5 5
theorem nmX5 : ∀ a, a < 5 → ∀ b, b < 5 → a ≠ b → (TX5 a).2.1 ≠ (TX5 b).2.1 := by decide +kernel
theorem tyX5_ok : ∀ k, k < 5 → parseFieldDescriptor (TX5 k).2.2.1 = some (tyX5 k) := by decide +kernel
abbrev cX5_init : ByteArray := prog_7_method_1_code
def yX5_init : MethodName := ⟨RX5, "<init>", "(LCogwright$Train;)V"⟩
abbrev cX5_countCutGear : ByteArray := prog_7_method_2_code
def yX5_countCutGear : MethodName := ⟨RX5, "countCutGear", "(I)V"⟩
abbrev cX5_wearDown : ByteArray := prog_7_method_3_code
def yX5_wearDown : MethodName := ⟨RX5, "wearDown", "(I)V"⟩
def RX6 : String := "Cogwright$Stage"
def TX6 : u_T := fun k => match k with
  | 0 => ("Cogwright$Stage", "module", "I", true)
  | 1 => ("Cogwright$Stage", "driver", "I", true)
  | _ => ("Cogwright$Stage", "driven", "I", true)
def tyX6 : Nat → FieldType := fun k => match k with
  | 0 => .int
  | 1 => .int
  | _ => .int
abbrev wsX60 : List Cond := u_ws RX6 TX6 3
theorem nmX6 : ∀ a, a < 3 → ∀ b, b < 3 → a ≠ b → (TX6 a).2.1 ≠ (TX6 b).2.1 := by decide +kernel
theorem tyX6_ok : ∀ k, k < 3 → parseFieldDescriptor (TX6 k).2.2.1 = some (tyX6 k) := by decide +kernel
abbrev cX6_init : ByteArray := prog_8_method_1_code
def yX6_init : MethodName := ⟨RX6, "<init>", "(III)V"⟩
abbrev cX6_wearOf : ByteArray := prog_8_method_2_code
def yX6_wearOf : MethodName := ⟨RX6, "wearOf", "(I)I"⟩
abbrev cX6_mostWear : ByteArray := prog_8_method_3_code
def yX6_mostWear : MethodName := ⟨RX6, "mostWear", "()I"⟩
def RX7 : String := "Cogwright$Train"
def TX7 : u_T := fun k => match k with
  | 0 => ("Cogwright$Train", "stages", "Ljava/util/ArrayList;", true)
  | 1 => ("Cogwright$Train", "ratio", "LCogwright$Fraction;", true)
  | _ => ("Cogwright$Train", "claimed", "I", false)
def tyX7 : Nat → FieldType := fun k => match k with
  | 0 => .object "java/util/ArrayList"
  | 1 => .object "Cogwright$Fraction"
  | _ => .int
abbrev wsX70 : List Cond := u_ws RX7 TX7 3
theorem nmX7 : ∀ a, a < 3 → ∀ b, b < 3 → a ≠ b → (TX7 a).2.1 ≠ (TX7 b).2.1 := by decide +kernel
theorem tyX7_ok : ∀ k, k < 3 → parseFieldDescriptor (TX7 k).2.2.1 = some (tyX7 k) := by decide +kernel
abbrev cX7_init : ByteArray := prog_9_method_1_code
def yX7_init : MethodName := ⟨RX7, "<init>", "()V"⟩
abbrev cX7_append : ByteArray := prog_9_method_2_code
def yX7_append : MethodName := ⟨RX7, "append", "(LCogwright$Stage;)V"⟩
abbrev cX7_distance : ByteArray := prog_9_method_3_code
def yX7_distance : MethodName := ⟨RX7, "distance", "()I"⟩
def RX8 : String := "Cogwright"
def TX8 : u_T := fun k => match k with
  | 0 => ("Cogwright", "cutters", "Ljava/util/ArrayList;", true)
  | 1 => ("Cogwright", "trains", "Ljava/util/ArrayList;", true)
  | 2 => ("Cogwright", "orders", "Ljava/util/ArrayList;", true)
  | 3 => ("Cogwright", "machines", "Ljava/util/ArrayList;", true)
  | 4 => ("Cogwright", "waitingRow", "Ljava/util/ArrayList;", true)
  | 5 => ("Cogwright", "draft", "LCogwright$Train;", false)
  | _ => ("Cogwright", "now", "I", false)
def tyX8 : Nat → FieldType := fun k => match k with
  | 0 => .object "java/util/ArrayList"
  | 1 => .object "java/util/ArrayList"
  | 2 => .object "java/util/ArrayList"
  | 3 => .object "java/util/ArrayList"
  | 4 => .object "java/util/ArrayList"
  | 5 => .object "Cogwright$Train"
  | _ => .int
abbrev wsX80 : List Cond := u_ws RX8 TX8 7
theorem nmX8 : ∀ a, a < 7 → ∀ b, b < 7 → a ≠ b → (TX8 a).2.1 ≠ (TX8 b).2.1 := by decide +kernel
theorem tyX8_ok : ∀ k, k < 7 → parseFieldDescriptor (TX8 k).2.2.1 = some (tyX8 k) := by decide +kernel
abbrev cX8_init : ByteArray := prog_1_method_1_code
def yX8_init : MethodName := ⟨RX8, "<init>", "()V"⟩
abbrev cX8_addCutter : ByteArray := prog_1_method_2_code
def yX8_addCutter : MethodName := ⟨RX8, "addCutter", "(III)I"⟩
abbrev cX8_cutterFor : ByteArray := prog_1_method_3_code
def yX8_cutterFor : MethodName := ⟨RX8, "cutterFor", "(II)I"⟩
abbrev cX8_stage : ByteArray := prog_1_method_4_code
def yX8_stage : MethodName := ⟨RX8, "stage", "(III)I"⟩
abbrev cX8_scrap : ByteArray := prog_1_method_5_code
def yX8_scrap : MethodName := ⟨RX8, "scrap", "()I"⟩
abbrev cX8_make : ByteArray := prog_1_method_6_code
def yX8_make : MethodName := ⟨RX8, "make", "(I)I"⟩
abbrev cX8_numerator : ByteArray := prog_1_method_7_code
def yX8_numerator : MethodName := ⟨RX8, "numerator", "(I)I"⟩
abbrev cX8_denominator : ByteArray := prog_1_method_8_code
def yX8_denominator : MethodName := ⟨RX8, "denominator", "(I)I"⟩
abbrev cX8_turned : ByteArray := prog_1_method_9_code
def yX8_turned : MethodName := ⟨RX8, "turned", "(II)I"⟩
abbrev cX8_turnedByWalk : ByteArray := prog_1_method_10_code
def yX8_turnedByWalk : MethodName := ⟨RX8, "turnedByWalk", "(II)I"⟩
abbrev cX8_order : ByteArray := prog_1_method_11_code
def yX8_order : MethodName := ⟨RX8, "order", "(I)I"⟩
abbrev cX8_pass : ByteArray := prog_1_method_12_code
def yX8_pass : MethodName := ⟨RX8, "pass", "(I)I"⟩
abbrev cX8_time : ByteArray := prog_1_method_13_code
def yX8_time : MethodName := ⟨RX8, "time", "()I"⟩
abbrev cX8_waiting : ByteArray := prog_1_method_14_code
def yX8_waiting : MethodName := ⟨RX8, "waiting", "()I"⟩
abbrev cX8_cutterOn : ByteArray := prog_1_method_15_code
def yX8_cutterOn : MethodName := ⟨RX8, "cutterOn", "(I)I"⟩
abbrev cX8_ticksLeft : ByteArray := prog_1_method_16_code
def yX8_ticksLeft : MethodName := ⟨RX8, "ticksLeft", "(I)I"⟩
abbrev cX8_gearsLeft : ByteArray := prog_1_method_17_code
def yX8_gearsLeft : MethodName := ⟨RX8, "gearsLeft", "(I)I"⟩
abbrev cX8_doneAt : ByteArray := prog_1_method_18_code
def yX8_doneAt : MethodName := ⟨RX8, "doneAt", "(I)I"⟩
abbrev cX8_test : ByteArray := prog_1_method_19_code
def yX8_test : MethodName := ⟨RX8, "test", "(III)Z"⟩
abbrev cX8_wear : ByteArray := prog_1_method_20_code
def yX8_wear : MethodName := ⟨RX8, "wear", "(II)I"⟩
abbrev cX8_claims : ByteArray := prog_1_method_21_code
def yX8_claims : MethodName := ⟨RX8, "claims", "(I)I"⟩
abbrev cX8_leastNew : ByteArray := prog_1_method_22_code
def yX8_leastNew : MethodName := ⟨RX8, "leastNew", "(III)I"⟩
abbrev cX8_isOutside : ByteArray := prog_1_method_23_code
def yX8_isOutside : MethodName := ⟨RX8, "isOutside", "(III)Z"⟩
abbrev cX8_isNoModule : ByteArray := prog_1_method_24_code
def yX8_isNoModule : MethodName := ⟨RX8, "isNoModule", "(I)Z"⟩
abbrev cX8_isNoToothCount : ByteArray := prog_1_method_25_code
def yX8_isNoToothCount : MethodName := ⟨RX8, "isNoToothCount", "(I)Z"⟩
abbrev cX8_checkTurns : ByteArray := prog_1_method_26_code
def yX8_checkTurns : MethodName := ⟨RX8, "checkTurns", "(I)V"⟩
abbrev cX8_trainAt : ByteArray := prog_1_method_27_code
def yX8_trainAt : MethodName := ⟨RX8, "trainAt", "(I)LCogwright$Train;"⟩
abbrev cX8_orderAt : ByteArray := prog_1_method_28_code
def yX8_orderAt : MethodName := ⟨RX8, "orderAt", "(I)LCogwright$Order;"⟩
abbrev cX8_machineAt : ByteArray := prog_1_method_29_code
def yX8_machineAt : MethodName := ⟨RX8, "machineAt", "(I)LCogwright$Machine;"⟩
abbrev cX8_lowestCutter : ByteArray := prog_1_method_30_code
def yX8_lowestCutter : MethodName := ⟨RX8, "lowestCutter", "(II)I"⟩
abbrev cX8_hasAllCutters : ByteArray := prog_1_method_31_code
def yX8_hasAllCutters : MethodName := ⟨RX8, "hasAllCutters", "(LCogwright$Train;)Z"⟩
abbrev cX8_queue : ByteArray := prog_1_method_32_code
def yX8_queue : MethodName := ⟨RX8, "queue", "(LCogwright$Order;II)V"⟩
abbrev cX8_giveOutJobs : ByteArray := prog_1_method_33_code
def yX8_giveOutJobs : MethodName := ⟨RX8, "giveOutJobs", "()V"⟩
abbrev cX8_giveJob : ByteArray := prog_1_method_34_code
def yX8_giveJob : MethodName := ⟨RX8, "giveJob", "(LCogwright$Machine;)V"⟩
abbrev cX8_firstWithCutterOf : ByteArray := prog_1_method_35_code
def yX8_firstWithCutterOf : MethodName := ⟨RX8, "firstWithCutterOf", "(LCogwright$Machine;)I"⟩
abbrev cX8_firstWithFreeCutter : ByteArray := prog_1_method_36_code
def yX8_firstWithFreeCutter : MethodName := ⟨RX8, "firstWithFreeCutter", "(LCogwright$Machine;)I"⟩
abbrev cX8_isOnAnother : ByteArray := prog_1_method_37_code
def yX8_isOnAnother : MethodName := ⟨RX8, "isOnAnother", "(LCogwright$Machine;I)Z"⟩
abbrev cX8_workOneTick : ByteArray := prog_1_method_38_code
def yX8_workOneTick : MethodName := ⟨RX8, "workOneTick", "()I"⟩
abbrev cX8_teethWithoutCutter : ByteArray := prog_1_method_39_code
def yX8_teethWithoutCutter : MethodName := ⟨RX8, "teethWithoutCutter", "(I)I"⟩
abbrev cX8_leastWithDrivers : ByteArray := prog_1_method_40_code
def yX8_leastWithDrivers : MethodName := ⟨RX8, "leastWithDrivers", "(III)I"⟩
abbrev cX8_lesser : ByteArray := prog_1_method_41_code
def yX8_lesser : MethodName := ⟨RX8, "lesser", "(II)I"⟩
abbrev cX8_commonDivisor : ByteArray := prog_1_method_42_code
def yX8_commonDivisor : MethodName := ⟨RX8, "commonDivisor", "(JJ)J"⟩
def RX9 : String := "CogwrightModel"
def TX9 : u_T := fun k => match k with
  | 0 => ("CogwrightModel", "thrown", "I", false)
  | 1 => ("CogwrightModel", "cutterMany", "I", false)
  | 2 => ("CogwrightModel", "modules", "[I", true)
  | 3 => ("CogwrightModel", "leasts", "[I", true)
  | 4 => ("CogwrightModel", "mosts", "[I", true)
  | 5 => ("CogwrightModel", "draftMany", "I", false)
  | 6 => ("CogwrightModel", "draft", "[I", true)
  | 7 => ("CogwrightModel", "trainMany", "I", false)
  | 8 => ("CogwrightModel", "stageMany", "[I", true)
  | 9 => ("CogwrightModel", "stages", "[I", true)
  | 10 => ("CogwrightModel", "claims", "[I", true)
  | 11 => ("CogwrightModel", "orderMany", "I", false)
  | 12 => ("CogwrightModel", "orderTrains", "[I", true)
  | 13 => ("CogwrightModel", "doneAts", "[I", true)
  | 14 => ("CogwrightModel", "isBroken", "[Z", true)
  | 15 => ("CogwrightModel", "wears", "[I", true)
  | 16 => ("CogwrightModel", "jobMany", "I", false)
  | 17 => ("CogwrightModel", "jobOrders", "[I", true)
  | 18 => ("CogwrightModel", "jobCutters", "[I", true)
  | 19 => ("CogwrightModel", "jobTeeth", "[I", true)
  | 20 => ("CogwrightModel", "spots", "[I", true)
  | 21 => ("CogwrightModel", "time", "I", false)
  | 22 => ("CogwrightModel", "cutters", "[I", true)
  | 23 => ("CogwrightModel", "jobs", "[I", true)
  | _ => ("CogwrightModel", "lefts", "[I", true)
def tyX9 : Nat → FieldType := fun k => match k with
  | 0 => .int
  | 1 => .int
  | 2 => .array .int
  | 3 => .array .int
  | 4 => .array .int
  | 5 => .int
  | 6 => .array .int
  | 7 => .int
  | 8 => .array .int
  | 9 => .array .int
  | 10 => .array .int
  | 11 => .int
  | 12 => .array .int
  | 13 => .array .int
  | 14 => .array .boolean
  | 15 => .array .int
  | 16 => .int
  | 17 => .array .int
  | 18 => .array .int
  | 19 => .array .int
  | 20 => .array .int
  | 21 => .int
  | 22 => .array .int
  | 23 => .array .int
  | _ => .array .int
abbrev wsX90 : List Cond := u_ws RX9 TX9 25
theorem nmX9 : ∀ a, a < 25 → ∀ b, b < 25 → a ≠ b → (TX9 a).2.1 ≠ (TX9 b).2.1 := by decide +kernel
theorem tyX9_ok : ∀ k, k < 25 → parseFieldDescriptor (TX9 k).2.2.1 = some (tyX9 k) := by decide +kernel
abbrev cX9_init : ByteArray := prog_11_method_1_code
def yX9_init : MethodName := ⟨RX9, "<init>", "()V"⟩
abbrev cX9_thrown : ByteArray := prog_11_method_2_code
def yX9_thrown : MethodName := ⟨RX9, "thrown", "()I"⟩
abbrev cX9_in : ByteArray := prog_11_method_4_code
def yX9_in : MethodName := ⟨RX9, "in", "(III)Z"⟩
abbrev cX9_isTrain : ByteArray := prog_11_method_5_code
def yX9_isTrain : MethodName := ⟨RX9, "isTrain", "(I)Z"⟩
abbrev cX9_isOrder : ByteArray := prog_11_method_6_code
def yX9_isOrder : MethodName := ⟨RX9, "isOrder", "(I)Z"⟩
abbrev cX9_isMachine : ByteArray := prog_11_method_7_code
def yX9_isMachine : MethodName := ⟨RX9, "isMachine", "(I)Z"⟩
abbrev cX9_addCutter : ByteArray := prog_11_method_8_code
def yX9_addCutter : MethodName := ⟨RX9, "addCutter", "(III)I"⟩
abbrev cX9_cutter : ByteArray := prog_11_method_9_code
def yX9_cutter : MethodName := ⟨RX9, "cutter", "(II)I"⟩
abbrev cX9_cutterFor : ByteArray := prog_11_method_10_code
def yX9_cutterFor : MethodName := ⟨RX9, "cutterFor", "(II)I"⟩
abbrev cX9_draftDistance : ByteArray := prog_11_method_11_code
def yX9_draftDistance : MethodName := ⟨RX9, "draftDistance", "()I"⟩
abbrev cX9_stage : ByteArray := prog_11_method_12_code
def yX9_stage : MethodName := ⟨RX9, "stage", "(III)I"⟩
abbrev cX9_scrap : ByteArray := prog_11_method_13_code
def yX9_scrap : MethodName := ⟨RX9, "scrap", "()I"⟩
abbrev cX9_make : ByteArray := prog_11_method_14_code
def yX9_make : MethodName := ⟨RX9, "make", "(I)I"⟩
abbrev cX9_product : ByteArray := prog_11_method_15_code
def yX9_product : MethodName := ⟨RX9, "product", "(II)I"⟩
abbrev cX9_common : ByteArray := prog_11_method_16_code
def yX9_common : MethodName := ⟨RX9, "common", "(II)I"⟩
abbrev cX9_numerator : ByteArray := prog_11_method_17_code
def yX9_numerator : MethodName := ⟨RX9, "numerator", "(I)I"⟩
abbrev cX9_denominator : ByteArray := prog_11_method_18_code
def yX9_denominator : MethodName := ⟨RX9, "denominator", "(I)I"⟩
abbrev cX9_turned : ByteArray := prog_11_method_19_code
def yX9_turned : MethodName := ⟨RX9, "turned", "(II)I"⟩
abbrev cX9_turnedByWalk : ByteArray := prog_11_method_20_code
def yX9_turnedByWalk : MethodName := ⟨RX9, "turnedByWalk", "(II)I"⟩
abbrev cX9_waits : ByteArray := prog_11_method_21_code
def yX9_waits : MethodName := ⟨RX9, "waits", "(III)V"⟩
abbrev cX9_order : ByteArray := prog_11_method_22_code
def yX9_order : MethodName := ⟨RX9, "order", "(I)I"⟩
abbrev cX9_isOn : ByteArray := prog_11_method_23_code
def yX9_isOn : MethodName := ⟨RX9, "isOn", "(I)Z"⟩
abbrev cX9_first : ByteArray := prog_11_method_24_code
def yX9_first : MethodName := ⟨RX9, "first", "(IZ)I"⟩
abbrev cX9_toCut : ByteArray := prog_11_method_25_code
def yX9_toCut : MethodName := ⟨RX9, "toCut", "(I)I"⟩
abbrev cX9_takes : ByteArray := prog_11_method_26_code
def yX9_takes : MethodName := ⟨RX9, "takes", "(I)V"⟩
abbrev cX9_tick : ByteArray := prog_11_method_27_code
def yX9_tick : MethodName := ⟨RX9, "tick", "()I"⟩
abbrev cX9_pass : ByteArray := prog_11_method_28_code
def yX9_pass : MethodName := ⟨RX9, "pass", "(I)I"⟩
abbrev cX9_time : ByteArray := prog_11_method_29_code
def yX9_time : MethodName := ⟨RX9, "time", "()I"⟩
abbrev cX9_waiting : ByteArray := prog_11_method_30_code
def yX9_waiting : MethodName := ⟨RX9, "waiting", "()I"⟩
abbrev cX9_cutterOn : ByteArray := prog_11_method_31_code
def yX9_cutterOn : MethodName := ⟨RX9, "cutterOn", "(I)I"⟩
abbrev cX9_ticksLeft : ByteArray := prog_11_method_32_code
def yX9_ticksLeft : MethodName := ⟨RX9, "ticksLeft", "(I)I"⟩
abbrev cX9_gearsLeft : ByteArray := prog_11_method_33_code
def yX9_gearsLeft : MethodName := ⟨RX9, "gearsLeft", "(I)I"⟩
abbrev cX9_doneAt : ByteArray := prog_11_method_34_code
def yX9_doneAt : MethodName := ⟨RX9, "doneAt", "(I)I"⟩
abbrev cX9_test : ByteArray := prog_11_method_35_code
def yX9_test : MethodName := ⟨RX9, "test", "(III)Z"⟩
abbrev cX9_wear : ByteArray := prog_11_method_36_code
def yX9_wear : MethodName := ⟨RX9, "wear", "(II)I"⟩
abbrev cX9_claims : ByteArray := prog_11_method_37_code
def yX9_claims : MethodName := ⟨RX9, "claims", "(I)I"⟩
abbrev cX9_lacks : ByteArray := prog_11_method_38_code
def yX9_lacks : MethodName := ⟨RX9, "lacks", "(II)I"⟩
abbrev cX9_news : ByteArray := prog_11_method_39_code
def yX9_news : MethodName := ⟨RX9, "news", "(IIIII)I"⟩
abbrev cX9_leastNew : ByteArray := prog_11_method_40_code
def yX9_leastNew : MethodName := ⟨RX9, "leastNew", "(III)I"⟩
def RJx145de : String := "java/io/Serializable"
def TJx145de : u_T := fun k => match k with
  | _ => ("", "", "", false)
def tyJx145de : Nat → FieldType := fun k => match k with
  | _ => .int
abbrev wsJx145de0 : List Cond := u_ws RJx145de TJx145de 0
theorem nmJx145de : ∀ a, a < 0 → ∀ b, b < 0 → a ≠ b → (TJx145de a).2.1 ≠ (TJx145de b).2.1 := by decide +kernel
theorem tyJx145de_ok : ∀ k, k < 0 → parseFieldDescriptor (TJx145de k).2.2.1 = some (tyJx145de k) := by decide +kernel
def RJx8e188 : String := "java/lang/Cloneable"
def TJx8e188 : u_T := fun k => match k with
  | _ => ("", "", "", false)
def tyJx8e188 : Nat → FieldType := fun k => match k with
  | _ => .int
abbrev wsJx8e1880 : List Cond := u_ws RJx8e188 TJx8e188 0
theorem nmJx8e188 : ∀ a, a < 0 → ∀ b, b < 0 → a ≠ b → (TJx8e188 a).2.1 ≠ (TJx8e188 b).2.1 := by decide +kernel
theorem tyJx8e188_ok : ∀ k, k < 0 → parseFieldDescriptor (TJx8e188 k).2.2.1 = some (tyJx8e188 k) := by decide +kernel
def RJ6 : String := "java/lang/Integer"
def TJ6 : u_T := fun k => match k with
  | _ => ("", "", "", false)
def tyJ6 : Nat → FieldType := fun k => match k with
  | _ => .int
abbrev wsJ60 : List Cond := u_ws RJ6 TJ6 0
theorem nmJ6 : ∀ a, a < 0 → ∀ b, b < 0 → a ≠ b → (TJ6 a).2.1 ≠ (TJ6 b).2.1 := by decide +kernel
theorem tyJ6_ok : ∀ k, k < 0 → parseFieldDescriptor (TJ6 k).2.2.1 = some (tyJ6 k) := by decide +kernel
abbrev cJ6_bitCount_0f7a4 : ByteArray := prog_18_method_49_code
def yJ6_bitCount_0f7a4 : MethodName := ⟨RJ6, "bitCount", "(I)I"⟩
def RJxab1ab : String := "java/lang/Iterable"
def TJxab1ab : u_T := fun k => match k with
  | _ => ("", "", "", false)
def tyJxab1ab : Nat → FieldType := fun k => match k with
  | _ => .int
abbrev wsJxab1ab0 : List Cond := u_ws RJxab1ab TJxab1ab 0
theorem nmJxab1ab : ∀ a, a < 0 → ∀ b, b < 0 → a ≠ b → (TJxab1ab a).2.1 ≠ (TJxab1ab b).2.1 := by decide +kernel
theorem tyJxab1ab_ok : ∀ k, k < 0 → parseFieldDescriptor (TJxab1ab k).2.2.1 = some (tyJxab1ab k) := by decide +kernel
def RJ9 : String := "java/lang/Math"
def TJ9 : u_T := fun k => match k with
  | _ => ("", "", "", false)
def tyJ9 : Nat → FieldType := fun k => match k with
  | _ => .int
abbrev wsJ90 : List Cond := u_ws RJ9 TJ9 0
theorem nmJ9 : ∀ a, a < 0 → ∀ b, b < 0 → a ≠ b → (TJ9 a).2.1 ≠ (TJ9 b).2.1 := by decide +kernel
theorem tyJ9_ok : ∀ k, k < 0 → parseFieldDescriptor (TJ9 k).2.2.1 = some (tyJ9 k) := by decide +kernel
abbrev cJ9_max_7cf53 : ByteArray := prog_20_method_65_code
def yJ9_max_7cf53 : MethodName := ⟨RJ9, "max", "(II)I"⟩
abbrev cJ9_min_7cf53 : ByteArray := prog_20_method_69_code
def yJ9_min_7cf53 : MethodName := ⟨RJ9, "min", "(II)I"⟩
def RJ0 : String := "java/lang/String"
def TJ0 : u_T := fun k => match k with
  | _ => ("", "", "", false)
def tyJ0 : Nat → FieldType := fun k => match k with
  | _ => .int
abbrev wsJ00 : List Cond := u_ws RJ0 TJ0 0
theorem nmJ0 : ∀ a, a < 0 → ∀ b, b < 0 → a ≠ b → (TJ0 a).2.1 ≠ (TJ0 b).2.1 := by decide +kernel
theorem tyJ0_ok : ∀ k, k < 0 → parseFieldDescriptor (TJ0 k).2.2.1 = some (tyJ0 k) := by decide +kernel
def RJ10 : String := "java/lang/System"
def TJ10 : u_T := fun k => match k with
  | _ => ("", "", "", false)
def tyJ10 : Nat → FieldType := fun k => match k with
  | _ => .int
abbrev wsJ100 : List Cond := u_ws RJ10 TJ10 0
theorem nmJ10 : ∀ a, a < 0 → ∀ b, b < 0 → a ≠ b → (TJ10 a).2.1 ≠ (TJ10 b).2.1 := by decide +kernel
theorem tyJ10_ok : ∀ k, k < 0 → parseFieldDescriptor (TJ10 k).2.2.1 = some (tyJ10 k) := by decide +kernel
def RJxa1e45 : String := "java/util/AbstractCollection"
def TJxa1e45 : u_T := fun k => match k with
  | _ => ("", "", "", false)
def tyJxa1e45 : Nat → FieldType := fun k => match k with
  | _ => .int
abbrev wsJxa1e450 : List Cond := u_ws RJxa1e45 TJxa1e45 0
theorem nmJxa1e45 : ∀ a, a < 0 → ∀ b, b < 0 → a ≠ b → (TJxa1e45 a).2.1 ≠ (TJxa1e45 b).2.1 := by decide +kernel
theorem tyJxa1e45_ok : ∀ k, k < 0 → parseFieldDescriptor (TJxa1e45 k).2.2.1 = some (tyJxa1e45 k) := by decide +kernel
abbrev cJxa1e45_init_da8c8 : ByteArray := prog_25_method_1_code
def yJxa1e45_init_da8c8 : MethodName := ⟨RJxa1e45, "<init>", "()V"⟩
def RJxc12de : String := "java/util/AbstractList"
def TJxc12de : u_T := fun k => match k with
  | _ => ("", "", "", false)
def tyJxc12de : Nat → FieldType := fun k => match k with
  | _ => .int
abbrev wsJxc12de0 : List Cond := u_ws RJxc12de TJxc12de 0
theorem nmJxc12de : ∀ a, a < 0 → ∀ b, b < 0 → a ≠ b → (TJxc12de a).2.1 ≠ (TJxc12de b).2.1 := by decide +kernel
theorem tyJxc12de_ok : ∀ k, k < 0 → parseFieldDescriptor (TJxc12de k).2.2.1 = some (tyJxc12de k) := by decide +kernel
abbrev cJxc12de_init_da8c8 : ByteArray := prog_26_method_1_code
def yJxc12de_init_da8c8 : MethodName := ⟨RJxc12de, "<init>", "()V"⟩
def RJx4a65c : String := "java/util/ArrayList"
def TJx4a65c : u_T := fun k => match k with
  | 0 => ("java/util/AbstractList", "modCount", "I", false)
  | 1 => ("java/util/ArrayList", "elementData", "[Ljava/lang/Object;", false)
  | _ => ("java/util/ArrayList", "size", "I", false)
def tyJx4a65c : Nat → FieldType := fun k => match k with
  | 0 => .int
  | 1 => .array (.object "java/lang/Object")
  | _ => .int
abbrev wsJx4a65c0 : List Cond := u_ws RJx4a65c TJx4a65c 3
theorem nmJx4a65c : ∀ a, a < 3 → ∀ b, b < 3 → a ≠ b → (TJx4a65c a).2.1 ≠ (TJx4a65c b).2.1 := by decide +kernel
theorem tyJx4a65c_ok : ∀ k, k < 3 → parseFieldDescriptor (TJx4a65c k).2.2.1 = some (tyJx4a65c k) := by decide +kernel
abbrev cJx4a65c_init_da8c8 : ByteArray := prog_27_method_2_code
def yJx4a65c_init_da8c8 : MethodName := ⟨RJx4a65c, "<init>", "()V"⟩
abbrev cJx4a65c_grow_92f84 : ByteArray := prog_27_method_6_code
def yJx4a65c_grow_92f84 : MethodName := ⟨RJx4a65c, "grow", "(I)[Ljava/lang/Object;"⟩
abbrev cJx4a65c_grow_d5877 : ByteArray := prog_27_method_7_code
def yJx4a65c_grow_d5877 : MethodName := ⟨RJx4a65c, "grow", "()[Ljava/lang/Object;"⟩
abbrev cJx4a65c_size_8abf5 : ByteArray := prog_27_method_8_code
def yJx4a65c_size_8abf5 : MethodName := ⟨RJx4a65c, "size", "()I"⟩
abbrev cJx4a65c_isEmpty_aae02 : ByteArray := prog_27_method_9_code
def yJx4a65c_isEmpty_aae02 : MethodName := ⟨RJx4a65c, "isEmpty", "()Z"⟩
abbrev cJx4a65c_elementData_915e3 : ByteArray := prog_27_method_18_code
def yJx4a65c_elementData_915e3 : MethodName := ⟨RJx4a65c, "elementData", "(I)Ljava/lang/Object;"⟩
abbrev cJx4a65c_get_915e3 : ByteArray := prog_27_method_20_code
def yJx4a65c_get_915e3 : MethodName := ⟨RJx4a65c, "get", "(I)Ljava/lang/Object;"⟩
abbrev cJx4a65c_add_72be8 : ByteArray := prog_27_method_24_code
def yJx4a65c_add_72be8 : MethodName := ⟨RJx4a65c, "add", "(Ljava/lang/Object;[Ljava/lang/Object;I)V"⟩
abbrev cJx4a65c_add_9ea2d : ByteArray := prog_27_method_25_code
def yJx4a65c_add_9ea2d : MethodName := ⟨RJx4a65c, "add", "(Ljava/lang/Object;)Z"⟩
abbrev cJx4a65c_remove_915e3 : ByteArray := prog_27_method_29_code
def yJx4a65c_remove_915e3 : MethodName := ⟨RJx4a65c, "remove", "(I)Ljava/lang/Object;"⟩
abbrev cJx4a65c_fastRemove_b59b0 : ByteArray := prog_27_method_39_code
def yJx4a65c_fastRemove_b59b0 : MethodName := ⟨RJx4a65c, "fastRemove", "([Ljava/lang/Object;I)V"⟩
def RJ7 : String := "java/util/Arrays"
def TJ7 : u_T := fun k => match k with
  | _ => ("", "", "", false)
def tyJ7 : Nat → FieldType := fun k => match k with
  | _ => .int
abbrev wsJ70 : List Cond := u_ws RJ7 TJ7 0
theorem nmJ7 : ∀ a, a < 0 → ∀ b, b < 0 → a ≠ b → (TJ7 a).2.1 ≠ (TJ7 b).2.1 := by decide +kernel
theorem tyJ7_ok : ∀ k, k < 0 → parseFieldDescriptor (TJ7 k).2.2.1 = some (tyJ7 k) := by decide +kernel
abbrev cJ7_copyOf_1904c : ByteArray := prog_28_method_119_code
def yJ7_copyOf_1904c : MethodName := ⟨RJ7, "copyOf", "([Ljava/lang/Object;I)[Ljava/lang/Object;"⟩
abbrev cJ7_copyOf_6403c : ByteArray := prog_28_method_120_code
def yJ7_copyOf_6403c : MethodName := ⟨RJ7, "copyOf", "([Ljava/lang/Object;ILjava/lang/Class;)[Ljava/lang/Object;"⟩
def RJx5ef63 : String := "java/util/Collection"
def TJx5ef63 : u_T := fun k => match k with
  | _ => ("", "", "", false)
def tyJx5ef63 : Nat → FieldType := fun k => match k with
  | _ => .int
abbrev wsJx5ef630 : List Cond := u_ws RJx5ef63 TJx5ef63 0
theorem nmJx5ef63 : ∀ a, a < 0 → ∀ b, b < 0 → a ≠ b → (TJx5ef63 a).2.1 ≠ (TJx5ef63 b).2.1 := by decide +kernel
theorem tyJx5ef63_ok : ∀ k, k < 0 → parseFieldDescriptor (TJx5ef63 k).2.2.1 = some (tyJx5ef63 k) := by decide +kernel
def RJxbd725 : String := "java/util/List"
def TJxbd725 : u_T := fun k => match k with
  | _ => ("", "", "", false)
def tyJxbd725 : Nat → FieldType := fun k => match k with
  | _ => .int
abbrev wsJxbd7250 : List Cond := u_ws RJxbd725 TJxbd725 0
theorem nmJxbd725 : ∀ a, a < 0 → ∀ b, b < 0 → a ≠ b → (TJxbd725 a).2.1 ≠ (TJxbd725 b).2.1 := by decide +kernel
theorem tyJxbd725_ok : ∀ k, k < 0 → parseFieldDescriptor (TJxbd725 k).2.2.1 = some (tyJxbd725 k) := by decide +kernel
def RJ15 : String := "java/util/Objects"
def TJ15 : u_T := fun k => match k with
  | _ => ("", "", "", false)
def tyJ15 : Nat → FieldType := fun k => match k with
  | _ => .int
abbrev wsJ150 : List Cond := u_ws RJ15 TJ15 0
theorem nmJ15 : ∀ a, a < 0 → ∀ b, b < 0 → a ≠ b → (TJ15 a).2.1 ≠ (TJ15 b).2.1 := by decide +kernel
theorem tyJ15_ok : ∀ k, k < 0 → parseFieldDescriptor (TJ15 k).2.2.1 = some (tyJ15 k) := by decide +kernel
abbrev cJ15_checkIndex_7cf53 : ByteArray := prog_31_method_17_code
def yJ15_checkIndex_7cf53 : MethodName := ⟨RJ15, "checkIndex", "(II)I"⟩
def RJxf0a74 : String := "java/util/RandomAccess"
def TJxf0a74 : u_T := fun k => match k with
  | _ => ("", "", "", false)
def tyJxf0a74 : Nat → FieldType := fun k => match k with
  | _ => .int
abbrev wsJxf0a740 : List Cond := u_ws RJxf0a74 TJxf0a74 0
theorem nmJxf0a74 : ∀ a, a < 0 → ∀ b, b < 0 → a ≠ b → (TJxf0a74 a).2.1 ≠ (TJxf0a74 b).2.1 := by decide +kernel
theorem tyJxf0a74_ok : ∀ k, k < 0 → parseFieldDescriptor (TJxf0a74 k).2.2.1 = some (tyJxf0a74 k) := by decide +kernel
def RJxa66e6 : String := "java/util/SequencedCollection"
def TJxa66e6 : u_T := fun k => match k with
  | _ => ("", "", "", false)
def tyJxa66e6 : Nat → FieldType := fun k => match k with
  | _ => .int
abbrev wsJxa66e60 : List Cond := u_ws RJxa66e6 TJxa66e6 0
theorem nmJxa66e6 : ∀ a, a < 0 → ∀ b, b < 0 → a ≠ b → (TJxa66e6 a).2.1 ≠ (TJxa66e6 b).2.1 := by decide +kernel
theorem tyJxa66e6_ok : ∀ k, k < 0 → parseFieldDescriptor (TJxa66e6 k).2.2.1 = some (tyJxa66e6 k) := by decide +kernel
def RJ8 : String := "jdk/internal/util/ArraysSupport"
def TJ8 : u_T := fun k => match k with
  | _ => ("", "", "", false)
def tyJ8 : Nat → FieldType := fun k => match k with
  | _ => .int
abbrev wsJ80 : List Cond := u_ws RJ8 TJ8 0
theorem nmJ8 : ∀ a, a < 0 → ∀ b, b < 0 → a ≠ b → (TJ8 a).2.1 ≠ (TJ8 b).2.1 := by decide +kernel
theorem tyJ8_ok : ∀ k, k < 0 → parseFieldDescriptor (TJ8 k).2.2.1 = some (tyJ8 k) := by decide +kernel
abbrev cJ8_newLength_cabcc : ByteArray := prog_34_method_27_code
def yJ8_newLength_cabcc : MethodName := ⟨RJ8, "newLength", "(III)I"⟩
abbrev cJ8_hugeLength_7cf53 : ByteArray := prog_34_method_28_code
def yJ8_hugeLength_7cf53 : MethodName := ⟨RJ8, "hugeLength", "(II)I"⟩
def RJ3 : String := "jdk/internal/util/Preconditions"
def TJ3 : u_T := fun k => match k with
  | _ => ("", "", "", false)
def tyJ3 : Nat → FieldType := fun k => match k with
  | _ => .int
abbrev wsJ30 : List Cond := u_ws RJ3 TJ3 0
theorem nmJ3 : ∀ a, a < 0 → ∀ b, b < 0 → a ≠ b → (TJ3 a).2.1 ≠ (TJ3 b).2.1 := by decide +kernel
theorem tyJ3_ok : ∀ k, k < 0 → parseFieldDescriptor (TJ3 k).2.2.1 = some (tyJ3 k) := by decide +kernel
abbrev cJ3_checkIndex_8e157 : ByteArray := prog_35_method_11_code
def yJ3_checkIndex_8e157 : MethodName := ⟨RJ3, "checkIndex", "(IILjava/util/function/BiFunction;)I"⟩
def RL : String := "CogwrightLaw"
abbrev cL_addCutter : ByteArray := method_3_code
def yL_addCutter : MethodName := ⟨RL, "addCutter", "(LCogwright;III[J)I"⟩
abbrev cL_cutterFor : ByteArray := method_4_code
def yL_cutterFor : MethodName := ⟨RL, "cutterFor", "(LCogwright;II[J)I"⟩
abbrev cL_stage : ByteArray := method_5_code
def yL_stage : MethodName := ⟨RL, "stage", "(LCogwright;III[J)I"⟩
abbrev cL_make : ByteArray := method_6_code
def yL_make : MethodName := ⟨RL, "make", "(LCogwright;I[J)I"⟩
abbrev cL_numerator : ByteArray := method_7_code
def yL_numerator : MethodName := ⟨RL, "numerator", "(LCogwright;I[J)I"⟩
abbrev cL_denominator : ByteArray := method_8_code
def yL_denominator : MethodName := ⟨RL, "denominator", "(LCogwright;I[J)I"⟩
abbrev cL_turned : ByteArray := method_9_code
def yL_turned : MethodName := ⟨RL, "turned", "(LCogwright;II[J)I"⟩
abbrev cL_turnedByWalk : ByteArray := method_10_code
def yL_turnedByWalk : MethodName := ⟨RL, "turnedByWalk", "(LCogwright;II[J)I"⟩
abbrev cL_order : ByteArray := method_11_code
def yL_order : MethodName := ⟨RL, "order", "(LCogwright;I[J)I"⟩
abbrev cL_pass : ByteArray := method_12_code
def yL_pass : MethodName := ⟨RL, "pass", "(LCogwright;I[J)I"⟩
abbrev cL_cutterOn : ByteArray := method_13_code
def yL_cutterOn : MethodName := ⟨RL, "cutterOn", "(LCogwright;I[J)I"⟩
abbrev cL_ticksLeft : ByteArray := method_14_code
def yL_ticksLeft : MethodName := ⟨RL, "ticksLeft", "(LCogwright;I[J)I"⟩
abbrev cL_gearsLeft : ByteArray := method_15_code
def yL_gearsLeft : MethodName := ⟨RL, "gearsLeft", "(LCogwright;I[J)I"⟩
abbrev cL_doneAt : ByteArray := method_16_code
def yL_doneAt : MethodName := ⟨RL, "doneAt", "(LCogwright;I[J)I"⟩
abbrev cL_test : ByteArray := method_17_code
def yL_test : MethodName := ⟨RL, "test", "(LCogwright;III[J)I"⟩
abbrev cL_wear : ByteArray := method_18_code
def yL_wear : MethodName := ⟨RL, "wear", "(LCogwright;II[J)I"⟩
abbrev cL_claims : ByteArray := method_19_code
def yL_claims : MethodName := ⟨RL, "claims", "(LCogwright;I[J)I"⟩
abbrev cL_leastNew : ByteArray := method_20_code
def yL_leastNew : MethodName := ⟨RL, "leastNew", "(LCogwright;III[J)I"⟩
abbrev cL_law : ByteArray := code
def yL_law : MethodName := ⟨RL, "law", "([I)Z"⟩
abbrev vwCl : List vw_C := [(RJx4a65c, TJx4a65c, 3), (RX0, TX0, 3), (RX1, TX1, 2), (RX2, TX2, 3), (RX3, TX3, 3), (RX4, TX4, 2), (RX5, TX5, 5), (RX6, TX6, 3), (RX7, TX7, 3), (RX8, TX8, 7), (RX9, TX9, 25)]
/-- the tables' words that stay good, in one list: every method's words -/
def fw_tb : List Cond := lw_tbl.filter goodWord
theorem fw_m {w : Cond} (i : Nat) (h : lw_tbl[i]? = some w) (hg : goodWord w = true) : w ∈ fw_tb := List.mem_filter.mpr ⟨List.mem_of_getElem? h, hg⟩
theorem fw_gd {w : Cond} (h : w ∈ fw_tb) : w ∈ fw_tb ∧ ((w.onTables && w.keeps) = true ∨ ∃ ty, w = .arrayClass ty) := ⟨h, good_of_word (List.mem_filter.mp h).2⟩
abbrev fw_ws (y : MethodName) (cc : ByteArray) (maxL : Nat) (ret : Option FieldType) : List Cond := Cond.code y cc maxL ret :: fw_tb
theorem fw_gw {y : MethodName} {cc : ByteArray} {maxL : Nat} {ret : Option FieldType} (h : Cond.code y cc maxL ret ∈ fw_tb) : GoodIn fw_tb (fw_ws y cc maxL ret) := fun w hw => (List.mem_cons.mp hw).elim (fun e => by rw [e]; exact fw_gd h) (fun h => fw_gd h)
def fw_md (y : MethodName) (C : String) (n : Nat) : Prop := y.cls = C ∧ y.cls ≠ "java/lang/invoke/MethodHandle" ∧ y.cls ≠ "java/lang/invoke/VarHandle" ∧ (parseMethodDescriptor y.desc).map (fun d => d.parameters.length) = some n
def fw_yV (C : String) (y : MethodName) (cc : ByteArray) (maxL : Nat) (ret : Option FieldType) (n : Nat) : Prop := Cond.instanceMethod y ∈ fw_tb ∧ Cond.selects C y y ∈ fw_tb ∧ Cond.initialized C ∈ fw_tb ∧ Cond.code y cc maxL ret ∈ fw_tb ∧ fw_md y C n
def fw_yS (C : String) (y : MethodName) (cc : ByteArray) (maxL : Nat) (ret : Option FieldType) (n : Nat) : Prop := Cond.static y ∈ fw_tb ∧ Cond.initialized C ∈ fw_tb ∧ Cond.code y cc maxL ret ∈ fw_tb ∧ fw_md y C n
def fw_yI (C : String) (y : MethodName) (cc : ByteArray) (maxL : Nat) (n : Nat) : Prop := Cond.instanceMethod y ∈ fw_tb ∧ Cond.initialized C ∈ fw_tb ∧ Cond.code y cc maxL none ∈ fw_tb ∧ y.name = "<init>" ∧ fw_md y C n
theorem fw_gV {own C : String} {idx maxL n : Nat} {y : MethodName} {cc : ByteArray} {ret : Option FieldType} (h1 : Cond.methodLink own idx y ∈ fw_tb) (h : fw_yV C y cc maxL ret n) : GoodIn fw_tb (wsV own idx C y (fw_ws y cc maxL ret)) := by
  intro w hw
  unfold wsV at hw
  rcases List.mem_append.mp hw with hw | hw
  · simp only [List.mem_cons, List.not_mem_nil, or_false] at hw
    rcases hw with rfl | rfl | rfl | rfl
    · exact fw_gd h1
    · exact fw_gd h.1
    · exact fw_gd h.2.1
    · exact fw_gd h.2.2.1
  · exact fw_gw h.2.2.2.1 w hw
theorem fw_gS {own C : String} {idx maxL n : Nat} {y : MethodName} {cc : ByteArray} {ret : Option FieldType} (h1 : Cond.methodLink own idx y ∈ fw_tb) (h : fw_yS C y cc maxL ret n) : GoodIn fw_tb (va_wsS own idx y (fw_ws y cc maxL ret)) := by
  intro w hw
  unfold va_wsS at hw
  rcases List.mem_append.mp hw with hw | hw
  · simp only [List.mem_cons, List.not_mem_nil, or_false] at hw
    rcases hw with rfl | rfl | rfl
    · exact fw_gd h1
    · exact fw_gd h.1
    · rw [h.2.2.2.1]; exact fw_gd h.2.1
  · exact fw_gw h.2.2.1 w hw
theorem wd_0 : Cond.initialized RL ∈ fw_tb := fw_m 32 (by decide +kernel) (by decide +kernel)
theorem wd_1 : Cond.initialized RX8 ∈ fw_tb := fw_m 33 (by decide +kernel) (by decide +kernel)
theorem wd_2 : Cond.initialized RJxa1e45 ∈ fw_tb := fw_m 34 (by decide +kernel) (by decide +kernel)
theorem wd_3 : Cond.initialized RJxc12de ∈ fw_tb := fw_m 35 (by decide +kernel) (by decide +kernel)
theorem wd_4 : Cond.initialized RJx4a65c ∈ fw_tb := fw_m 36 (by decide +kernel) (by decide +kernel)
theorem wd_5 : Cond.initialized RX7 ∈ fw_tb := fw_m 37 (by decide +kernel) (by decide +kernel)
theorem wd_6 : Cond.initialized RX1 ∈ fw_tb := fw_m 38 (by decide +kernel) (by decide +kernel)
theorem wd_7 : Cond.initialized RX3 ∈ fw_tb := fw_m 39 (by decide +kernel) (by decide +kernel)
theorem wd_8 : Cond.initialized RJ8 ∈ fw_tb := fw_m 40 (by decide +kernel) (by decide +kernel)
theorem wd_9 : Cond.initialized RJ9 ∈ fw_tb := fw_m 41 (by decide +kernel) (by decide +kernel)
theorem wd_10 : Cond.initialized RJ7 ∈ fw_tb := fw_m 42 (by decide +kernel) (by decide +kernel)
theorem wd_11 : Cond.initialized RJ10 ∈ fw_tb := fw_m 43 (by decide +kernel) (by decide +kernel)
theorem wd_12 : Cond.initialized RX9 ∈ fw_tb := fw_m 44 (by decide +kernel) (by decide +kernel)
theorem wd_13 : Cond.initialized "java/lang/Throwable" ∈ fw_tb := fw_m 45 (by decide +kernel) (by decide +kernel)
theorem wd_14 : Cond.initialized "java/lang/Exception" ∈ fw_tb := fw_m 46 (by decide +kernel) (by decide +kernel)
theorem wd_15 : Cond.initialized "java/lang/RuntimeException" ∈ fw_tb := fw_m 47 (by decide +kernel) (by decide +kernel)
theorem wd_16 : Cond.initialized "java/lang/IllegalArgumentException" ∈ fw_tb := fw_m 48 (by decide +kernel) (by decide +kernel)
theorem wd_17 : Cond.initialized "java/lang/IllegalStateException" ∈ fw_tb := fw_m 49 (by decide +kernel) (by decide +kernel)
theorem wd_18 : Cond.initialized RX0 ∈ fw_tb := fw_m 50 (by decide +kernel) (by decide +kernel)
theorem wd_19 : Cond.initialized RJ15 ∈ fw_tb := fw_m 51 (by decide +kernel) (by decide +kernel)
theorem wd_20 : Cond.initialized RJ3 ∈ fw_tb := fw_m 52 (by decide +kernel) (by decide +kernel)
theorem wd_21 : Cond.initialized RX6 ∈ fw_tb := fw_m 53 (by decide +kernel) (by decide +kernel)
theorem wd_22 : Cond.initialized "java/lang/IndexOutOfBoundsException" ∈ fw_tb := fw_m 54 (by decide +kernel) (by decide +kernel)
theorem wd_23 : Cond.initialized RX5 ∈ fw_tb := fw_m 55 (by decide +kernel) (by decide +kernel)
theorem wd_24 : Cond.initialized RX4 ∈ fw_tb := fw_m 56 (by decide +kernel) (by decide +kernel)
theorem wd_25 : Cond.initialized RX2 ∈ fw_tb := fw_m 57 (by decide +kernel) (by decide +kernel)
theorem wd_26 : Cond.initialized RJ6 ∈ fw_tb := fw_m 58 (by decide +kernel) (by decide +kernel)
theorem wd_27 : Cond.classLink RL 8 RX8 ∈ fw_tb := fw_m 59 (by decide +kernel) (by decide +kernel)
theorem wd_28 : Cond.instantiable RX8 7 ∈ fw_tb := fw_m 60 (by decide +kernel) (by decide +kernel)
theorem wd_29 : Cond.methodLink RL 73 yX8_init ∈ fw_tb := fw_m 61 (by decide +kernel) (by decide +kernel)
theorem wd_30 : Cond.instanceMethod yX8_init ∈ fw_tb := fw_m 62 (by decide +kernel) (by decide +kernel)
theorem wd_31 : Cond.code yX8_init cX8_init 2 none ∈ fw_tb := fw_m 63 (by decide +kernel) (by decide +kernel)
theorem wd_32 : Cond.methodLink RX8 1 ⟨"java/lang/Object", "<init>", "()V"⟩ ∈ fw_tb := fw_m 64 (by decide +kernel) (by decide +kernel)
theorem wd_35 : Cond.classLink RX8 7 RJx4a65c ∈ fw_tb := fw_m 67 (by decide +kernel) (by decide +kernel)
theorem wd_36 : Cond.instantiable RJx4a65c 3 ∈ fw_tb := fw_m 68 (by decide +kernel) (by decide +kernel)
theorem wd_37 : Cond.methodLink RX8 9 yJx4a65c_init_da8c8 ∈ fw_tb := fw_m 69 (by decide +kernel) (by decide +kernel)
theorem wd_38 : Cond.instanceMethod yJx4a65c_init_da8c8 ∈ fw_tb := fw_m 70 (by decide +kernel) (by decide +kernel)
theorem wd_39 : Cond.code yJx4a65c_init_da8c8 cJx4a65c_init_da8c8 1 none ∈ fw_tb := fw_m 71 (by decide +kernel) (by decide +kernel)
theorem wd_40 : Cond.methodLink RJx4a65c 1 yJxc12de_init_da8c8 ∈ fw_tb := fw_m 72 (by decide +kernel) (by decide +kernel)
theorem wd_41 : Cond.instanceMethod yJxc12de_init_da8c8 ∈ fw_tb := fw_m 73 (by decide +kernel) (by decide +kernel)
theorem wd_42 : Cond.code yJxc12de_init_da8c8 cJxc12de_init_da8c8 1 none ∈ fw_tb := fw_m 74 (by decide +kernel) (by decide +kernel)
theorem wd_43 : Cond.methodLink RJxc12de 1 yJxa1e45_init_da8c8 ∈ fw_tb := fw_m 75 (by decide +kernel) (by decide +kernel)
theorem wd_44 : Cond.instanceMethod yJxa1e45_init_da8c8 ∈ fw_tb := fw_m 76 (by decide +kernel) (by decide +kernel)
theorem wd_45 : Cond.code yJxa1e45_init_da8c8 cJxa1e45_init_da8c8 1 none ∈ fw_tb := fw_m 77 (by decide +kernel) (by decide +kernel)
theorem wd_46 : Cond.methodLink RJxa1e45 1 ⟨"java/lang/Object", "<init>", "()V"⟩ ∈ fw_tb := fw_m 78 (by decide +kernel) (by decide +kernel)
theorem wd_47 : Cond.fieldLink RJx4a65c 39 RJx4a65c "DEFAULTCAPACITY_EMPTY_ELEMENTDATA" "[Ljava/lang/Object;" ∈ fw_tb := fw_m 79 (by decide +kernel) (by decide +kernel)
theorem wd_49 : Cond.fieldLink RJx4a65c 9 RJx4a65c "elementData" "[Ljava/lang/Object;" ∈ fw_tb := fw_m 81 (by decide +kernel) (by decide +kernel)
theorem wd_50 : Cond.fieldLink RJx4a65c 48 RJx4a65c "size" "I" ∈ fw_tb := fw_m 82 (by decide +kernel) (by decide +kernel)
theorem wd_51 : Cond.fieldLink RJxc12de 7 RJxc12de "modCount" "I" ∈ fw_tb := fw_m 83 (by decide +kernel) (by decide +kernel)
theorem wd_52 : Cond.fieldLink RJx4a65c 63 RJx4a65c "modCount" "I" ∈ fw_tb := fw_m 84 (by decide +kernel) (by decide +kernel)
theorem wd_53 : Cond.sameField RJx4a65c RJxc12de "modCount" "I" ∈ fw_tb := fw_m 85 (by decide +kernel) (by decide +kernel)
theorem wd_61 : Cond.classLink RX8 28 RX7 ∈ fw_tb := fw_m 93 (by decide +kernel) (by decide +kernel)
theorem wd_62 : Cond.instantiable RX7 3 ∈ fw_tb := fw_m 94 (by decide +kernel) (by decide +kernel)
theorem wd_64 : Cond.instanceMethod yX7_init ∈ fw_tb := fw_m 96 (by decide +kernel) (by decide +kernel)
theorem wd_65 : Cond.code yX7_init cX7_init 1 none ∈ fw_tb := fw_m 97 (by decide +kernel) (by decide +kernel)
theorem wd_66 : Cond.methodLink RX7 1 ⟨"java/lang/Object", "<init>", "()V"⟩ ∈ fw_tb := fw_m 98 (by decide +kernel) (by decide +kernel)
theorem wd_67 : Cond.classLink RX7 7 RJx4a65c ∈ fw_tb := fw_m 99 (by decide +kernel) (by decide +kernel)
theorem wd_68 : Cond.methodLink RX7 9 yJx4a65c_init_da8c8 ∈ fw_tb := fw_m 100 (by decide +kernel) (by decide +kernel)
theorem wd_69 : Cond.classLink RX7 16 RX1 ∈ fw_tb := fw_m 101 (by decide +kernel) (by decide +kernel)
theorem wd_70 : Cond.instantiable RX1 2 ∈ fw_tb := fw_m 102 (by decide +kernel) (by decide +kernel)
theorem wd_71 : Cond.methodLink RX7 18 yX1_init ∈ fw_tb := fw_m 103 (by decide +kernel) (by decide +kernel)
theorem wd_72 : Cond.instanceMethod yX1_init ∈ fw_tb := fw_m 104 (by decide +kernel) (by decide +kernel)
theorem wd_73 : Cond.code yX1_init cX1_init 3 none ∈ fw_tb := fw_m 105 (by decide +kernel) (by decide +kernel)
theorem wd_74 : Cond.methodLink RX1 1 ⟨"java/lang/Object", "<init>", "()V"⟩ ∈ fw_tb := fw_m 106 (by decide +kernel) (by decide +kernel)
theorem wd_75 : Cond.fieldLink RX1 13 RX1 "above" "J" ∈ fw_tb := fw_m 107 (by decide +kernel) (by decide +kernel)
theorem wd_76 : Cond.fieldLink RX8 125 RX1 "above" "J" ∈ fw_tb := fw_m 108 (by decide +kernel) (by decide +kernel)
theorem wd_77 : Cond.fieldLink RX1 7 RX1 "below" "J" ∈ fw_tb := fw_m 109 (by decide +kernel) (by decide +kernel)
theorem wd_78 : Cond.fieldLink RX8 131 RX1 "below" "J" ∈ fw_tb := fw_m 110 (by decide +kernel) (by decide +kernel)
theorem wd_84 : Cond.fieldLink RX7 10 RX7 "stages" "Ljava/util/ArrayList;" ∈ fw_tb := fw_m 116 (by decide +kernel) (by decide +kernel)
theorem wd_85 : Cond.fieldLink RX5 30 RX7 "stages" "Ljava/util/ArrayList;" ∈ fw_tb := fw_m 117 (by decide +kernel) (by decide +kernel)
theorem wd_86 : Cond.fieldLink RX8 86 RX7 "stages" "Ljava/util/ArrayList;" ∈ fw_tb := fw_m 118 (by decide +kernel) (by decide +kernel)
theorem wd_87 : Cond.fieldLink RX7 21 RX7 "ratio" "LCogwright$Fraction;" ∈ fw_tb := fw_m 119 (by decide +kernel) (by decide +kernel)
theorem wd_88 : Cond.fieldLink RX8 121 RX7 "ratio" "LCogwright$Fraction;" ∈ fw_tb := fw_m 120 (by decide +kernel) (by decide +kernel)
theorem wd_89 : Cond.fieldLink RX7 25 RX7 "claimed" "I" ∈ fw_tb := fw_m 121 (by decide +kernel) (by decide +kernel)
theorem wd_90 : Cond.fieldLink RX8 214 RX7 "claimed" "I" ∈ fw_tb := fw_m 122 (by decide +kernel) (by decide +kernel)
theorem wd_98 : Cond.classLink RX8 39 RX3 ∈ fw_tb := fw_m 130 (by decide +kernel) (by decide +kernel)
theorem wd_99 : Cond.instantiable RX3 3 ∈ fw_tb := fw_m 131 (by decide +kernel) (by decide +kernel)
theorem wd_101 : Cond.instanceMethod yX3_init ∈ fw_tb := fw_m 133 (by decide +kernel) (by decide +kernel)
theorem wd_102 : Cond.code yX3_init cX3_init 1 none ∈ fw_tb := fw_m 134 (by decide +kernel) (by decide +kernel)
theorem wd_103 : Cond.methodLink RX3 3 ⟨"java/lang/Object", "<init>", "()V"⟩ ∈ fw_tb := fw_m 135 (by decide +kernel) (by decide +kernel)
theorem wd_104 : Cond.fieldLink RX3 9 RX3 "cutter" "I" ∈ fw_tb := fw_m 136 (by decide +kernel) (by decide +kernel)
theorem wd_105 : Cond.fieldLink RX8 184 RX3 "cutter" "I" ∈ fw_tb := fw_m 137 (by decide +kernel) (by decide +kernel)
theorem wd_106 : Cond.fieldLink RX3 15 RX3 "job" "LCogwright$Job;" ∈ fw_tb := fw_m 138 (by decide +kernel) (by decide +kernel)
theorem wd_107 : Cond.fieldLink RX8 260 RX3 "job" "LCogwright$Job;" ∈ fw_tb := fw_m 139 (by decide +kernel) (by decide +kernel)
theorem wd_108 : Cond.fieldLink RX3 19 RX3 "left" "I" ∈ fw_tb := fw_m 140 (by decide +kernel) (by decide +kernel)
theorem wd_109 : Cond.fieldLink RX8 187 RX3 "left" "I" ∈ fw_tb := fw_m 141 (by decide +kernel) (by decide +kernel)
theorem wd_117 : Cond.methodLink RX8 42 yJx4a65c_add_9ea2d ∈ fw_tb := fw_m 149 (by decide +kernel) (by decide +kernel)
theorem wd_118 : Cond.instanceMethod yJx4a65c_add_9ea2d ∈ fw_tb := fw_m 150 (by decide +kernel) (by decide +kernel)
theorem wd_119 : Cond.selects RJx4a65c yJx4a65c_add_9ea2d yJx4a65c_add_9ea2d ∈ fw_tb := fw_m 151 (by decide +kernel) (by decide +kernel)
theorem wd_120 : Cond.code yJx4a65c_add_9ea2d cJx4a65c_add_9ea2d 2 (some .boolean) ∈ fw_tb := fw_m 152 (by decide +kernel) (by decide +kernel)
theorem wd_121 : Cond.methodLink RJx4a65c 131 yJx4a65c_add_72be8 ∈ fw_tb := fw_m 153 (by decide +kernel) (by decide +kernel)
theorem wd_123 : Cond.instanceMethod yJx4a65c_add_72be8 ∈ fw_tb := fw_m 155 (by decide +kernel) (by decide +kernel)
theorem wd_124 : Cond.code yJx4a65c_add_72be8 cJx4a65c_add_72be8 4 none ∈ fw_tb := fw_m 156 (by decide +kernel) (by decide +kernel)
theorem wd_125 : Cond.methodLink RJx4a65c 129 yJx4a65c_grow_d5877 ∈ fw_tb := fw_m 157 (by decide +kernel) (by decide +kernel)
theorem wd_127 : Cond.instanceMethod yJx4a65c_grow_d5877 ∈ fw_tb := fw_m 159 (by decide +kernel) (by decide +kernel)
theorem wd_128 : Cond.code yJx4a65c_grow_d5877 cJx4a65c_grow_d5877 1 (some (.array (.object "java/lang/Object"))) ∈ fw_tb := fw_m 160 (by decide +kernel) (by decide +kernel)
theorem wd_129 : Cond.methodLink RJx4a65c 69 yJx4a65c_grow_92f84 ∈ fw_tb := fw_m 161 (by decide +kernel) (by decide +kernel)
theorem wd_131 : Cond.instanceMethod yJx4a65c_grow_92f84 ∈ fw_tb := fw_m 163 (by decide +kernel) (by decide +kernel)
theorem wd_132 : Cond.code yJx4a65c_grow_92f84 cJx4a65c_grow_92f84 4 (some (.array (.object "java/lang/Object"))) ∈ fw_tb := fw_m 164 (by decide +kernel) (by decide +kernel)
theorem wd_133 : Cond.methodLink RJx4a65c 73 yJ8_newLength_cabcc ∈ fw_tb := fw_m 165 (by decide +kernel) (by decide +kernel)
theorem wd_134 : Cond.static yJ8_newLength_cabcc ∈ fw_tb := fw_m 166 (by decide +kernel) (by decide +kernel)
theorem wd_135 : Cond.code yJ8_newLength_cabcc cJ8_newLength_cabcc 4 (some .int) ∈ fw_tb := fw_m 167 (by decide +kernel) (by decide +kernel)
theorem wd_136 : Cond.methodLink RJ8 194 yJ9_max_7cf53 ∈ fw_tb := fw_m 168 (by decide +kernel) (by decide +kernel)
theorem wd_137 : Cond.static yJ9_max_7cf53 ∈ fw_tb := fw_m 169 (by decide +kernel) (by decide +kernel)
theorem wd_138 : Cond.code yJ9_max_7cf53 cJ9_max_7cf53 2 (some .int) ∈ fw_tb := fw_m 170 (by decide +kernel) (by decide +kernel)
theorem wd_139 : Cond.constant RJ8 200 2147483639 ∈ fw_tb := fw_m 171 (by decide +kernel) (by decide +kernel)
theorem wd_140 : Cond.methodLink RJ8 201 yJ8_hugeLength_7cf53 ∈ fw_tb := fw_m 172 (by decide +kernel) (by decide +kernel)
theorem wd_141 : Cond.static yJ8_hugeLength_7cf53 ∈ fw_tb := fw_m 173 (by decide +kernel) (by decide +kernel)
theorem wd_142 : Cond.code yJ8_hugeLength_7cf53 cJ8_hugeLength_7cf53 3 (some .int) ∈ fw_tb := fw_m 174 (by decide +kernel) (by decide +kernel)
theorem wd_143 : Cond.methodLink RJx4a65c 66 yJ7_copyOf_1904c ∈ fw_tb := fw_m 175 (by decide +kernel) (by decide +kernel)
theorem wd_144 : Cond.static yJ7_copyOf_1904c ∈ fw_tb := fw_m 176 (by decide +kernel) (by decide +kernel)
theorem wd_145 : Cond.code yJ7_copyOf_1904c cJ7_copyOf_1904c 2 (some (.array (.object "java/lang/Object"))) ∈ fw_tb := fw_m 177 (by decide +kernel) (by decide +kernel)
theorem wd_146 : Cond.methodLink RJ7 86 ⟨"java/lang/Object", "getClass", "()Ljava/lang/Class;"⟩ ∈ fw_tb := fw_m 178 (by decide +kernel) (by decide +kernel)
theorem wd_148 : Cond.sameMethod "java/lang/Object" "java/lang/Object" "getClass" "()Ljava/lang/Class;" ∈ fw_tb := fw_m 180 (by decide +kernel) (by decide +kernel)
theorem wd_149 : Cond.selects RX8 ⟨"java/lang/Object", "getClass", "()Ljava/lang/Class;"⟩ ⟨"java/lang/Object", "getClass", "()Ljava/lang/Class;"⟩ ∈ fw_tb := fw_m 181 (by decide +kernel) (by decide +kernel)
theorem wd_150 : Cond.selects RX0 ⟨"java/lang/Object", "getClass", "()Ljava/lang/Class;"⟩ ⟨"java/lang/Object", "getClass", "()Ljava/lang/Class;"⟩ ∈ fw_tb := fw_m 182 (by decide +kernel) (by decide +kernel)
theorem wd_151 : Cond.selects RX1 ⟨"java/lang/Object", "getClass", "()Ljava/lang/Class;"⟩ ⟨"java/lang/Object", "getClass", "()Ljava/lang/Class;"⟩ ∈ fw_tb := fw_m 183 (by decide +kernel) (by decide +kernel)
theorem wd_152 : Cond.selects RX2 ⟨"java/lang/Object", "getClass", "()Ljava/lang/Class;"⟩ ⟨"java/lang/Object", "getClass", "()Ljava/lang/Class;"⟩ ∈ fw_tb := fw_m 184 (by decide +kernel) (by decide +kernel)
theorem wd_153 : Cond.selects RX3 ⟨"java/lang/Object", "getClass", "()Ljava/lang/Class;"⟩ ⟨"java/lang/Object", "getClass", "()Ljava/lang/Class;"⟩ ∈ fw_tb := fw_m 185 (by decide +kernel) (by decide +kernel)
theorem wd_154 : Cond.selects RX4 ⟨"java/lang/Object", "getClass", "()Ljava/lang/Class;"⟩ ⟨"java/lang/Object", "getClass", "()Ljava/lang/Class;"⟩ ∈ fw_tb := fw_m 186 (by decide +kernel) (by decide +kernel)
theorem wd_155 : Cond.selects RX5 ⟨"java/lang/Object", "getClass", "()Ljava/lang/Class;"⟩ ⟨"java/lang/Object", "getClass", "()Ljava/lang/Class;"⟩ ∈ fw_tb := fw_m 187 (by decide +kernel) (by decide +kernel)
theorem wd_156 : Cond.selects RX6 ⟨"java/lang/Object", "getClass", "()Ljava/lang/Class;"⟩ ⟨"java/lang/Object", "getClass", "()Ljava/lang/Class;"⟩ ∈ fw_tb := fw_m 188 (by decide +kernel) (by decide +kernel)
theorem wd_157 : Cond.selects RX7 ⟨"java/lang/Object", "getClass", "()Ljava/lang/Class;"⟩ ⟨"java/lang/Object", "getClass", "()Ljava/lang/Class;"⟩ ∈ fw_tb := fw_m 189 (by decide +kernel) (by decide +kernel)
theorem wd_158 : Cond.selects RX9 ⟨"java/lang/Object", "getClass", "()Ljava/lang/Class;"⟩ ⟨"java/lang/Object", "getClass", "()Ljava/lang/Class;"⟩ ∈ fw_tb := fw_m 190 (by decide +kernel) (by decide +kernel)
theorem wd_159 : Cond.selects "java/lang/IllegalArgumentException" ⟨"java/lang/Object", "getClass", "()Ljava/lang/Class;"⟩ ⟨"java/lang/Object", "getClass", "()Ljava/lang/Class;"⟩ ∈ fw_tb := fw_m 191 (by decide +kernel) (by decide +kernel)
theorem wd_160 : Cond.selects "java/lang/IllegalStateException" ⟨"java/lang/Object", "getClass", "()Ljava/lang/Class;"⟩ ⟨"java/lang/Object", "getClass", "()Ljava/lang/Class;"⟩ ∈ fw_tb := fw_m 192 (by decide +kernel) (by decide +kernel)
theorem wd_161 : Cond.selects "java/lang/IndexOutOfBoundsException" ⟨"java/lang/Object", "getClass", "()Ljava/lang/Class;"⟩ ⟨"java/lang/Object", "getClass", "()Ljava/lang/Class;"⟩ ∈ fw_tb := fw_m 193 (by decide +kernel) (by decide +kernel)
theorem wd_162 : Cond.selects RJx4a65c ⟨"java/lang/Object", "getClass", "()Ljava/lang/Class;"⟩ ⟨"java/lang/Object", "getClass", "()Ljava/lang/Class;"⟩ ∈ fw_tb := fw_m 194 (by decide +kernel) (by decide +kernel)
theorem wd_163 : Cond.native ⟨"java/lang/Object", "getClass", "()Ljava/lang/Class;"⟩ ∈ fw_tb := fw_m 195 (by decide +kernel) (by decide +kernel)
theorem wd_164 : Cond.methodLink RJ7 300 yJ7_copyOf_6403c ∈ fw_tb := fw_m 196 (by decide +kernel) (by decide +kernel)
theorem wd_165 : Cond.static yJ7_copyOf_6403c ∈ fw_tb := fw_m 197 (by decide +kernel) (by decide +kernel)
theorem wd_166 : Cond.code yJ7_copyOf_6403c cJ7_copyOf_6403c 4 (some (.array (.object "java/lang/Object"))) ∈ fw_tb := fw_m 198 (by decide +kernel) (by decide +kernel)
theorem wd_167 : Cond.classLink RJ7 110 "[Ljava/lang/Object;" ∈ fw_tb := fw_m 199 (by decide +kernel) (by decide +kernel)
theorem wd_169 : Cond.classLink RJ7 2 "java/lang/Object" ∈ fw_tb := fw_m 201 (by decide +kernel) (by decide +kernel)
theorem wd_170 : Cond.methodLink RJ7 304 yJ9_min_7cf53 ∈ fw_tb := fw_m 202 (by decide +kernel) (by decide +kernel)
theorem wd_171 : Cond.static yJ9_min_7cf53 ∈ fw_tb := fw_m 203 (by decide +kernel) (by decide +kernel)
theorem wd_172 : Cond.code yJ9_min_7cf53 cJ9_min_7cf53 2 (some .int) ∈ fw_tb := fw_m 204 (by decide +kernel) (by decide +kernel)
theorem wd_173 : Cond.methodLink RJ7 150 ⟨RJ10, "arraycopy", "(Ljava/lang/Object;ILjava/lang/Object;II)V"⟩ ∈ fw_tb := fw_m 205 (by decide +kernel) (by decide +kernel)
theorem wd_175 : Cond.native ⟨RJ10, "arraycopy", "(Ljava/lang/Object;ILjava/lang/Object;II)V"⟩ ∈ fw_tb := fw_m 207 (by decide +kernel) (by decide +kernel)
theorem wd_176 : Cond.methodLink RJx4a65c 79 yJ9_max_7cf53 ∈ fw_tb := fw_m 208 (by decide +kernel) (by decide +kernel)
theorem wd_177 : Cond.classLink RJx4a65c 7 "java/lang/Object" ∈ fw_tb := fw_m 209 (by decide +kernel) (by decide +kernel)
theorem wd_178 : Cond.fieldLink RX8 10 RX8 "cutters" "Ljava/util/ArrayList;" ∈ fw_tb := fw_m 210 (by decide +kernel) (by decide +kernel)
theorem wd_179 : Cond.fieldLink RX8 16 RX8 "trains" "Ljava/util/ArrayList;" ∈ fw_tb := fw_m 211 (by decide +kernel) (by decide +kernel)
theorem wd_180 : Cond.fieldLink RX8 19 RX8 "orders" "Ljava/util/ArrayList;" ∈ fw_tb := fw_m 212 (by decide +kernel) (by decide +kernel)
theorem wd_181 : Cond.fieldLink RX8 22 RX8 "machines" "Ljava/util/ArrayList;" ∈ fw_tb := fw_m 213 (by decide +kernel) (by decide +kernel)
theorem wd_182 : Cond.fieldLink RX8 25 RX8 "waitingRow" "Ljava/util/ArrayList;" ∈ fw_tb := fw_m 214 (by decide +kernel) (by decide +kernel)
theorem wd_183 : Cond.fieldLink RX8 31 RX8 "draft" "LCogwright$Train;" ∈ fw_tb := fw_m 215 (by decide +kernel) (by decide +kernel)
theorem wd_184 : Cond.fieldLink RX8 35 RX8 "now" "I" ∈ fw_tb := fw_m 216 (by decide +kernel) (by decide +kernel)
theorem wd_200 : Cond.methodLink RL 94 yX8_scrap ∈ fw_tb := fw_m 232 (by decide +kernel) (by decide +kernel)
theorem wd_201 : Cond.instanceMethod yX8_scrap ∈ fw_tb := fw_m 233 (by decide +kernel) (by decide +kernel)
theorem wd_202 : Cond.selects RX8 yX8_scrap yX8_scrap ∈ fw_tb := fw_m 234 (by decide +kernel) (by decide +kernel)
theorem wd_203 : Cond.code yX8_scrap cX8_scrap 2 (some .int) ∈ fw_tb := fw_m 235 (by decide +kernel) (by decide +kernel)
theorem wd_204 : Cond.methodLink RX8 64 yJx4a65c_size_8abf5 ∈ fw_tb := fw_m 236 (by decide +kernel) (by decide +kernel)
theorem wd_205 : Cond.instanceMethod yJx4a65c_size_8abf5 ∈ fw_tb := fw_m 237 (by decide +kernel) (by decide +kernel)
theorem wd_206 : Cond.selects RJx4a65c yJx4a65c_size_8abf5 yJx4a65c_size_8abf5 ∈ fw_tb := fw_m 238 (by decide +kernel) (by decide +kernel)
theorem wd_207 : Cond.code yJx4a65c_size_8abf5 cJx4a65c_size_8abf5 1 (some .int) ∈ fw_tb := fw_m 239 (by decide +kernel) (by decide +kernel)
theorem wd_208 : Cond.methodLink RL 120 yX8_time ∈ fw_tb := fw_m 240 (by decide +kernel) (by decide +kernel)
theorem wd_209 : Cond.instanceMethod yX8_time ∈ fw_tb := fw_m 241 (by decide +kernel) (by decide +kernel)
theorem wd_210 : Cond.selects RX8 yX8_time yX8_time ∈ fw_tb := fw_m 242 (by decide +kernel) (by decide +kernel)
theorem wd_211 : Cond.code yX8_time cX8_time 1 (some .int) ∈ fw_tb := fw_m 243 (by decide +kernel) (by decide +kernel)
theorem wd_212 : Cond.methodLink RL 124 yX8_waiting ∈ fw_tb := fw_m 244 (by decide +kernel) (by decide +kernel)
theorem wd_213 : Cond.instanceMethod yX8_waiting ∈ fw_tb := fw_m 245 (by decide +kernel) (by decide +kernel)
theorem wd_214 : Cond.selects RX8 yX8_waiting yX8_waiting ∈ fw_tb := fw_m 246 (by decide +kernel) (by decide +kernel)
theorem wd_215 : Cond.code yX8_waiting cX8_waiting 1 (some .int) ∈ fw_tb := fw_m 247 (by decide +kernel) (by decide +kernel)
theorem wd_216 : Cond.methodLink RL 77 yL_addCutter ∈ fw_tb := fw_m 248 (by decide +kernel) (by decide +kernel)
theorem wd_217 : Cond.static yL_addCutter ∈ fw_tb := fw_m 249 (by decide +kernel) (by decide +kernel)
theorem wd_218 : Cond.codeWith yL_addCutter cL_addCutter 6 (some .int) [(0, 12, 15, 13), (0, 12, 19, 15)] ∈ fw_tb := fw_m 250 (by decide +kernel) (by decide +kernel)
theorem wd_219 : Cond.classLink RL 13 "java/lang/IllegalArgumentException" ∈ fw_tb := fw_m 251 (by decide +kernel) (by decide +kernel)
theorem wd_220 : Cond.classLink RL 15 "java/lang/IllegalStateException" ∈ fw_tb := fw_m 252 (by decide +kernel) (by decide +kernel)
theorem wd_221 : Cond.methodLink RL 7 yX8_addCutter ∈ fw_tb := fw_m 253 (by decide +kernel) (by decide +kernel)
theorem wd_222 : Cond.instanceMethod yX8_addCutter ∈ fw_tb := fw_m 254 (by decide +kernel) (by decide +kernel)
theorem wd_223 : Cond.selects RX8 yX8_addCutter yX8_addCutter ∈ fw_tb := fw_m 255 (by decide +kernel) (by decide +kernel)
theorem wd_224 : Cond.code yX8_addCutter cX8_addCutter 4 (some .int) ∈ fw_tb := fw_m 256 (by decide +kernel) (by decide +kernel)
theorem wd_225 : Cond.methodLink RX8 46 yX8_isNoModule ∈ fw_tb := fw_m 257 (by decide +kernel) (by decide +kernel)
theorem wd_226 : Cond.static yX8_isNoModule ∈ fw_tb := fw_m 258 (by decide +kernel) (by decide +kernel)
theorem wd_227 : Cond.code yX8_isNoModule cX8_isNoModule 1 (some .boolean) ∈ fw_tb := fw_m 259 (by decide +kernel) (by decide +kernel)
theorem wd_228 : Cond.methodLink RX8 53 yX8_isOutside ∈ fw_tb := fw_m 260 (by decide +kernel) (by decide +kernel)
theorem wd_229 : Cond.static yX8_isOutside ∈ fw_tb := fw_m 261 (by decide +kernel) (by decide +kernel)
theorem wd_230 : Cond.code yX8_isOutside cX8_isOutside 3 (some .boolean) ∈ fw_tb := fw_m 262 (by decide +kernel) (by decide +kernel)
theorem wd_231 : Cond.methodLink RX8 50 yX8_isNoToothCount ∈ fw_tb := fw_m 263 (by decide +kernel) (by decide +kernel)
theorem wd_232 : Cond.static yX8_isNoToothCount ∈ fw_tb := fw_m 264 (by decide +kernel) (by decide +kernel)
theorem wd_233 : Cond.code yX8_isNoToothCount cX8_isNoToothCount 1 (some .boolean) ∈ fw_tb := fw_m 265 (by decide +kernel) (by decide +kernel)
theorem wd_234 : Cond.classLink RX8 57 "java/lang/IllegalArgumentException" ∈ fw_tb := fw_m 266 (by decide +kernel) (by decide +kernel)
theorem wd_235 : Cond.instantiable "java/lang/IllegalArgumentException" 6 ∈ fw_tb := fw_m 267 (by decide +kernel) (by decide +kernel)
theorem wd_243 : Cond.selects "java/lang/IllegalArgumentException" ⟨"java/lang/Throwable", "fillInStackTrace", "(I)Ljava/lang/Throwable;"⟩ ⟨"java/lang/Throwable", "fillInStackTrace", "(I)Ljava/lang/Throwable;"⟩ ∈ fw_tb := fw_m 275 (by decide +kernel) (by decide +kernel)
theorem wd_244 : Cond.selects "java/lang/IllegalArgumentException" ⟨"java/lang/Throwable", "fillInStackTrace", "()Ljava/lang/Throwable;"⟩ ⟨"java/lang/Throwable", "fillInStackTrace", "()Ljava/lang/Throwable;"⟩ ∈ fw_tb := fw_m 276 (by decide +kernel) (by decide +kernel)
theorem wd_255 : Cond.fieldLink "java/lang/Throwable" 198 "java/lang/Throwable" "backtrace" "Ljava/lang/Object;" ∈ fw_tb := fw_m 287 (by decide +kernel) (by decide +kernel)
theorem wd_259 : Cond.methodLink "java/lang/Throwable" 1 ⟨"java/lang/Object", "<init>", "()V"⟩ ∈ fw_tb := fw_m 291 (by decide +kernel) (by decide +kernel)
theorem wd_260 : Cond.fieldLink "java/lang/Throwable" 13 "java/lang/Throwable" "UNASSIGNED_STACK" "[Ljava/lang/StackTraceElement;" ∈ fw_tb := fw_m 292 (by decide +kernel) (by decide +kernel)
theorem wd_262 : Cond.fieldLink "java/lang/Throwable" 20 "java/lang/Throwable" "SUPPRESSED_SENTINEL" "Ljava/util/List;" ∈ fw_tb := fw_m 294 (by decide +kernel) (by decide +kernel)
theorem wd_264 : Cond.methodLink "java/lang/Throwable" 27 ⟨"java/lang/Throwable", "fillInStackTrace", "()Ljava/lang/Throwable;"⟩ ∈ fw_tb := fw_m 296 (by decide +kernel) (by decide +kernel)
theorem wd_266 : Cond.sameMethod "java/lang/Throwable" "java/lang/Throwable" "fillInStackTrace" "()Ljava/lang/Throwable;" ∈ fw_tb := fw_m 298 (by decide +kernel) (by decide +kernel)
theorem wd_267 : Cond.selects "java/lang/IllegalStateException" ⟨"java/lang/Throwable", "fillInStackTrace", "()Ljava/lang/Throwable;"⟩ ⟨"java/lang/Throwable", "fillInStackTrace", "()Ljava/lang/Throwable;"⟩ ∈ fw_tb := fw_m 299 (by decide +kernel) (by decide +kernel)
theorem wd_268 : Cond.selects "java/lang/IndexOutOfBoundsException" ⟨"java/lang/Throwable", "fillInStackTrace", "()Ljava/lang/Throwable;"⟩ ⟨"java/lang/Throwable", "fillInStackTrace", "()Ljava/lang/Throwable;"⟩ ∈ fw_tb := fw_m 300 (by decide +kernel) (by decide +kernel)
theorem wd_270 : Cond.methodLink "java/lang/Throwable" 202 ⟨"java/lang/Throwable", "fillInStackTrace", "(I)Ljava/lang/Throwable;"⟩ ∈ fw_tb := fw_m 302 (by decide +kernel) (by decide +kernel)
theorem wd_273 : Cond.instantiable "java/lang/Throwable" 6 ∈ fw_tb := fw_m 305 (by decide +kernel) (by decide +kernel)
theorem wd_274 : Cond.native ⟨"java/lang/Throwable", "fillInStackTrace", "(I)Ljava/lang/Throwable;"⟩ ∈ fw_tb := fw_m 306 (by decide +kernel) (by decide +kernel)
theorem wd_276 : Cond.methodLink RX8 61 ⟨"java/lang/IllegalArgumentException", "<init>", "(Ljava/lang/String;)V"⟩ ∈ fw_tb := fw_m 308 (by decide +kernel) (by decide +kernel)
theorem wd_279 : Cond.methodLink "java/lang/IllegalArgumentException" 7 ⟨"java/lang/RuntimeException", "<init>", "(Ljava/lang/String;)V"⟩ ∈ fw_tb := fw_m 311 (by decide +kernel) (by decide +kernel)
theorem wd_282 : Cond.methodLink "java/lang/RuntimeException" 7 ⟨"java/lang/Exception", "<init>", "(Ljava/lang/String;)V"⟩ ∈ fw_tb := fw_m 314 (by decide +kernel) (by decide +kernel)
theorem wd_285 : Cond.methodLink "java/lang/Exception" 7 ⟨"java/lang/Throwable", "<init>", "(Ljava/lang/String;)V"⟩ ∈ fw_tb := fw_m 317 (by decide +kernel) (by decide +kernel)
theorem wd_288 : Cond.fieldLink "java/lang/Throwable" 198 "java/lang/Throwable" "backtrace" "Ljava/lang/Object;" ∈ fw_tb := fw_m 320 (by decide +kernel) (by decide +kernel)
theorem wd_289 : Cond.fieldLink "java/lang/Throwable" 31 "java/lang/Throwable" "detailMessage" "Ljava/lang/String;" ∈ fw_tb := fw_m 321 (by decide +kernel) (by decide +kernel)
theorem wd_290 : Cond.fieldLink "java/lang/Throwable" 7 "java/lang/Throwable" "cause" "Ljava/lang/Throwable;" ∈ fw_tb := fw_m 322 (by decide +kernel) (by decide +kernel)
theorem wd_291 : Cond.fieldLink "java/lang/Throwable" 17 "java/lang/Throwable" "stackTrace" "[Ljava/lang/StackTraceElement;" ∈ fw_tb := fw_m 323 (by decide +kernel) (by decide +kernel)
theorem wd_292 : Cond.fieldLink "java/lang/Throwable" 24 "java/lang/Throwable" "suppressedExceptions" "Ljava/util/List;" ∈ fw_tb := fw_m 324 (by decide +kernel) (by decide +kernel)
theorem wd_301 : Cond.arrayClass .byte ∈ fw_tb := fw_m 333 (by decide +kernel) (by decide +kernel)
theorem wd_302 : Cond.classLink RX8 68 "java/lang/IllegalStateException" ∈ fw_tb := fw_m 334 (by decide +kernel) (by decide +kernel)
theorem wd_303 : Cond.instantiable "java/lang/IllegalStateException" 6 ∈ fw_tb := fw_m 335 (by decide +kernel) (by decide +kernel)
theorem wd_305 : Cond.selects "java/lang/IllegalStateException" ⟨"java/lang/Throwable", "fillInStackTrace", "(I)Ljava/lang/Throwable;"⟩ ⟨"java/lang/Throwable", "fillInStackTrace", "(I)Ljava/lang/Throwable;"⟩ ∈ fw_tb := fw_m 337 (by decide +kernel) (by decide +kernel)
theorem wd_312 : Cond.methodLink RX8 72 ⟨"java/lang/IllegalStateException", "<init>", "(Ljava/lang/String;)V"⟩ ∈ fw_tb := fw_m 344 (by decide +kernel) (by decide +kernel)
theorem wd_315 : Cond.methodLink "java/lang/IllegalStateException" 7 ⟨"java/lang/RuntimeException", "<init>", "(Ljava/lang/String;)V"⟩ ∈ fw_tb := fw_m 347 (by decide +kernel) (by decide +kernel)
theorem wd_318 : Cond.classLink RX8 73 RX0 ∈ fw_tb := fw_m 350 (by decide +kernel) (by decide +kernel)
theorem wd_319 : Cond.instantiable RX0 3 ∈ fw_tb := fw_m 351 (by decide +kernel) (by decide +kernel)
theorem wd_320 : Cond.methodLink RX8 75 yX0_init ∈ fw_tb := fw_m 352 (by decide +kernel) (by decide +kernel)
theorem wd_321 : Cond.instanceMethod yX0_init ∈ fw_tb := fw_m 353 (by decide +kernel) (by decide +kernel)
theorem wd_322 : Cond.code yX0_init cX0_init 4 none ∈ fw_tb := fw_m 354 (by decide +kernel) (by decide +kernel)
theorem wd_323 : Cond.methodLink RX0 1 ⟨"java/lang/Object", "<init>", "()V"⟩ ∈ fw_tb := fw_m 355 (by decide +kernel) (by decide +kernel)
theorem wd_324 : Cond.fieldLink RX0 7 RX0 "module" "I" ∈ fw_tb := fw_m 356 (by decide +kernel) (by decide +kernel)
theorem wd_325 : Cond.fieldLink RX0 13 RX0 "least" "I" ∈ fw_tb := fw_m 357 (by decide +kernel) (by decide +kernel)
theorem wd_326 : Cond.fieldLink RX0 16 RX0 "most" "I" ∈ fw_tb := fw_m 358 (by decide +kernel) (by decide +kernel)
theorem wd_334 : Cond.methodLink RL 87 yL_cutterFor ∈ fw_tb := fw_m 366 (by decide +kernel) (by decide +kernel)
theorem wd_335 : Cond.static yL_cutterFor ∈ fw_tb := fw_m 367 (by decide +kernel) (by decide +kernel)
theorem wd_336 : Cond.codeWith yL_cutterFor cL_cutterFor 5 (some .int) [(0, 10, 13, 13)] ∈ fw_tb := fw_m 368 (by decide +kernel) (by decide +kernel)
theorem wd_337 : Cond.methodLink RL 17 yX8_cutterFor ∈ fw_tb := fw_m 369 (by decide +kernel) (by decide +kernel)
theorem wd_338 : Cond.instanceMethod yX8_cutterFor ∈ fw_tb := fw_m 370 (by decide +kernel) (by decide +kernel)
theorem wd_339 : Cond.selects RX8 yX8_cutterFor yX8_cutterFor ∈ fw_tb := fw_m 371 (by decide +kernel) (by decide +kernel)
theorem wd_340 : Cond.code yX8_cutterFor cX8_cutterFor 3 (some .int) ∈ fw_tb := fw_m 372 (by decide +kernel) (by decide +kernel)
theorem wd_342 : Cond.methodLink RX8 80 yX8_lowestCutter ∈ fw_tb := fw_m 374 (by decide +kernel) (by decide +kernel)
theorem wd_344 : Cond.instanceMethod yX8_lowestCutter ∈ fw_tb := fw_m 376 (by decide +kernel) (by decide +kernel)
theorem wd_345 : Cond.code yX8_lowestCutter cX8_lowestCutter 4 (some .int) ∈ fw_tb := fw_m 377 (by decide +kernel) (by decide +kernel)
theorem wd_346 : Cond.methodLink RX8 148 yJx4a65c_get_915e3 ∈ fw_tb := fw_m 378 (by decide +kernel) (by decide +kernel)
theorem wd_347 : Cond.instanceMethod yJx4a65c_get_915e3 ∈ fw_tb := fw_m 379 (by decide +kernel) (by decide +kernel)
theorem wd_348 : Cond.selects RJx4a65c yJx4a65c_get_915e3 yJx4a65c_get_915e3 ∈ fw_tb := fw_m 380 (by decide +kernel) (by decide +kernel)
theorem wd_349 : Cond.code yJx4a65c_get_915e3 cJx4a65c_get_915e3 2 (some (.object "java/lang/Object")) ∈ fw_tb := fw_m 381 (by decide +kernel) (by decide +kernel)
theorem wd_350 : Cond.methodLink RJx4a65c 118 yJ15_checkIndex_7cf53 ∈ fw_tb := fw_m 382 (by decide +kernel) (by decide +kernel)
theorem wd_351 : Cond.static yJ15_checkIndex_7cf53 ∈ fw_tb := fw_m 383 (by decide +kernel) (by decide +kernel)
theorem wd_352 : Cond.code yJ15_checkIndex_7cf53 cJ15_checkIndex_7cf53 2 (some .int) ∈ fw_tb := fw_m 384 (by decide +kernel) (by decide +kernel)
theorem wd_353 : Cond.methodLink RJ15 105 yJ3_checkIndex_8e157 ∈ fw_tb := fw_m 385 (by decide +kernel) (by decide +kernel)
theorem wd_354 : Cond.static yJ3_checkIndex_8e157 ∈ fw_tb := fw_m 386 (by decide +kernel) (by decide +kernel)
theorem wd_355 : Cond.code yJ3_checkIndex_8e157 cJ3_checkIndex_8e157 3 (some .int) ∈ fw_tb := fw_m 387 (by decide +kernel) (by decide +kernel)
theorem wd_356 : Cond.methodLink RJx4a65c 123 yJx4a65c_elementData_915e3 ∈ fw_tb := fw_m 388 (by decide +kernel) (by decide +kernel)
theorem wd_357 : Cond.instanceMethod yJx4a65c_elementData_915e3 ∈ fw_tb := fw_m 389 (by decide +kernel) (by decide +kernel)
theorem wd_358 : Cond.selects RJx4a65c yJx4a65c_elementData_915e3 yJx4a65c_elementData_915e3 ∈ fw_tb := fw_m 390 (by decide +kernel) (by decide +kernel)
theorem wd_359 : Cond.code yJx4a65c_elementData_915e3 cJx4a65c_elementData_915e3 2 (some (.object "java/lang/Object")) ∈ fw_tb := fw_m 391 (by decide +kernel) (by decide +kernel)
theorem wd_360 : Cond.methodLink RX8 252 yX0_cuts ∈ fw_tb := fw_m 392 (by decide +kernel) (by decide +kernel)
theorem wd_361 : Cond.instanceMethod yX0_cuts ∈ fw_tb := fw_m 393 (by decide +kernel) (by decide +kernel)
theorem wd_362 : Cond.selects RX0 yX0_cuts yX0_cuts ∈ fw_tb := fw_m 394 (by decide +kernel) (by decide +kernel)
theorem wd_363 : Cond.code yX0_cuts cX0_cuts 3 (some .boolean) ∈ fw_tb := fw_m 395 (by decide +kernel) (by decide +kernel)
theorem wd_364 : Cond.methodLink RL 91 yL_stage ∈ fw_tb := fw_m 396 (by decide +kernel) (by decide +kernel)
theorem wd_365 : Cond.static yL_stage ∈ fw_tb := fw_m 397 (by decide +kernel) (by decide +kernel)
theorem wd_366 : Cond.codeWith yL_stage cL_stage 6 (some .int) [(0, 12, 15, 13), (0, 12, 19, 15)] ∈ fw_tb := fw_m 398 (by decide +kernel) (by decide +kernel)
theorem wd_367 : Cond.methodLink RL 21 yX8_stage ∈ fw_tb := fw_m 399 (by decide +kernel) (by decide +kernel)
theorem wd_368 : Cond.instanceMethod yX8_stage ∈ fw_tb := fw_m 400 (by decide +kernel) (by decide +kernel)
theorem wd_369 : Cond.selects RX8 yX8_stage yX8_stage ∈ fw_tb := fw_m 401 (by decide +kernel) (by decide +kernel)
theorem wd_370 : Cond.code yX8_stage cX8_stage 4 (some .int) ∈ fw_tb := fw_m 402 (by decide +kernel) (by decide +kernel)
theorem wd_373 : Cond.classLink RX8 91 RX6 ∈ fw_tb := fw_m 405 (by decide +kernel) (by decide +kernel)
theorem wd_374 : Cond.instantiable RX6 3 ∈ fw_tb := fw_m 406 (by decide +kernel) (by decide +kernel)
theorem wd_375 : Cond.methodLink RX8 93 yX6_init ∈ fw_tb := fw_m 407 (by decide +kernel) (by decide +kernel)
theorem wd_376 : Cond.instanceMethod yX6_init ∈ fw_tb := fw_m 408 (by decide +kernel) (by decide +kernel)
theorem wd_377 : Cond.code yX6_init cX6_init 4 none ∈ fw_tb := fw_m 409 (by decide +kernel) (by decide +kernel)
theorem wd_378 : Cond.methodLink RX6 3 ⟨"java/lang/Object", "<init>", "()V"⟩ ∈ fw_tb := fw_m 410 (by decide +kernel) (by decide +kernel)
theorem wd_379 : Cond.fieldLink RX6 9 RX6 "module" "I" ∈ fw_tb := fw_m 411 (by decide +kernel) (by decide +kernel)
theorem wd_380 : Cond.fieldLink RX7 53 RX6 "module" "I" ∈ fw_tb := fw_m 412 (by decide +kernel) (by decide +kernel)
theorem wd_381 : Cond.fieldLink RX8 165 RX6 "module" "I" ∈ fw_tb := fw_m 413 (by decide +kernel) (by decide +kernel)
theorem wd_382 : Cond.fieldLink RX6 15 RX6 "driver" "I" ∈ fw_tb := fw_m 414 (by decide +kernel) (by decide +kernel)
theorem wd_383 : Cond.fieldLink RX7 38 RX6 "driver" "I" ∈ fw_tb := fw_m 415 (by decide +kernel) (by decide +kernel)
theorem wd_384 : Cond.fieldLink RX8 152 RX6 "driver" "I" ∈ fw_tb := fw_m 416 (by decide +kernel) (by decide +kernel)
theorem wd_385 : Cond.fieldLink RX6 18 RX6 "driven" "I" ∈ fw_tb := fw_m 417 (by decide +kernel) (by decide +kernel)
theorem wd_386 : Cond.fieldLink RX7 33 RX6 "driven" "I" ∈ fw_tb := fw_m 418 (by decide +kernel) (by decide +kernel)
theorem wd_387 : Cond.fieldLink RX8 155 RX6 "driven" "I" ∈ fw_tb := fw_m 419 (by decide +kernel) (by decide +kernel)
theorem wd_395 : Cond.methodLink RX8 94 yX7_append ∈ fw_tb := fw_m 427 (by decide +kernel) (by decide +kernel)
theorem wd_396 : Cond.instanceMethod yX7_append ∈ fw_tb := fw_m 428 (by decide +kernel) (by decide +kernel)
theorem wd_397 : Cond.selects RX7 yX7_append yX7_append ∈ fw_tb := fw_m 429 (by decide +kernel) (by decide +kernel)
theorem wd_398 : Cond.code yX7_append cX7_append 2 none ∈ fw_tb := fw_m 430 (by decide +kernel) (by decide +kernel)
theorem wd_399 : Cond.methodLink RX7 29 yJx4a65c_add_9ea2d ∈ fw_tb := fw_m 431 (by decide +kernel) (by decide +kernel)
theorem wd_400 : Cond.methodLink RX7 41 yX1_multiply ∈ fw_tb := fw_m 432 (by decide +kernel) (by decide +kernel)
theorem wd_401 : Cond.instanceMethod yX1_multiply ∈ fw_tb := fw_m 433 (by decide +kernel) (by decide +kernel)
theorem wd_402 : Cond.selects RX1 yX1_multiply yX1_multiply ∈ fw_tb := fw_m 434 (by decide +kernel) (by decide +kernel)
theorem wd_403 : Cond.code yX1_multiply cX1_multiply 7 none ∈ fw_tb := fw_m 435 (by decide +kernel) (by decide +kernel)
theorem wd_405 : Cond.static yX8_commonDivisor ∈ fw_tb := fw_m 437 (by decide +kernel) (by decide +kernel)
theorem wd_406 : Cond.code yX8_commonDivisor cX8_commonDivisor 11 (some .long) ∈ fw_tb := fw_m 438 (by decide +kernel) (by decide +kernel)
theorem wd_407 : Cond.methodLink RX8 98 yX7_distance ∈ fw_tb := fw_m 439 (by decide +kernel) (by decide +kernel)
theorem wd_408 : Cond.instanceMethod yX7_distance ∈ fw_tb := fw_m 440 (by decide +kernel) (by decide +kernel)
theorem wd_409 : Cond.selects RX7 yX7_distance yX7_distance ∈ fw_tb := fw_m 441 (by decide +kernel) (by decide +kernel)
theorem wd_410 : Cond.code yX7_distance cX7_distance 4 (some .int) ∈ fw_tb := fw_m 442 (by decide +kernel) (by decide +kernel)
theorem wd_411 : Cond.methodLink RX7 45 yJx4a65c_size_8abf5 ∈ fw_tb := fw_m 443 (by decide +kernel) (by decide +kernel)
theorem wd_412 : Cond.methodLink RX7 49 yJx4a65c_get_915e3 ∈ fw_tb := fw_m 444 (by decide +kernel) (by decide +kernel)
theorem wd_413 : Cond.classLink RX7 34 RX6 ∈ fw_tb := fw_m 445 (by decide +kernel) (by decide +kernel)
theorem wd_414 : Cond.methodLink RL 98 yL_make ∈ fw_tb := fw_m 446 (by decide +kernel) (by decide +kernel)
theorem wd_415 : Cond.static yL_make ∈ fw_tb := fw_m 447 (by decide +kernel) (by decide +kernel)
theorem wd_416 : Cond.codeWith yL_make cL_make 4 (some .int) [(0, 9, 12, 15)] ∈ fw_tb := fw_m 448 (by decide +kernel) (by decide +kernel)
theorem wd_417 : Cond.methodLink RL 24 yX8_make ∈ fw_tb := fw_m 449 (by decide +kernel) (by decide +kernel)
theorem wd_418 : Cond.instanceMethod yX8_make ∈ fw_tb := fw_m 450 (by decide +kernel) (by decide +kernel)
theorem wd_419 : Cond.selects RX8 yX8_make yX8_make ∈ fw_tb := fw_m 451 (by decide +kernel) (by decide +kernel)
theorem wd_420 : Cond.code yX8_make cX8_make 2 (some .int) ∈ fw_tb := fw_m 452 (by decide +kernel) (by decide +kernel)
theorem wd_421 : Cond.methodLink RX8 101 yJx4a65c_isEmpty_aae02 ∈ fw_tb := fw_m 453 (by decide +kernel) (by decide +kernel)
theorem wd_422 : Cond.instanceMethod yJx4a65c_isEmpty_aae02 ∈ fw_tb := fw_m 454 (by decide +kernel) (by decide +kernel)
theorem wd_423 : Cond.selects RJx4a65c yJx4a65c_isEmpty_aae02 yJx4a65c_isEmpty_aae02 ∈ fw_tb := fw_m 455 (by decide +kernel) (by decide +kernel)
theorem wd_424 : Cond.code yJx4a65c_isEmpty_aae02 cJx4a65c_isEmpty_aae02 1 (some .boolean) ∈ fw_tb := fw_m 456 (by decide +kernel) (by decide +kernel)
theorem wd_427 : Cond.methodLink RX8 109 yX8_hasAllCutters ∈ fw_tb := fw_m 459 (by decide +kernel) (by decide +kernel)
theorem wd_429 : Cond.instanceMethod yX8_hasAllCutters ∈ fw_tb := fw_m 461 (by decide +kernel) (by decide +kernel)
theorem wd_430 : Cond.code yX8_hasAllCutters cX8_hasAllCutters 4 (some .boolean) ∈ fw_tb := fw_m 462 (by decide +kernel) (by decide +kernel)
theorem wd_433 : Cond.methodLink RL 102 yL_numerator ∈ fw_tb := fw_m 465 (by decide +kernel) (by decide +kernel)
theorem wd_434 : Cond.static yL_numerator ∈ fw_tb := fw_m 466 (by decide +kernel) (by decide +kernel)
theorem wd_435 : Cond.codeWith yL_numerator cL_numerator 4 (some .int) [(0, 9, 12, 31)] ∈ fw_tb := fw_m 467 (by decide +kernel) (by decide +kernel)
theorem wd_436 : Cond.classLink RL 31 "java/lang/IndexOutOfBoundsException" ∈ fw_tb := fw_m 468 (by decide +kernel) (by decide +kernel)
theorem wd_437 : Cond.methodLink RL 28 yX8_numerator ∈ fw_tb := fw_m 469 (by decide +kernel) (by decide +kernel)
theorem wd_438 : Cond.instanceMethod yX8_numerator ∈ fw_tb := fw_m 470 (by decide +kernel) (by decide +kernel)
theorem wd_439 : Cond.selects RX8 yX8_numerator yX8_numerator ∈ fw_tb := fw_m 471 (by decide +kernel) (by decide +kernel)
theorem wd_440 : Cond.code yX8_numerator cX8_numerator 2 (some .int) ∈ fw_tb := fw_m 472 (by decide +kernel) (by decide +kernel)
theorem wd_441 : Cond.methodLink RX8 117 yX8_trainAt ∈ fw_tb := fw_m 473 (by decide +kernel) (by decide +kernel)
theorem wd_443 : Cond.instanceMethod yX8_trainAt ∈ fw_tb := fw_m 475 (by decide +kernel) (by decide +kernel)
theorem wd_444 : Cond.code yX8_trainAt cX8_trainAt 2 (some (.object "Cogwright$Train")) ∈ fw_tb := fw_m 476 (by decide +kernel) (by decide +kernel)
theorem wd_445 : Cond.classLink RX8 220 "java/lang/IndexOutOfBoundsException" ∈ fw_tb := fw_m 477 (by decide +kernel) (by decide +kernel)
theorem wd_446 : Cond.instantiable "java/lang/IndexOutOfBoundsException" 6 ∈ fw_tb := fw_m 478 (by decide +kernel) (by decide +kernel)
theorem wd_448 : Cond.selects "java/lang/IndexOutOfBoundsException" ⟨"java/lang/Throwable", "fillInStackTrace", "(I)Ljava/lang/Throwable;"⟩ ⟨"java/lang/Throwable", "fillInStackTrace", "(I)Ljava/lang/Throwable;"⟩ ∈ fw_tb := fw_m 480 (by decide +kernel) (by decide +kernel)
theorem wd_455 : Cond.methodLink RX8 224 ⟨"java/lang/IndexOutOfBoundsException", "<init>", "(Ljava/lang/String;)V"⟩ ∈ fw_tb := fw_m 487 (by decide +kernel) (by decide +kernel)
theorem wd_458 : Cond.methodLink "java/lang/IndexOutOfBoundsException" 7 ⟨"java/lang/RuntimeException", "<init>", "(Ljava/lang/String;)V"⟩ ∈ fw_tb := fw_m 490 (by decide +kernel) (by decide +kernel)
theorem wd_461 : Cond.methodLink RL 105 yL_denominator ∈ fw_tb := fw_m 493 (by decide +kernel) (by decide +kernel)
theorem wd_462 : Cond.static yL_denominator ∈ fw_tb := fw_m 494 (by decide +kernel) (by decide +kernel)
theorem wd_463 : Cond.codeWith yL_denominator cL_denominator 4 (some .int) [(0, 9, 12, 31)] ∈ fw_tb := fw_m 495 (by decide +kernel) (by decide +kernel)
theorem wd_464 : Cond.methodLink RL 33 yX8_denominator ∈ fw_tb := fw_m 496 (by decide +kernel) (by decide +kernel)
theorem wd_465 : Cond.instanceMethod yX8_denominator ∈ fw_tb := fw_m 497 (by decide +kernel) (by decide +kernel)
theorem wd_466 : Cond.selects RX8 yX8_denominator yX8_denominator ∈ fw_tb := fw_m 498 (by decide +kernel) (by decide +kernel)
theorem wd_467 : Cond.code yX8_denominator cX8_denominator 2 (some .int) ∈ fw_tb := fw_m 499 (by decide +kernel) (by decide +kernel)
theorem wd_468 : Cond.methodLink RL 108 yL_turned ∈ fw_tb := fw_m 500 (by decide +kernel) (by decide +kernel)
theorem wd_469 : Cond.static yL_turned ∈ fw_tb := fw_m 501 (by decide +kernel) (by decide +kernel)
theorem wd_470 : Cond.codeWith yL_turned cL_turned 5 (some .int) [(0, 10, 13, 31), (0, 10, 17, 13)] ∈ fw_tb := fw_m 502 (by decide +kernel) (by decide +kernel)
theorem wd_471 : Cond.methodLink RL 36 yX8_turned ∈ fw_tb := fw_m 503 (by decide +kernel) (by decide +kernel)
theorem wd_472 : Cond.instanceMethod yX8_turned ∈ fw_tb := fw_m 504 (by decide +kernel) (by decide +kernel)
theorem wd_473 : Cond.selects RX8 yX8_turned yX8_turned ∈ fw_tb := fw_m 505 (by decide +kernel) (by decide +kernel)
theorem wd_474 : Cond.code yX8_turned cX8_turned 5 (some .int) ∈ fw_tb := fw_m 506 (by decide +kernel) (by decide +kernel)
theorem wd_475 : Cond.methodLink RX8 134 yX8_checkTurns ∈ fw_tb := fw_m 507 (by decide +kernel) (by decide +kernel)
theorem wd_476 : Cond.static yX8_checkTurns ∈ fw_tb := fw_m 508 (by decide +kernel) (by decide +kernel)
theorem wd_477 : Cond.code yX8_checkTurns cX8_checkTurns 1 none ∈ fw_tb := fw_m 509 (by decide +kernel) (by decide +kernel)
theorem wd_478 : Cond.constant RX8 243 600000 ∈ fw_tb := fw_m 510 (by decide +kernel) (by decide +kernel)
theorem wd_480 : Cond.classLink RX8 126 RX1 ∈ fw_tb := fw_m 512 (by decide +kernel) (by decide +kernel)
theorem wd_481 : Cond.methodLink RX8 138 yX1_init ∈ fw_tb := fw_m 513 (by decide +kernel) (by decide +kernel)
theorem wd_482 : Cond.methodLink RX8 141 yX1_multiply ∈ fw_tb := fw_m 514 (by decide +kernel) (by decide +kernel)
theorem wd_483 : Cond.methodLink RX8 145 yX1_roundedDown ∈ fw_tb := fw_m 515 (by decide +kernel) (by decide +kernel)
theorem wd_484 : Cond.instanceMethod yX1_roundedDown ∈ fw_tb := fw_m 516 (by decide +kernel) (by decide +kernel)
theorem wd_485 : Cond.selects RX1 yX1_roundedDown yX1_roundedDown ∈ fw_tb := fw_m 517 (by decide +kernel) (by decide +kernel)
theorem wd_486 : Cond.code yX1_roundedDown cX1_roundedDown 1 (some .int) ∈ fw_tb := fw_m 518 (by decide +kernel) (by decide +kernel)
theorem wd_487 : Cond.methodLink RL 111 yL_turnedByWalk ∈ fw_tb := fw_m 519 (by decide +kernel) (by decide +kernel)
theorem wd_488 : Cond.static yL_turnedByWalk ∈ fw_tb := fw_m 520 (by decide +kernel) (by decide +kernel)
theorem wd_489 : Cond.codeWith yL_turnedByWalk cL_turnedByWalk 5 (some .int) [(0, 10, 13, 31), (0, 10, 17, 13)] ∈ fw_tb := fw_m 521 (by decide +kernel) (by decide +kernel)
theorem wd_490 : Cond.methodLink RL 39 yX8_turnedByWalk ∈ fw_tb := fw_m 522 (by decide +kernel) (by decide +kernel)
theorem wd_491 : Cond.instanceMethod yX8_turnedByWalk ∈ fw_tb := fw_m 523 (by decide +kernel) (by decide +kernel)
theorem wd_492 : Cond.selects RX8 yX8_turnedByWalk yX8_turnedByWalk ∈ fw_tb := fw_m 524 (by decide +kernel) (by decide +kernel)
theorem wd_493 : Cond.code yX8_turnedByWalk cX8_turnedByWalk 6 (some .int) ∈ fw_tb := fw_m 525 (by decide +kernel) (by decide +kernel)
theorem wd_494 : Cond.methodLink RL 114 yL_order ∈ fw_tb := fw_m 526 (by decide +kernel) (by decide +kernel)
theorem wd_495 : Cond.static yL_order ∈ fw_tb := fw_m 527 (by decide +kernel) (by decide +kernel)
theorem wd_496 : Cond.codeWith yL_order cL_order 4 (some .int) [(0, 9, 12, 31), (0, 9, 15, 15)] ∈ fw_tb := fw_m 528 (by decide +kernel) (by decide +kernel)
theorem wd_497 : Cond.methodLink RL 42 yX8_order ∈ fw_tb := fw_m 529 (by decide +kernel) (by decide +kernel)
theorem wd_498 : Cond.instanceMethod yX8_order ∈ fw_tb := fw_m 530 (by decide +kernel) (by decide +kernel)
theorem wd_499 : Cond.selects RX8 yX8_order yX8_order ∈ fw_tb := fw_m 531 (by decide +kernel) (by decide +kernel)
theorem wd_500 : Cond.code yX8_order cX8_order 6 (some .int) ∈ fw_tb := fw_m 532 (by decide +kernel) (by decide +kernel)
theorem wd_502 : Cond.classLink RX8 160 RX5 ∈ fw_tb := fw_m 534 (by decide +kernel) (by decide +kernel)
theorem wd_503 : Cond.instantiable RX5 5 ∈ fw_tb := fw_m 535 (by decide +kernel) (by decide +kernel)
theorem wd_504 : Cond.methodLink RX8 162 yX5_init ∈ fw_tb := fw_m 536 (by decide +kernel) (by decide +kernel)
theorem wd_505 : Cond.instanceMethod yX5_init ∈ fw_tb := fw_m 537 (by decide +kernel) (by decide +kernel)
theorem wd_506 : Cond.code yX5_init cX5_init 3 none ∈ fw_tb := fw_m 538 (by decide +kernel) (by decide +kernel)
theorem wd_507 : Cond.methodLink RX5 3 ⟨"java/lang/Object", "<init>", "()V"⟩ ∈ fw_tb := fw_m 539 (by decide +kernel) (by decide +kernel)
theorem wd_508 : Cond.classLink RX5 9 RJx4a65c ∈ fw_tb := fw_m 540 (by decide +kernel) (by decide +kernel)
theorem wd_509 : Cond.methodLink RX5 11 yJx4a65c_init_da8c8 ∈ fw_tb := fw_m 541 (by decide +kernel) (by decide +kernel)
theorem wd_510 : Cond.methodLink RX5 35 yJx4a65c_size_8abf5 ∈ fw_tb := fw_m 542 (by decide +kernel) (by decide +kernel)
theorem wd_511 : Cond.classLink RX5 39 RX4 ∈ fw_tb := fw_m 543 (by decide +kernel) (by decide +kernel)
theorem wd_512 : Cond.instantiable RX4 2 ∈ fw_tb := fw_m 544 (by decide +kernel) (by decide +kernel)
theorem wd_513 : Cond.methodLink RX5 41 yJx4a65c_get_915e3 ∈ fw_tb := fw_m 545 (by decide +kernel) (by decide +kernel)
theorem wd_514 : Cond.classLink RX5 45 RX6 ∈ fw_tb := fw_m 546 (by decide +kernel) (by decide +kernel)
theorem wd_515 : Cond.methodLink RX5 47 yX4_init ∈ fw_tb := fw_m 547 (by decide +kernel) (by decide +kernel)
theorem wd_516 : Cond.instanceMethod yX4_init ∈ fw_tb := fw_m 548 (by decide +kernel) (by decide +kernel)
theorem wd_517 : Cond.code yX4_init cX4_init 2 none ∈ fw_tb := fw_m 549 (by decide +kernel) (by decide +kernel)
theorem wd_518 : Cond.methodLink RX4 1 ⟨"java/lang/Object", "<init>", "()V"⟩ ∈ fw_tb := fw_m 550 (by decide +kernel) (by decide +kernel)
theorem wd_519 : Cond.fieldLink RX4 13 RX4 "gears" "LCogwright$Stage;" ∈ fw_tb := fw_m 551 (by decide +kernel) (by decide +kernel)
theorem wd_520 : Cond.fieldLink RX5 60 RX4 "gears" "LCogwright$Stage;" ∈ fw_tb := fw_m 552 (by decide +kernel) (by decide +kernel)
theorem wd_521 : Cond.fieldLink RX4 7 RX4 "worn" "I" ∈ fw_tb := fw_m 553 (by decide +kernel) (by decide +kernel)
theorem wd_522 : Cond.fieldLink RX5 57 RX4 "worn" "I" ∈ fw_tb := fw_m 554 (by decide +kernel) (by decide +kernel)
theorem wd_523 : Cond.fieldLink RX8 227 RX4 "worn" "I" ∈ fw_tb := fw_m 555 (by decide +kernel) (by decide +kernel)
theorem wd_529 : Cond.methodLink RX5 50 yJx4a65c_add_9ea2d ∈ fw_tb := fw_m 561 (by decide +kernel) (by decide +kernel)
theorem wd_530 : Cond.fieldLink RX5 26 RX5 "train" "LCogwright$Train;" ∈ fw_tb := fw_m 562 (by decide +kernel) (by decide +kernel)
theorem wd_531 : Cond.fieldLink RX8 211 RX5 "train" "LCogwright$Train;" ∈ fw_tb := fw_m 563 (by decide +kernel) (by decide +kernel)
theorem wd_532 : Cond.fieldLink RX5 12 RX5 "meshes" "Ljava/util/ArrayList;" ∈ fw_tb := fw_m 564 (by decide +kernel) (by decide +kernel)
theorem wd_533 : Cond.fieldLink RX8 217 RX5 "meshes" "Ljava/util/ArrayList;" ∈ fw_tb := fw_m 565 (by decide +kernel) (by decide +kernel)
theorem wd_534 : Cond.fieldLink RX5 54 RX5 "uncut" "I" ∈ fw_tb := fw_m 566 (by decide +kernel) (by decide +kernel)
theorem wd_535 : Cond.fieldLink RX8 194 RX5 "uncut" "I" ∈ fw_tb := fw_m 567 (by decide +kernel) (by decide +kernel)
theorem wd_536 : Cond.fieldLink RX5 18 RX5 "endedAt" "I" ∈ fw_tb := fw_m 568 (by decide +kernel) (by decide +kernel)
theorem wd_537 : Cond.fieldLink RX8 197 RX5 "endedAt" "I" ∈ fw_tb := fw_m 569 (by decide +kernel) (by decide +kernel)
theorem wd_538 : Cond.fieldLink RX5 22 RX5 "broken" "Z" ∈ fw_tb := fw_m 570 (by decide +kernel) (by decide +kernel)
theorem wd_539 : Cond.fieldLink RX8 202 RX5 "broken" "Z" ∈ fw_tb := fw_m 571 (by decide +kernel) (by decide +kernel)
theorem wd_551 : Cond.methodLink RX8 168 yX8_queue ∈ fw_tb := fw_m 583 (by decide +kernel) (by decide +kernel)
theorem wd_553 : Cond.instanceMethod yX8_queue ∈ fw_tb := fw_m 585 (by decide +kernel) (by decide +kernel)
theorem wd_554 : Cond.code yX8_queue cX8_queue 4 none ∈ fw_tb := fw_m 586 (by decide +kernel) (by decide +kernel)
theorem wd_555 : Cond.classLink RX8 256 RX2 ∈ fw_tb := fw_m 587 (by decide +kernel) (by decide +kernel)
theorem wd_556 : Cond.instantiable RX2 3 ∈ fw_tb := fw_m 588 (by decide +kernel) (by decide +kernel)
theorem wd_557 : Cond.methodLink RX8 258 yX2_init ∈ fw_tb := fw_m 589 (by decide +kernel) (by decide +kernel)
theorem wd_558 : Cond.instanceMethod yX2_init ∈ fw_tb := fw_m 590 (by decide +kernel) (by decide +kernel)
theorem wd_559 : Cond.code yX2_init cX2_init 4 none ∈ fw_tb := fw_m 591 (by decide +kernel) (by decide +kernel)
theorem wd_560 : Cond.methodLink RX2 1 ⟨"java/lang/Object", "<init>", "()V"⟩ ∈ fw_tb := fw_m 592 (by decide +kernel) (by decide +kernel)
theorem wd_561 : Cond.fieldLink RX2 7 RX2 "order" "LCogwright$Order;" ∈ fw_tb := fw_m 593 (by decide +kernel) (by decide +kernel)
theorem wd_562 : Cond.fieldLink RX3 28 RX2 "order" "LCogwright$Order;" ∈ fw_tb := fw_m 594 (by decide +kernel) (by decide +kernel)
theorem wd_563 : Cond.fieldLink RX2 13 RX2 "teeth" "I" ∈ fw_tb := fw_m 595 (by decide +kernel) (by decide +kernel)
theorem wd_564 : Cond.fieldLink RX3 25 RX2 "teeth" "I" ∈ fw_tb := fw_m 596 (by decide +kernel) (by decide +kernel)
theorem wd_565 : Cond.fieldLink RX2 17 RX2 "cutter" "I" ∈ fw_tb := fw_m 597 (by decide +kernel) (by decide +kernel)
theorem wd_566 : Cond.fieldLink RX3 22 RX2 "cutter" "I" ∈ fw_tb := fw_m 598 (by decide +kernel) (by decide +kernel)
theorem wd_567 : Cond.fieldLink RX8 282 RX2 "cutter" "I" ∈ fw_tb := fw_m 599 (by decide +kernel) (by decide +kernel)
theorem wd_575 : Cond.methodLink RL 117 yL_pass ∈ fw_tb := fw_m 607 (by decide +kernel) (by decide +kernel)
theorem wd_576 : Cond.static yL_pass ∈ fw_tb := fw_m 608 (by decide +kernel) (by decide +kernel)
theorem wd_577 : Cond.codeWith yL_pass cL_pass 4 (some .int) [(0, 9, 12, 13)] ∈ fw_tb := fw_m 609 (by decide +kernel) (by decide +kernel)
theorem wd_578 : Cond.methodLink RL 45 yX8_pass ∈ fw_tb := fw_m 610 (by decide +kernel) (by decide +kernel)
theorem wd_579 : Cond.instanceMethod yX8_pass ∈ fw_tb := fw_m 611 (by decide +kernel) (by decide +kernel)
theorem wd_580 : Cond.selects RX8 yX8_pass yX8_pass ∈ fw_tb := fw_m 612 (by decide +kernel) (by decide +kernel)
theorem wd_581 : Cond.code yX8_pass cX8_pass 4 (some .int) ∈ fw_tb := fw_m 613 (by decide +kernel) (by decide +kernel)
theorem wd_583 : Cond.methodLink RX8 174 yX8_giveOutJobs ∈ fw_tb := fw_m 615 (by decide +kernel) (by decide +kernel)
theorem wd_585 : Cond.instanceMethod yX8_giveOutJobs ∈ fw_tb := fw_m 617 (by decide +kernel) (by decide +kernel)
theorem wd_586 : Cond.code yX8_giveOutJobs cX8_giveOutJobs 3 none ∈ fw_tb := fw_m 618 (by decide +kernel) (by decide +kernel)
theorem wd_587 : Cond.methodLink RX8 264 yX8_giveJob ∈ fw_tb := fw_m 619 (by decide +kernel) (by decide +kernel)
theorem wd_589 : Cond.instanceMethod yX8_giveJob ∈ fw_tb := fw_m 621 (by decide +kernel) (by decide +kernel)
theorem wd_590 : Cond.code yX8_giveJob cX8_giveJob 4 none ∈ fw_tb := fw_m 622 (by decide +kernel) (by decide +kernel)
theorem wd_591 : Cond.methodLink RX8 268 yX8_firstWithCutterOf ∈ fw_tb := fw_m 623 (by decide +kernel) (by decide +kernel)
theorem wd_593 : Cond.instanceMethod yX8_firstWithCutterOf ∈ fw_tb := fw_m 625 (by decide +kernel) (by decide +kernel)
theorem wd_594 : Cond.code yX8_firstWithCutterOf cX8_firstWithCutterOf 3 (some .int) ∈ fw_tb := fw_m 626 (by decide +kernel) (by decide +kernel)
theorem wd_595 : Cond.methodLink RX8 272 yX8_firstWithFreeCutter ∈ fw_tb := fw_m 627 (by decide +kernel) (by decide +kernel)
theorem wd_597 : Cond.instanceMethod yX8_firstWithFreeCutter ∈ fw_tb := fw_m 629 (by decide +kernel) (by decide +kernel)
theorem wd_598 : Cond.code yX8_firstWithFreeCutter cX8_firstWithFreeCutter 3 (some .int) ∈ fw_tb := fw_m 630 (by decide +kernel) (by decide +kernel)
theorem wd_599 : Cond.methodLink RX8 283 yX8_isOnAnother ∈ fw_tb := fw_m 631 (by decide +kernel) (by decide +kernel)
theorem wd_601 : Cond.instanceMethod yX8_isOnAnother ∈ fw_tb := fw_m 633 (by decide +kernel) (by decide +kernel)
theorem wd_602 : Cond.code yX8_isOnAnother cX8_isOnAnother 5 (some .boolean) ∈ fw_tb := fw_m 634 (by decide +kernel) (by decide +kernel)
theorem wd_603 : Cond.methodLink RX8 275 yX3_begin ∈ fw_tb := fw_m 635 (by decide +kernel) (by decide +kernel)
theorem wd_604 : Cond.instanceMethod yX3_begin ∈ fw_tb := fw_m 636 (by decide +kernel) (by decide +kernel)
theorem wd_605 : Cond.selects RX3 yX3_begin yX3_begin ∈ fw_tb := fw_m 637 (by decide +kernel) (by decide +kernel)
theorem wd_606 : Cond.code yX3_begin cX3_begin 3 none ∈ fw_tb := fw_m 638 (by decide +kernel) (by decide +kernel)
theorem wd_607 : Cond.methodLink RX8 279 yJx4a65c_remove_915e3 ∈ fw_tb := fw_m 639 (by decide +kernel) (by decide +kernel)
theorem wd_608 : Cond.instanceMethod yJx4a65c_remove_915e3 ∈ fw_tb := fw_m 640 (by decide +kernel) (by decide +kernel)
theorem wd_609 : Cond.selects RJx4a65c yJx4a65c_remove_915e3 yJx4a65c_remove_915e3 ∈ fw_tb := fw_m 641 (by decide +kernel) (by decide +kernel)
theorem wd_610 : Cond.code yJx4a65c_remove_915e3 cJx4a65c_remove_915e3 4 (some (.object "java/lang/Object")) ∈ fw_tb := fw_m 642 (by decide +kernel) (by decide +kernel)
theorem wd_611 : Cond.methodLink RJx4a65c 144 yJx4a65c_fastRemove_b59b0 ∈ fw_tb := fw_m 643 (by decide +kernel) (by decide +kernel)
theorem wd_613 : Cond.instanceMethod yJx4a65c_fastRemove_b59b0 ∈ fw_tb := fw_m 645 (by decide +kernel) (by decide +kernel)
theorem wd_614 : Cond.code yJx4a65c_fastRemove_b59b0 cJx4a65c_fastRemove_b59b0 4 none ∈ fw_tb := fw_m 646 (by decide +kernel) (by decide +kernel)
theorem wd_615 : Cond.methodLink RJx4a65c 112 ⟨RJ10, "arraycopy", "(Ljava/lang/Object;ILjava/lang/Object;II)V"⟩ ∈ fw_tb := fw_m 647 (by decide +kernel) (by decide +kernel)
theorem wd_616 : Cond.methodLink RX8 177 yX8_workOneTick ∈ fw_tb := fw_m 648 (by decide +kernel) (by decide +kernel)
theorem wd_618 : Cond.instanceMethod yX8_workOneTick ∈ fw_tb := fw_m 650 (by decide +kernel) (by decide +kernel)
theorem wd_619 : Cond.code yX8_workOneTick cX8_workOneTick 4 (some .int) ∈ fw_tb := fw_m 651 (by decide +kernel) (by decide +kernel)
theorem wd_620 : Cond.methodLink RX8 287 yX3_work ∈ fw_tb := fw_m 652 (by decide +kernel) (by decide +kernel)
theorem wd_621 : Cond.instanceMethod yX3_work ∈ fw_tb := fw_m 653 (by decide +kernel) (by decide +kernel)
theorem wd_622 : Cond.selects RX3 yX3_work yX3_work ∈ fw_tb := fw_m 654 (by decide +kernel) (by decide +kernel)
theorem wd_623 : Cond.code yX3_work cX3_work 2 (some (.object "Cogwright$Order")) ∈ fw_tb := fw_m 655 (by decide +kernel) (by decide +kernel)
theorem wd_624 : Cond.methodLink RX8 291 yX5_countCutGear ∈ fw_tb := fw_m 656 (by decide +kernel) (by decide +kernel)
theorem wd_625 : Cond.instanceMethod yX5_countCutGear ∈ fw_tb := fw_m 657 (by decide +kernel) (by decide +kernel)
theorem wd_626 : Cond.selects RX5 yX5_countCutGear yX5_countCutGear ∈ fw_tb := fw_m 658 (by decide +kernel) (by decide +kernel)
theorem wd_627 : Cond.code yX5_countCutGear cX5_countCutGear 2 none ∈ fw_tb := fw_m 659 (by decide +kernel) (by decide +kernel)
theorem wd_628 : Cond.methodLink RL 128 yL_cutterOn ∈ fw_tb := fw_m 660 (by decide +kernel) (by decide +kernel)
theorem wd_629 : Cond.static yL_cutterOn ∈ fw_tb := fw_m 661 (by decide +kernel) (by decide +kernel)
theorem wd_630 : Cond.codeWith yL_cutterOn cL_cutterOn 4 (some .int) [(0, 9, 12, 31)] ∈ fw_tb := fw_m 662 (by decide +kernel) (by decide +kernel)
theorem wd_631 : Cond.methodLink RL 48 yX8_cutterOn ∈ fw_tb := fw_m 663 (by decide +kernel) (by decide +kernel)
theorem wd_632 : Cond.instanceMethod yX8_cutterOn ∈ fw_tb := fw_m 664 (by decide +kernel) (by decide +kernel)
theorem wd_633 : Cond.selects RX8 yX8_cutterOn yX8_cutterOn ∈ fw_tb := fw_m 665 (by decide +kernel) (by decide +kernel)
theorem wd_634 : Cond.code yX8_cutterOn cX8_cutterOn 2 (some .int) ∈ fw_tb := fw_m 666 (by decide +kernel) (by decide +kernel)
theorem wd_635 : Cond.methodLink RX8 180 yX8_machineAt ∈ fw_tb := fw_m 667 (by decide +kernel) (by decide +kernel)
theorem wd_637 : Cond.instanceMethod yX8_machineAt ∈ fw_tb := fw_m 669 (by decide +kernel) (by decide +kernel)
theorem wd_638 : Cond.code yX8_machineAt cX8_machineAt 2 (some (.object "Cogwright$Machine")) ∈ fw_tb := fw_m 670 (by decide +kernel) (by decide +kernel)
theorem wd_640 : Cond.methodLink RL 131 yL_ticksLeft ∈ fw_tb := fw_m 672 (by decide +kernel) (by decide +kernel)
theorem wd_641 : Cond.static yL_ticksLeft ∈ fw_tb := fw_m 673 (by decide +kernel) (by decide +kernel)
theorem wd_642 : Cond.codeWith yL_ticksLeft cL_ticksLeft 4 (some .int) [(0, 9, 12, 31)] ∈ fw_tb := fw_m 674 (by decide +kernel) (by decide +kernel)
theorem wd_643 : Cond.methodLink RL 51 yX8_ticksLeft ∈ fw_tb := fw_m 675 (by decide +kernel) (by decide +kernel)
theorem wd_644 : Cond.instanceMethod yX8_ticksLeft ∈ fw_tb := fw_m 676 (by decide +kernel) (by decide +kernel)
theorem wd_645 : Cond.selects RX8 yX8_ticksLeft yX8_ticksLeft ∈ fw_tb := fw_m 677 (by decide +kernel) (by decide +kernel)
theorem wd_646 : Cond.code yX8_ticksLeft cX8_ticksLeft 2 (some .int) ∈ fw_tb := fw_m 678 (by decide +kernel) (by decide +kernel)
theorem wd_647 : Cond.methodLink RL 134 yL_gearsLeft ∈ fw_tb := fw_m 679 (by decide +kernel) (by decide +kernel)
theorem wd_648 : Cond.static yL_gearsLeft ∈ fw_tb := fw_m 680 (by decide +kernel) (by decide +kernel)
theorem wd_649 : Cond.codeWith yL_gearsLeft cL_gearsLeft 4 (some .int) [(0, 9, 12, 31)] ∈ fw_tb := fw_m 681 (by decide +kernel) (by decide +kernel)
theorem wd_650 : Cond.methodLink RL 54 yX8_gearsLeft ∈ fw_tb := fw_m 682 (by decide +kernel) (by decide +kernel)
theorem wd_651 : Cond.instanceMethod yX8_gearsLeft ∈ fw_tb := fw_m 683 (by decide +kernel) (by decide +kernel)
theorem wd_652 : Cond.selects RX8 yX8_gearsLeft yX8_gearsLeft ∈ fw_tb := fw_m 684 (by decide +kernel) (by decide +kernel)
theorem wd_653 : Cond.code yX8_gearsLeft cX8_gearsLeft 2 (some .int) ∈ fw_tb := fw_m 685 (by decide +kernel) (by decide +kernel)
theorem wd_654 : Cond.methodLink RX8 190 yX8_orderAt ∈ fw_tb := fw_m 686 (by decide +kernel) (by decide +kernel)
theorem wd_656 : Cond.instanceMethod yX8_orderAt ∈ fw_tb := fw_m 688 (by decide +kernel) (by decide +kernel)
theorem wd_657 : Cond.code yX8_orderAt cX8_orderAt 2 (some (.object "Cogwright$Order")) ∈ fw_tb := fw_m 689 (by decide +kernel) (by decide +kernel)
theorem wd_659 : Cond.methodLink RL 137 yL_doneAt ∈ fw_tb := fw_m 691 (by decide +kernel) (by decide +kernel)
theorem wd_660 : Cond.static yL_doneAt ∈ fw_tb := fw_m 692 (by decide +kernel) (by decide +kernel)
theorem wd_661 : Cond.codeWith yL_doneAt cL_doneAt 4 (some .int) [(0, 9, 12, 31)] ∈ fw_tb := fw_m 693 (by decide +kernel) (by decide +kernel)
theorem wd_662 : Cond.methodLink RL 57 yX8_doneAt ∈ fw_tb := fw_m 694 (by decide +kernel) (by decide +kernel)
theorem wd_663 : Cond.instanceMethod yX8_doneAt ∈ fw_tb := fw_m 695 (by decide +kernel) (by decide +kernel)
theorem wd_664 : Cond.selects RX8 yX8_doneAt yX8_doneAt ∈ fw_tb := fw_m 696 (by decide +kernel) (by decide +kernel)
theorem wd_665 : Cond.code yX8_doneAt cX8_doneAt 2 (some .int) ∈ fw_tb := fw_m 697 (by decide +kernel) (by decide +kernel)
theorem wd_666 : Cond.methodLink RL 140 yL_test ∈ fw_tb := fw_m 698 (by decide +kernel) (by decide +kernel)
theorem wd_667 : Cond.static yL_test ∈ fw_tb := fw_m 699 (by decide +kernel) (by decide +kernel)
theorem wd_668 : Cond.codeWith yL_test cL_test 6 (some .int) [(0, 19, 22, 31), (0, 19, 26, 13), (0, 19, 30, 15)] ∈ fw_tb := fw_m 700 (by decide +kernel) (by decide +kernel)
theorem wd_669 : Cond.methodLink RL 60 yX8_test ∈ fw_tb := fw_m 701 (by decide +kernel) (by decide +kernel)
theorem wd_670 : Cond.instanceMethod yX8_test ∈ fw_tb := fw_m 702 (by decide +kernel) (by decide +kernel)
theorem wd_671 : Cond.selects RX8 yX8_test yX8_test ∈ fw_tb := fw_m 703 (by decide +kernel) (by decide +kernel)
theorem wd_672 : Cond.code yX8_test cX8_test 5 (some .boolean) ∈ fw_tb := fw_m 704 (by decide +kernel) (by decide +kernel)
theorem wd_675 : Cond.methodLink RX8 208 yX5_wearDown ∈ fw_tb := fw_m 707 (by decide +kernel) (by decide +kernel)
theorem wd_676 : Cond.instanceMethod yX5_wearDown ∈ fw_tb := fw_m 708 (by decide +kernel) (by decide +kernel)
theorem wd_677 : Cond.selects RX5 yX5_wearDown yX5_wearDown ∈ fw_tb := fw_m 709 (by decide +kernel) (by decide +kernel)
theorem wd_678 : Cond.code yX5_wearDown cX5_wearDown 4 none ∈ fw_tb := fw_m 710 (by decide +kernel) (by decide +kernel)
theorem wd_679 : Cond.methodLink RX5 64 yX6_wearOf ∈ fw_tb := fw_m 711 (by decide +kernel) (by decide +kernel)
theorem wd_680 : Cond.instanceMethod yX6_wearOf ∈ fw_tb := fw_m 712 (by decide +kernel) (by decide +kernel)
theorem wd_681 : Cond.selects RX6 yX6_wearOf yX6_wearOf ∈ fw_tb := fw_m 713 (by decide +kernel) (by decide +kernel)
theorem wd_682 : Cond.code yX6_wearOf cX6_wearOf 2 (some .int) ∈ fw_tb := fw_m 714 (by decide +kernel) (by decide +kernel)
theorem wd_683 : Cond.methodLink RX5 68 yX6_mostWear ∈ fw_tb := fw_m 715 (by decide +kernel) (by decide +kernel)
theorem wd_684 : Cond.instanceMethod yX6_mostWear ∈ fw_tb := fw_m 716 (by decide +kernel) (by decide +kernel)
theorem wd_685 : Cond.selects RX6 yX6_mostWear yX6_mostWear ∈ fw_tb := fw_m 717 (by decide +kernel) (by decide +kernel)
theorem wd_686 : Cond.code yX6_mostWear cX6_mostWear 1 (some .int) ∈ fw_tb := fw_m 718 (by decide +kernel) (by decide +kernel)
theorem wd_687 : Cond.methodLink RX6 21 yJ9_min_7cf53 ∈ fw_tb := fw_m 719 (by decide +kernel) (by decide +kernel)
theorem wd_688 : Cond.methodLink RL 143 yL_wear ∈ fw_tb := fw_m 720 (by decide +kernel) (by decide +kernel)
theorem wd_689 : Cond.static yL_wear ∈ fw_tb := fw_m 721 (by decide +kernel) (by decide +kernel)
theorem wd_690 : Cond.codeWith yL_wear cL_wear 5 (some .int) [(0, 10, 13, 31)] ∈ fw_tb := fw_m 722 (by decide +kernel) (by decide +kernel)
theorem wd_691 : Cond.methodLink RL 64 yX8_wear ∈ fw_tb := fw_m 723 (by decide +kernel) (by decide +kernel)
theorem wd_692 : Cond.instanceMethod yX8_wear ∈ fw_tb := fw_m 724 (by decide +kernel) (by decide +kernel)
theorem wd_693 : Cond.selects RX8 yX8_wear yX8_wear ∈ fw_tb := fw_m 725 (by decide +kernel) (by decide +kernel)
theorem wd_694 : Cond.code yX8_wear cX8_wear 4 (some .int) ∈ fw_tb := fw_m 726 (by decide +kernel) (by decide +kernel)
theorem wd_696 : Cond.classLink RX8 225 RX4 ∈ fw_tb := fw_m 728 (by decide +kernel) (by decide +kernel)
theorem wd_697 : Cond.methodLink RL 146 yL_claims ∈ fw_tb := fw_m 729 (by decide +kernel) (by decide +kernel)
theorem wd_698 : Cond.static yL_claims ∈ fw_tb := fw_m 730 (by decide +kernel) (by decide +kernel)
theorem wd_699 : Cond.codeWith yL_claims cL_claims 4 (some .int) [(0, 9, 12, 31)] ∈ fw_tb := fw_m 731 (by decide +kernel) (by decide +kernel)
theorem wd_700 : Cond.methodLink RL 67 yX8_claims ∈ fw_tb := fw_m 732 (by decide +kernel) (by decide +kernel)
theorem wd_701 : Cond.instanceMethod yX8_claims ∈ fw_tb := fw_m 733 (by decide +kernel) (by decide +kernel)
theorem wd_702 : Cond.selects RX8 yX8_claims yX8_claims ∈ fw_tb := fw_m 734 (by decide +kernel) (by decide +kernel)
theorem wd_703 : Cond.code yX8_claims cX8_claims 2 (some .int) ∈ fw_tb := fw_m 735 (by decide +kernel) (by decide +kernel)
theorem wd_704 : Cond.methodLink RL 149 yL_leastNew ∈ fw_tb := fw_m 736 (by decide +kernel) (by decide +kernel)
theorem wd_705 : Cond.static yL_leastNew ∈ fw_tb := fw_m 737 (by decide +kernel) (by decide +kernel)
theorem wd_706 : Cond.codeWith yL_leastNew cL_leastNew 6 (some .int) [(0, 12, 15, 13)] ∈ fw_tb := fw_m 738 (by decide +kernel) (by decide +kernel)
theorem wd_707 : Cond.methodLink RL 70 yX8_leastNew ∈ fw_tb := fw_m 739 (by decide +kernel) (by decide +kernel)
theorem wd_708 : Cond.instanceMethod yX8_leastNew ∈ fw_tb := fw_m 740 (by decide +kernel) (by decide +kernel)
theorem wd_709 : Cond.selects RX8 yX8_leastNew yX8_leastNew ∈ fw_tb := fw_m 741 (by decide +kernel) (by decide +kernel)
theorem wd_710 : Cond.code yX8_leastNew cX8_leastNew 10 (some .int) ∈ fw_tb := fw_m 742 (by decide +kernel) (by decide +kernel)
theorem wd_712 : Cond.methodLink RX8 232 yX8_teethWithoutCutter ∈ fw_tb := fw_m 744 (by decide +kernel) (by decide +kernel)
theorem wd_714 : Cond.instanceMethod yX8_teethWithoutCutter ∈ fw_tb := fw_m 746 (by decide +kernel) (by decide +kernel)
theorem wd_715 : Cond.code yX8_teethWithoutCutter cX8_teethWithoutCutter 4 (some .int) ∈ fw_tb := fw_m 747 (by decide +kernel) (by decide +kernel)
theorem wd_716 : Cond.methodLink RX8 236 yX8_leastWithDrivers ∈ fw_tb := fw_m 748 (by decide +kernel) (by decide +kernel)
theorem wd_717 : Cond.static yX8_leastWithDrivers ∈ fw_tb := fw_m 749 (by decide +kernel) (by decide +kernel)
theorem wd_718 : Cond.code yX8_leastWithDrivers cX8_leastWithDrivers 7 (some .int) ∈ fw_tb := fw_m 750 (by decide +kernel) (by decide +kernel)
theorem wd_719 : Cond.methodLink RX8 294 yJ6_bitCount_0f7a4 ∈ fw_tb := fw_m 751 (by decide +kernel) (by decide +kernel)
theorem wd_720 : Cond.static yJ6_bitCount_0f7a4 ∈ fw_tb := fw_m 752 (by decide +kernel) (by decide +kernel)
theorem wd_721 : Cond.code yJ6_bitCount_0f7a4 cJ6_bitCount_0f7a4 1 (some .int) ∈ fw_tb := fw_m 753 (by decide +kernel) (by decide +kernel)
theorem wd_722 : Cond.constant RJ6 265 1431655765 ∈ fw_tb := fw_m 754 (by decide +kernel) (by decide +kernel)
theorem wd_723 : Cond.constant RJ6 266 858993459 ∈ fw_tb := fw_m 755 (by decide +kernel) (by decide +kernel)
theorem wd_724 : Cond.constant RJ6 267 252645135 ∈ fw_tb := fw_m 756 (by decide +kernel) (by decide +kernel)
theorem wd_725 : Cond.methodLink RX8 240 yX8_lesser ∈ fw_tb := fw_m 757 (by decide +kernel) (by decide +kernel)
theorem wd_726 : Cond.static yX8_lesser ∈ fw_tb := fw_m 758 (by decide +kernel) (by decide +kernel)
theorem wd_727 : Cond.code yX8_lesser cX8_lesser 2 (some .int) ∈ fw_tb := fw_m 759 (by decide +kernel) (by decide +kernel)
theorem wd_728 : Cond.methodLink RX8 299 yJ9_min_7cf53 ∈ fw_tb := fw_m 760 (by decide +kernel) (by decide +kernel)
theorem wd_729 : Cond.classLink RL 74 RX9 ∈ fw_tb := fw_m 761 (by decide +kernel) (by decide +kernel)
theorem wd_730 : Cond.instantiable RX9 25 ∈ fw_tb := fw_m 762 (by decide +kernel) (by decide +kernel)
theorem wd_731 : Cond.methodLink RL 76 yX9_init ∈ fw_tb := fw_m 763 (by decide +kernel) (by decide +kernel)
theorem wd_732 : Cond.instanceMethod yX9_init ∈ fw_tb := fw_m 764 (by decide +kernel) (by decide +kernel)
theorem wd_733 : Cond.code yX9_init cX9_init 2 none ∈ fw_tb := fw_m 765 (by decide +kernel) (by decide +kernel)
theorem wd_734 : Cond.methodLink RX9 1 ⟨"java/lang/Object", "<init>", "()V"⟩ ∈ fw_tb := fw_m 766 (by decide +kernel) (by decide +kernel)
theorem wd_735 : Cond.fieldLink RX9 65 RX9 "thrown" "I" ∈ fw_tb := fw_m 767 (by decide +kernel) (by decide +kernel)
theorem wd_736 : Cond.fieldLink RX9 79 RX9 "cutterMany" "I" ∈ fw_tb := fw_m 768 (by decide +kernel) (by decide +kernel)
theorem wd_737 : Cond.fieldLink RX9 7 RX9 "modules" "[I" ∈ fw_tb := fw_m 769 (by decide +kernel) (by decide +kernel)
theorem wd_738 : Cond.fieldLink RX9 13 RX9 "leasts" "[I" ∈ fw_tb := fw_m 770 (by decide +kernel) (by decide +kernel)
theorem wd_739 : Cond.fieldLink RX9 16 RX9 "mosts" "[I" ∈ fw_tb := fw_m 771 (by decide +kernel) (by decide +kernel)
theorem wd_740 : Cond.fieldLink RX9 86 RX9 "draftMany" "I" ∈ fw_tb := fw_m 772 (by decide +kernel) (by decide +kernel)
theorem wd_741 : Cond.fieldLink RX9 19 RX9 "draft" "[I" ∈ fw_tb := fw_m 773 (by decide +kernel) (by decide +kernel)
theorem wd_742 : Cond.fieldLink RX9 69 RX9 "trainMany" "I" ∈ fw_tb := fw_m 774 (by decide +kernel) (by decide +kernel)
theorem wd_743 : Cond.fieldLink RX9 22 RX9 "stageMany" "[I" ∈ fw_tb := fw_m 775 (by decide +kernel) (by decide +kernel)
theorem wd_744 : Cond.fieldLink RX9 25 RX9 "stages" "[I" ∈ fw_tb := fw_m 776 (by decide +kernel) (by decide +kernel)
theorem wd_745 : Cond.fieldLink RX9 28 RX9 "claims" "[I" ∈ fw_tb := fw_m 777 (by decide +kernel) (by decide +kernel)
theorem wd_746 : Cond.fieldLink RX9 76 RX9 "orderMany" "I" ∈ fw_tb := fw_m 778 (by decide +kernel) (by decide +kernel)
theorem wd_747 : Cond.fieldLink RX9 31 RX9 "orderTrains" "[I" ∈ fw_tb := fw_m 779 (by decide +kernel) (by decide +kernel)
theorem wd_748 : Cond.fieldLink RX9 34 RX9 "doneAts" "[I" ∈ fw_tb := fw_m 780 (by decide +kernel) (by decide +kernel)
theorem wd_749 : Cond.fieldLink RX9 37 RX9 "isBroken" "[Z" ∈ fw_tb := fw_m 781 (by decide +kernel) (by decide +kernel)
theorem wd_750 : Cond.fieldLink RX9 41 RX9 "wears" "[I" ∈ fw_tb := fw_m 782 (by decide +kernel) (by decide +kernel)
theorem wd_751 : Cond.fieldLink RX9 107 RX9 "jobMany" "I" ∈ fw_tb := fw_m 783 (by decide +kernel) (by decide +kernel)
theorem wd_752 : Cond.fieldLink RX9 44 RX9 "jobOrders" "[I" ∈ fw_tb := fw_m 784 (by decide +kernel) (by decide +kernel)
theorem wd_753 : Cond.fieldLink RX9 47 RX9 "jobCutters" "[I" ∈ fw_tb := fw_m 785 (by decide +kernel) (by decide +kernel)
theorem wd_754 : Cond.fieldLink RX9 50 RX9 "jobTeeth" "[I" ∈ fw_tb := fw_m 786 (by decide +kernel) (by decide +kernel)
theorem wd_755 : Cond.fieldLink RX9 53 RX9 "spots" "[I" ∈ fw_tb := fw_m 787 (by decide +kernel) (by decide +kernel)
theorem wd_756 : Cond.fieldLink RX9 121 RX9 "time" "I" ∈ fw_tb := fw_m 788 (by decide +kernel) (by decide +kernel)
theorem wd_757 : Cond.fieldLink RX9 56 RX9 "cutters" "[I" ∈ fw_tb := fw_m 789 (by decide +kernel) (by decide +kernel)
theorem wd_758 : Cond.fieldLink RX9 59 RX9 "jobs" "[I" ∈ fw_tb := fw_m 790 (by decide +kernel) (by decide +kernel)
theorem wd_759 : Cond.fieldLink RX9 62 RX9 "lefts" "[I" ∈ fw_tb := fw_m 791 (by decide +kernel) (by decide +kernel)
theorem wd_811 : Cond.arrayClass .int ∈ fw_tb := fw_m 843 (by decide +kernel) (by decide +kernel)
theorem wd_812 : Cond.arrayClass .boolean ∈ fw_tb := fw_m 844 (by decide +kernel) (by decide +kernel)
theorem wd_813 : Cond.methodLink RL 83 yX9_thrown ∈ fw_tb := fw_m 845 (by decide +kernel) (by decide +kernel)
theorem wd_814 : Cond.instanceMethod yX9_thrown ∈ fw_tb := fw_m 846 (by decide +kernel) (by decide +kernel)
theorem wd_815 : Cond.selects RX9 yX9_thrown yX9_thrown ∈ fw_tb := fw_m 847 (by decide +kernel) (by decide +kernel)
theorem wd_816 : Cond.code yX9_thrown cX9_thrown 1 (some .int) ∈ fw_tb := fw_m 848 (by decide +kernel) (by decide +kernel)
theorem wd_817 : Cond.methodLink RL 82 yX9_addCutter ∈ fw_tb := fw_m 849 (by decide +kernel) (by decide +kernel)
theorem wd_818 : Cond.instanceMethod yX9_addCutter ∈ fw_tb := fw_m 850 (by decide +kernel) (by decide +kernel)
theorem wd_819 : Cond.selects RX9 yX9_addCutter yX9_addCutter ∈ fw_tb := fw_m 851 (by decide +kernel) (by decide +kernel)
theorem wd_820 : Cond.code yX9_addCutter cX9_addCutter 5 (some .int) ∈ fw_tb := fw_m 852 (by decide +kernel) (by decide +kernel)
theorem wd_821 : Cond.methodLink RX9 72 yX9_in ∈ fw_tb := fw_m 853 (by decide +kernel) (by decide +kernel)
theorem wd_822 : Cond.static yX9_in ∈ fw_tb := fw_m 854 (by decide +kernel) (by decide +kernel)
theorem wd_823 : Cond.code yX9_in cX9_in 3 (some .boolean) ∈ fw_tb := fw_m 855 (by decide +kernel) (by decide +kernel)
theorem wd_824 : Cond.methodLink RL 90 yX9_cutterFor ∈ fw_tb := fw_m 856 (by decide +kernel) (by decide +kernel)
theorem wd_825 : Cond.instanceMethod yX9_cutterFor ∈ fw_tb := fw_m 857 (by decide +kernel) (by decide +kernel)
theorem wd_826 : Cond.selects RX9 yX9_cutterFor yX9_cutterFor ∈ fw_tb := fw_m 858 (by decide +kernel) (by decide +kernel)
theorem wd_827 : Cond.code yX9_cutterFor cX9_cutterFor 3 (some .int) ∈ fw_tb := fw_m 859 (by decide +kernel) (by decide +kernel)
theorem wd_828 : Cond.methodLink RX9 82 yX9_cutter ∈ fw_tb := fw_m 860 (by decide +kernel) (by decide +kernel)
theorem wd_830 : Cond.instanceMethod yX9_cutter ∈ fw_tb := fw_m 862 (by decide +kernel) (by decide +kernel)
theorem wd_831 : Cond.code yX9_cutter cX9_cutter 5 (some .int) ∈ fw_tb := fw_m 863 (by decide +kernel) (by decide +kernel)
theorem wd_832 : Cond.methodLink RL 93 yX9_stage ∈ fw_tb := fw_m 864 (by decide +kernel) (by decide +kernel)
theorem wd_833 : Cond.instanceMethod yX9_stage ∈ fw_tb := fw_m 865 (by decide +kernel) (by decide +kernel)
theorem wd_834 : Cond.selects RX9 yX9_stage yX9_stage ∈ fw_tb := fw_m 866 (by decide +kernel) (by decide +kernel)
theorem wd_835 : Cond.code yX9_stage cX9_stage 5 (some .int) ∈ fw_tb := fw_m 867 (by decide +kernel) (by decide +kernel)
theorem wd_836 : Cond.methodLink RX9 89 yX9_draftDistance ∈ fw_tb := fw_m 868 (by decide +kernel) (by decide +kernel)
theorem wd_838 : Cond.instanceMethod yX9_draftDistance ∈ fw_tb := fw_m 870 (by decide +kernel) (by decide +kernel)
theorem wd_839 : Cond.code yX9_draftDistance cX9_draftDistance 3 (some .int) ∈ fw_tb := fw_m 871 (by decide +kernel) (by decide +kernel)
theorem wd_840 : Cond.methodLink RL 97 yX9_scrap ∈ fw_tb := fw_m 872 (by decide +kernel) (by decide +kernel)
theorem wd_841 : Cond.instanceMethod yX9_scrap ∈ fw_tb := fw_m 873 (by decide +kernel) (by decide +kernel)
theorem wd_842 : Cond.selects RX9 yX9_scrap yX9_scrap ∈ fw_tb := fw_m 874 (by decide +kernel) (by decide +kernel)
theorem wd_843 : Cond.code yX9_scrap cX9_scrap 2 (some .int) ∈ fw_tb := fw_m 875 (by decide +kernel) (by decide +kernel)
theorem wd_844 : Cond.methodLink RL 101 yX9_make ∈ fw_tb := fw_m 876 (by decide +kernel) (by decide +kernel)
theorem wd_845 : Cond.instanceMethod yX9_make ∈ fw_tb := fw_m 877 (by decide +kernel) (by decide +kernel)
theorem wd_846 : Cond.selects RX9 yX9_make yX9_make ∈ fw_tb := fw_m 878 (by decide +kernel) (by decide +kernel)
theorem wd_847 : Cond.code yX9_make cX9_make 4 (some .int) ∈ fw_tb := fw_m 879 (by decide +kernel) (by decide +kernel)
theorem wd_848 : Cond.methodLink RL 104 yX9_numerator ∈ fw_tb := fw_m 880 (by decide +kernel) (by decide +kernel)
theorem wd_849 : Cond.instanceMethod yX9_numerator ∈ fw_tb := fw_m 881 (by decide +kernel) (by decide +kernel)
theorem wd_850 : Cond.selects RX9 yX9_numerator yX9_numerator ∈ fw_tb := fw_m 882 (by decide +kernel) (by decide +kernel)
theorem wd_851 : Cond.code yX9_numerator cX9_numerator 2 (some .int) ∈ fw_tb := fw_m 883 (by decide +kernel) (by decide +kernel)
theorem wd_852 : Cond.methodLink RX9 93 yX9_isTrain ∈ fw_tb := fw_m 884 (by decide +kernel) (by decide +kernel)
theorem wd_854 : Cond.instanceMethod yX9_isTrain ∈ fw_tb := fw_m 886 (by decide +kernel) (by decide +kernel)
theorem wd_855 : Cond.code yX9_isTrain cX9_isTrain 2 (some .boolean) ∈ fw_tb := fw_m 887 (by decide +kernel) (by decide +kernel)
theorem wd_856 : Cond.methodLink RX9 97 yX9_product ∈ fw_tb := fw_m 888 (by decide +kernel) (by decide +kernel)
theorem wd_858 : Cond.instanceMethod yX9_product ∈ fw_tb := fw_m 890 (by decide +kernel) (by decide +kernel)
theorem wd_859 : Cond.code yX9_product cX9_product 5 (some .int) ∈ fw_tb := fw_m 891 (by decide +kernel) (by decide +kernel)
theorem wd_860 : Cond.methodLink RX9 100 yX9_common ∈ fw_tb := fw_m 892 (by decide +kernel) (by decide +kernel)
theorem wd_861 : Cond.static yX9_common ∈ fw_tb := fw_m 893 (by decide +kernel) (by decide +kernel)
theorem wd_862 : Cond.code yX9_common cX9_common 5 (some .int) ∈ fw_tb := fw_m 894 (by decide +kernel) (by decide +kernel)
theorem wd_863 : Cond.methodLink RL 107 yX9_denominator ∈ fw_tb := fw_m 895 (by decide +kernel) (by decide +kernel)
theorem wd_864 : Cond.instanceMethod yX9_denominator ∈ fw_tb := fw_m 896 (by decide +kernel) (by decide +kernel)
theorem wd_865 : Cond.selects RX9 yX9_denominator yX9_denominator ∈ fw_tb := fw_m 897 (by decide +kernel) (by decide +kernel)
theorem wd_866 : Cond.code yX9_denominator cX9_denominator 2 (some .int) ∈ fw_tb := fw_m 898 (by decide +kernel) (by decide +kernel)
theorem wd_867 : Cond.methodLink RL 110 yX9_turned ∈ fw_tb := fw_m 899 (by decide +kernel) (by decide +kernel)
theorem wd_868 : Cond.instanceMethod yX9_turned ∈ fw_tb := fw_m 900 (by decide +kernel) (by decide +kernel)
theorem wd_869 : Cond.selects RX9 yX9_turned yX9_turned ∈ fw_tb := fw_m 901 (by decide +kernel) (by decide +kernel)
theorem wd_870 : Cond.code yX9_turned cX9_turned 3 (some .int) ∈ fw_tb := fw_m 902 (by decide +kernel) (by decide +kernel)
theorem wd_871 : Cond.constant RX9 103 600000 ∈ fw_tb := fw_m 903 (by decide +kernel) (by decide +kernel)
theorem wd_872 : Cond.methodLink RL 113 yX9_turnedByWalk ∈ fw_tb := fw_m 904 (by decide +kernel) (by decide +kernel)
theorem wd_873 : Cond.instanceMethod yX9_turnedByWalk ∈ fw_tb := fw_m 905 (by decide +kernel) (by decide +kernel)
theorem wd_874 : Cond.selects RX9 yX9_turnedByWalk yX9_turnedByWalk ∈ fw_tb := fw_m 906 (by decide +kernel) (by decide +kernel)
theorem wd_875 : Cond.code yX9_turnedByWalk cX9_turnedByWalk 3 (some .int) ∈ fw_tb := fw_m 907 (by decide +kernel) (by decide +kernel)
theorem wd_876 : Cond.methodLink RX9 104 yX9_turned ∈ fw_tb := fw_m 908 (by decide +kernel) (by decide +kernel)
theorem wd_877 : Cond.methodLink RL 116 yX9_order ∈ fw_tb := fw_m 909 (by decide +kernel) (by decide +kernel)
theorem wd_878 : Cond.instanceMethod yX9_order ∈ fw_tb := fw_m 910 (by decide +kernel) (by decide +kernel)
theorem wd_879 : Cond.selects RX9 yX9_order yX9_order ∈ fw_tb := fw_m 911 (by decide +kernel) (by decide +kernel)
theorem wd_880 : Cond.code yX9_order cX9_order 4 (some .int) ∈ fw_tb := fw_m 912 (by decide +kernel) (by decide +kernel)
theorem wd_881 : Cond.methodLink RX9 110 yX9_waits ∈ fw_tb := fw_m 913 (by decide +kernel) (by decide +kernel)
theorem wd_883 : Cond.instanceMethod yX9_waits ∈ fw_tb := fw_m 915 (by decide +kernel) (by decide +kernel)
theorem wd_884 : Cond.code yX9_waits cX9_waits 4 none ∈ fw_tb := fw_m 916 (by decide +kernel) (by decide +kernel)
theorem wd_885 : Cond.methodLink RL 119 yX9_pass ∈ fw_tb := fw_m 917 (by decide +kernel) (by decide +kernel)
theorem wd_886 : Cond.instanceMethod yX9_pass ∈ fw_tb := fw_m 918 (by decide +kernel) (by decide +kernel)
theorem wd_887 : Cond.selects RX9 yX9_pass yX9_pass ∈ fw_tb := fw_m 919 (by decide +kernel) (by decide +kernel)
theorem wd_888 : Cond.code yX9_pass cX9_pass 4 (some .int) ∈ fw_tb := fw_m 920 (by decide +kernel) (by decide +kernel)
theorem wd_889 : Cond.methodLink RX9 132 yX9_tick ∈ fw_tb := fw_m 921 (by decide +kernel) (by decide +kernel)
theorem wd_891 : Cond.instanceMethod yX9_tick ∈ fw_tb := fw_m 923 (by decide +kernel) (by decide +kernel)
theorem wd_892 : Cond.code yX9_tick cX9_tick 4 (some .int) ∈ fw_tb := fw_m 924 (by decide +kernel) (by decide +kernel)
theorem wd_893 : Cond.methodLink RX9 124 yX9_takes ∈ fw_tb := fw_m 925 (by decide +kernel) (by decide +kernel)
theorem wd_895 : Cond.instanceMethod yX9_takes ∈ fw_tb := fw_m 927 (by decide +kernel) (by decide +kernel)
theorem wd_896 : Cond.code yX9_takes cX9_takes 4 none ∈ fw_tb := fw_m 928 (by decide +kernel) (by decide +kernel)
theorem wd_897 : Cond.methodLink RX9 117 yX9_first ∈ fw_tb := fw_m 929 (by decide +kernel) (by decide +kernel)
theorem wd_899 : Cond.instanceMethod yX9_first ∈ fw_tb := fw_m 931 (by decide +kernel) (by decide +kernel)
theorem wd_900 : Cond.code yX9_first cX9_first 6 (some .int) ∈ fw_tb := fw_m 932 (by decide +kernel) (by decide +kernel)
theorem wd_901 : Cond.methodLink RX9 114 yX9_isOn ∈ fw_tb := fw_m 933 (by decide +kernel) (by decide +kernel)
theorem wd_903 : Cond.instanceMethod yX9_isOn ∈ fw_tb := fw_m 935 (by decide +kernel) (by decide +kernel)
theorem wd_904 : Cond.code yX9_isOn cX9_isOn 4 (some .boolean) ∈ fw_tb := fw_m 936 (by decide +kernel) (by decide +kernel)
theorem wd_905 : Cond.methodLink RX9 128 yX9_toCut ∈ fw_tb := fw_m 937 (by decide +kernel) (by decide +kernel)
theorem wd_907 : Cond.instanceMethod yX9_toCut ∈ fw_tb := fw_m 939 (by decide +kernel) (by decide +kernel)
theorem wd_908 : Cond.code yX9_toCut cX9_toCut 4 (some .int) ∈ fw_tb := fw_m 940 (by decide +kernel) (by decide +kernel)
theorem wd_909 : Cond.methodLink RL 123 yX9_time ∈ fw_tb := fw_m 941 (by decide +kernel) (by decide +kernel)
theorem wd_910 : Cond.instanceMethod yX9_time ∈ fw_tb := fw_m 942 (by decide +kernel) (by decide +kernel)
theorem wd_911 : Cond.selects RX9 yX9_time yX9_time ∈ fw_tb := fw_m 943 (by decide +kernel) (by decide +kernel)
theorem wd_912 : Cond.code yX9_time cX9_time 1 (some .int) ∈ fw_tb := fw_m 944 (by decide +kernel) (by decide +kernel)
theorem wd_913 : Cond.methodLink RL 127 yX9_waiting ∈ fw_tb := fw_m 945 (by decide +kernel) (by decide +kernel)
theorem wd_914 : Cond.instanceMethod yX9_waiting ∈ fw_tb := fw_m 946 (by decide +kernel) (by decide +kernel)
theorem wd_915 : Cond.selects RX9 yX9_waiting yX9_waiting ∈ fw_tb := fw_m 947 (by decide +kernel) (by decide +kernel)
theorem wd_916 : Cond.code yX9_waiting cX9_waiting 3 (some .int) ∈ fw_tb := fw_m 948 (by decide +kernel) (by decide +kernel)
theorem wd_917 : Cond.methodLink RL 130 yX9_cutterOn ∈ fw_tb := fw_m 949 (by decide +kernel) (by decide +kernel)
theorem wd_918 : Cond.instanceMethod yX9_cutterOn ∈ fw_tb := fw_m 950 (by decide +kernel) (by decide +kernel)
theorem wd_919 : Cond.selects RX9 yX9_cutterOn yX9_cutterOn ∈ fw_tb := fw_m 951 (by decide +kernel) (by decide +kernel)
theorem wd_920 : Cond.code yX9_cutterOn cX9_cutterOn 2 (some .int) ∈ fw_tb := fw_m 952 (by decide +kernel) (by decide +kernel)
theorem wd_921 : Cond.methodLink RX9 135 yX9_isMachine ∈ fw_tb := fw_m 953 (by decide +kernel) (by decide +kernel)
theorem wd_923 : Cond.instanceMethod yX9_isMachine ∈ fw_tb := fw_m 955 (by decide +kernel) (by decide +kernel)
theorem wd_924 : Cond.code yX9_isMachine cX9_isMachine 2 (some .boolean) ∈ fw_tb := fw_m 956 (by decide +kernel) (by decide +kernel)
theorem wd_925 : Cond.methodLink RL 133 yX9_ticksLeft ∈ fw_tb := fw_m 957 (by decide +kernel) (by decide +kernel)
theorem wd_926 : Cond.instanceMethod yX9_ticksLeft ∈ fw_tb := fw_m 958 (by decide +kernel) (by decide +kernel)
theorem wd_927 : Cond.selects RX9 yX9_ticksLeft yX9_ticksLeft ∈ fw_tb := fw_m 959 (by decide +kernel) (by decide +kernel)
theorem wd_928 : Cond.code yX9_ticksLeft cX9_ticksLeft 2 (some .int) ∈ fw_tb := fw_m 960 (by decide +kernel) (by decide +kernel)
theorem wd_929 : Cond.methodLink RL 136 yX9_gearsLeft ∈ fw_tb := fw_m 961 (by decide +kernel) (by decide +kernel)
theorem wd_930 : Cond.instanceMethod yX9_gearsLeft ∈ fw_tb := fw_m 962 (by decide +kernel) (by decide +kernel)
theorem wd_931 : Cond.selects RX9 yX9_gearsLeft yX9_gearsLeft ∈ fw_tb := fw_m 963 (by decide +kernel) (by decide +kernel)
theorem wd_932 : Cond.code yX9_gearsLeft cX9_gearsLeft 2 (some .int) ∈ fw_tb := fw_m 964 (by decide +kernel) (by decide +kernel)
theorem wd_933 : Cond.methodLink RX9 138 yX9_isOrder ∈ fw_tb := fw_m 965 (by decide +kernel) (by decide +kernel)
theorem wd_935 : Cond.instanceMethod yX9_isOrder ∈ fw_tb := fw_m 967 (by decide +kernel) (by decide +kernel)
theorem wd_936 : Cond.code yX9_isOrder cX9_isOrder 2 (some .boolean) ∈ fw_tb := fw_m 968 (by decide +kernel) (by decide +kernel)
theorem wd_937 : Cond.methodLink RL 139 yX9_doneAt ∈ fw_tb := fw_m 969 (by decide +kernel) (by decide +kernel)
theorem wd_938 : Cond.instanceMethod yX9_doneAt ∈ fw_tb := fw_m 970 (by decide +kernel) (by decide +kernel)
theorem wd_939 : Cond.selects RX9 yX9_doneAt yX9_doneAt ∈ fw_tb := fw_m 971 (by decide +kernel) (by decide +kernel)
theorem wd_940 : Cond.code yX9_doneAt cX9_doneAt 2 (some .int) ∈ fw_tb := fw_m 972 (by decide +kernel) (by decide +kernel)
theorem wd_941 : Cond.methodLink RL 142 yX9_test ∈ fw_tb := fw_m 973 (by decide +kernel) (by decide +kernel)
theorem wd_942 : Cond.instanceMethod yX9_test ∈ fw_tb := fw_m 974 (by decide +kernel) (by decide +kernel)
theorem wd_943 : Cond.selects RX9 yX9_test yX9_test ∈ fw_tb := fw_m 975 (by decide +kernel) (by decide +kernel)
theorem wd_944 : Cond.code yX9_test cX9_test 9 (some .boolean) ∈ fw_tb := fw_m 976 (by decide +kernel) (by decide +kernel)
theorem wd_945 : Cond.methodLink RL 145 yX9_wear ∈ fw_tb := fw_m 977 (by decide +kernel) (by decide +kernel)
theorem wd_946 : Cond.instanceMethod yX9_wear ∈ fw_tb := fw_m 978 (by decide +kernel) (by decide +kernel)
theorem wd_947 : Cond.selects RX9 yX9_wear yX9_wear ∈ fw_tb := fw_m 979 (by decide +kernel) (by decide +kernel)
theorem wd_948 : Cond.code yX9_wear cX9_wear 3 (some .int) ∈ fw_tb := fw_m 980 (by decide +kernel) (by decide +kernel)
theorem wd_949 : Cond.methodLink RL 148 yX9_claims ∈ fw_tb := fw_m 981 (by decide +kernel) (by decide +kernel)
theorem wd_950 : Cond.instanceMethod yX9_claims ∈ fw_tb := fw_m 982 (by decide +kernel) (by decide +kernel)
theorem wd_951 : Cond.selects RX9 yX9_claims yX9_claims ∈ fw_tb := fw_m 983 (by decide +kernel) (by decide +kernel)
theorem wd_952 : Cond.code yX9_claims cX9_claims 2 (some .int) ∈ fw_tb := fw_m 984 (by decide +kernel) (by decide +kernel)
theorem wd_953 : Cond.methodLink RL 151 yX9_leastNew ∈ fw_tb := fw_m 985 (by decide +kernel) (by decide +kernel)
theorem wd_954 : Cond.instanceMethod yX9_leastNew ∈ fw_tb := fw_m 986 (by decide +kernel) (by decide +kernel)
theorem wd_955 : Cond.selects RX9 yX9_leastNew yX9_leastNew ∈ fw_tb := fw_m 987 (by decide +kernel) (by decide +kernel)
theorem wd_956 : Cond.code yX9_leastNew cX9_leastNew 11 (some .int) ∈ fw_tb := fw_m 988 (by decide +kernel) (by decide +kernel)
theorem wd_957 : Cond.methodLink RX9 144 yX9_news ∈ fw_tb := fw_m 989 (by decide +kernel) (by decide +kernel)
theorem wd_959 : Cond.instanceMethod yX9_news ∈ fw_tb := fw_m 991 (by decide +kernel) (by decide +kernel)
theorem wd_960 : Cond.code yX9_news cX9_news 7 (some .int) ∈ fw_tb := fw_m 992 (by decide +kernel) (by decide +kernel)
theorem wd_961 : Cond.methodLink RX9 141 yX9_lacks ∈ fw_tb := fw_m 993 (by decide +kernel) (by decide +kernel)
theorem wd_963 : Cond.instanceMethod yX9_lacks ∈ fw_tb := fw_m 995 (by decide +kernel) (by decide +kernel)
theorem wd_964 : Cond.code yX9_lacks cX9_lacks 3 (some .int) ∈ fw_tb := fw_m 996 (by decide +kernel) (by decide +kernel)
theorem wd_965 : Cond.arrayClass .long ∈ fw_tb := fw_m 997 (by decide +kernel) (by decide +kernel)
theorem wd_966 : Cond.sameMethod "java/lang/Throwable" "java/lang/Throwable" "fillInStackTrace" "(I)Ljava/lang/Throwable;" ∈ fw_tb := fw_m 998 (by decide +kernel) (by decide +kernel)
theorem wd_983 : Cond.sameMethod "[Ljava/lang/Object;" "java/lang/Object" "getClass" "()Ljava/lang/Class;" ∈ fw_tb := fw_m 1015 (by decide +kernel) (by decide +kernel)
theorem wd_984 : Cond.selects "[Ljava/lang/Object;" ⟨"java/lang/Object", "getClass", "()Ljava/lang/Class;"⟩ ⟨"java/lang/Object", "getClass", "()Ljava/lang/Class;"⟩ ∈ fw_tb := fw_m 1016 (by decide +kernel) (by decide +kernel)
theorem ws_0 : Cond.selects RJx4a65c yJx4a65c_add_72be8 yJx4a65c_add_72be8 ∈ fw_tb := fw_m 0 (by decide +kernel) (by decide +kernel)
theorem ws_1 : Cond.selects RJx4a65c yJx4a65c_grow_d5877 yJx4a65c_grow_d5877 ∈ fw_tb := fw_m 1 (by decide +kernel) (by decide +kernel)
theorem ws_2 : Cond.selects RJx4a65c yJx4a65c_grow_92f84 yJx4a65c_grow_92f84 ∈ fw_tb := fw_m 2 (by decide +kernel) (by decide +kernel)
theorem ws_4 : Cond.selects RX8 yX8_lowestCutter yX8_lowestCutter ∈ fw_tb := fw_m 4 (by decide +kernel) (by decide +kernel)
theorem ws_5 : Cond.selects RX8 yX8_hasAllCutters yX8_hasAllCutters ∈ fw_tb := fw_m 5 (by decide +kernel) (by decide +kernel)
theorem ws_6 : Cond.selects RX8 yX8_trainAt yX8_trainAt ∈ fw_tb := fw_m 6 (by decide +kernel) (by decide +kernel)
theorem ws_7 : Cond.selects RX8 yX8_queue yX8_queue ∈ fw_tb := fw_m 7 (by decide +kernel) (by decide +kernel)
theorem ws_8 : Cond.selects RX8 yX8_giveOutJobs yX8_giveOutJobs ∈ fw_tb := fw_m 8 (by decide +kernel) (by decide +kernel)
theorem ws_9 : Cond.selects RX8 yX8_giveJob yX8_giveJob ∈ fw_tb := fw_m 9 (by decide +kernel) (by decide +kernel)
theorem ws_10 : Cond.selects RX8 yX8_firstWithCutterOf yX8_firstWithCutterOf ∈ fw_tb := fw_m 10 (by decide +kernel) (by decide +kernel)
theorem ws_11 : Cond.selects RX8 yX8_firstWithFreeCutter yX8_firstWithFreeCutter ∈ fw_tb := fw_m 11 (by decide +kernel) (by decide +kernel)
theorem ws_12 : Cond.selects RX8 yX8_isOnAnother yX8_isOnAnother ∈ fw_tb := fw_m 12 (by decide +kernel) (by decide +kernel)
theorem ws_13 : Cond.selects RJx4a65c yJx4a65c_fastRemove_b59b0 yJx4a65c_fastRemove_b59b0 ∈ fw_tb := fw_m 13 (by decide +kernel) (by decide +kernel)
theorem ws_14 : Cond.selects RX8 yX8_workOneTick yX8_workOneTick ∈ fw_tb := fw_m 14 (by decide +kernel) (by decide +kernel)
theorem ws_15 : Cond.selects RX8 yX8_machineAt yX8_machineAt ∈ fw_tb := fw_m 15 (by decide +kernel) (by decide +kernel)
theorem ws_16 : Cond.selects RX8 yX8_orderAt yX8_orderAt ∈ fw_tb := fw_m 16 (by decide +kernel) (by decide +kernel)
theorem ws_17 : Cond.selects RX8 yX8_teethWithoutCutter yX8_teethWithoutCutter ∈ fw_tb := fw_m 17 (by decide +kernel) (by decide +kernel)
theorem ws_18 : Cond.selects RX9 yX9_cutter yX9_cutter ∈ fw_tb := fw_m 18 (by decide +kernel) (by decide +kernel)
theorem ws_19 : Cond.selects RX9 yX9_draftDistance yX9_draftDistance ∈ fw_tb := fw_m 19 (by decide +kernel) (by decide +kernel)
theorem ws_20 : Cond.selects RX9 yX9_isTrain yX9_isTrain ∈ fw_tb := fw_m 20 (by decide +kernel) (by decide +kernel)
theorem ws_21 : Cond.selects RX9 yX9_product yX9_product ∈ fw_tb := fw_m 21 (by decide +kernel) (by decide +kernel)
theorem ws_22 : Cond.selects RX9 yX9_waits yX9_waits ∈ fw_tb := fw_m 22 (by decide +kernel) (by decide +kernel)
theorem ws_23 : Cond.selects RX9 yX9_tick yX9_tick ∈ fw_tb := fw_m 23 (by decide +kernel) (by decide +kernel)
theorem ws_24 : Cond.selects RX9 yX9_takes yX9_takes ∈ fw_tb := fw_m 24 (by decide +kernel) (by decide +kernel)
theorem ws_25 : Cond.selects RX9 yX9_first yX9_first ∈ fw_tb := fw_m 25 (by decide +kernel) (by decide +kernel)
theorem ws_26 : Cond.selects RX9 yX9_isOn yX9_isOn ∈ fw_tb := fw_m 26 (by decide +kernel) (by decide +kernel)
theorem ws_27 : Cond.selects RX9 yX9_toCut yX9_toCut ∈ fw_tb := fw_m 27 (by decide +kernel) (by decide +kernel)
theorem ws_28 : Cond.selects RX9 yX9_isMachine yX9_isMachine ∈ fw_tb := fw_m 28 (by decide +kernel) (by decide +kernel)
theorem ws_29 : Cond.selects RX9 yX9_isOrder yX9_isOrder ∈ fw_tb := fw_m 29 (by decide +kernel) (by decide +kernel)
theorem ws_30 : Cond.selects RX9 yX9_news yX9_news ∈ fw_tb := fw_m 30 (by decide +kernel) (by decide +kernel)
theorem ws_31 : Cond.selects RX9 yX9_lacks yX9_lacks ∈ fw_tb := fw_m 31 (by decide +kernel) (by decide +kernel)
theorem fi_RX0 : ∀ w ∈ u_ws RX0 TX0 3, w ∈ fw_tb := fun w h => List.mem_filter.mpr ⟨((goodIn_r (big := lw_tbl) (u_ws RX0 TX0 3) [359, 361, 363] (by decide +kernel) (by decide +kernel)) w h).1, List.all_eq_true.mp (show (u_ws RX0 TX0 3).all goodWord = true by decide +kernel) w h⟩
theorem fi_RX1 : ∀ w ∈ u_ws RX1 TX1 2, w ∈ fw_tb := fun w h => List.mem_filter.mpr ⟨((goodIn_r (big := lw_tbl) (u_ws RX1 TX1 2) [111, 113] (by decide +kernel) (by decide +kernel)) w h).1, List.all_eq_true.mp (show (u_ws RX1 TX1 2).all goodWord = true by decide +kernel) w h⟩
theorem fi_RX2 : ∀ w ∈ u_ws RX2 TX2 3, w ∈ fw_tb := fun w h => List.mem_filter.mpr ⟨((goodIn_r (big := lw_tbl) (u_ws RX2 TX2 3) [600, 602, 604] (by decide +kernel) (by decide +kernel)) w h).1, List.all_eq_true.mp (show (u_ws RX2 TX2 3).all goodWord = true by decide +kernel) w h⟩
theorem fi_RX3 : ∀ w ∈ u_ws RX3 TX3 3, w ∈ fw_tb := fun w h => List.mem_filter.mpr ⟨((goodIn_r (big := lw_tbl) (u_ws RX3 TX3 3) [142, 144, 146] (by decide +kernel) (by decide +kernel)) w h).1, List.all_eq_true.mp (show (u_ws RX3 TX3 3).all goodWord = true by decide +kernel) w h⟩
theorem fi_RX4 : ∀ w ∈ u_ws RX4 TX4 2, w ∈ fw_tb := fun w h => List.mem_filter.mpr ⟨((goodIn_r (big := lw_tbl) (u_ws RX4 TX4 2) [556, 558] (by decide +kernel) (by decide +kernel)) w h).1, List.all_eq_true.mp (show (u_ws RX4 TX4 2).all goodWord = true by decide +kernel) w h⟩
theorem fi_RX5 : ∀ w ∈ u_ws RX5 TX5 5, w ∈ fw_tb := fun w h => List.mem_filter.mpr ⟨((goodIn_r (big := lw_tbl) (u_ws RX5 TX5 5) [572, 574, 576, 578, 580] (by decide +kernel) (by decide +kernel)) w h).1, List.all_eq_true.mp (show (u_ws RX5 TX5 5).all goodWord = true by decide +kernel) w h⟩
theorem fi_RX6 : ∀ w ∈ u_ws RX6 TX6 3, w ∈ fw_tb := fun w h => List.mem_filter.mpr ⟨((goodIn_r (big := lw_tbl) (u_ws RX6 TX6 3) [420, 422, 424] (by decide +kernel) (by decide +kernel)) w h).1, List.all_eq_true.mp (show (u_ws RX6 TX6 3).all goodWord = true by decide +kernel) w h⟩
theorem fi_RX7 : ∀ w ∈ u_ws RX7 TX7 3, w ∈ fw_tb := fun w h => List.mem_filter.mpr ⟨((goodIn_r (big := lw_tbl) (u_ws RX7 TX7 3) [123, 125, 127] (by decide +kernel) (by decide +kernel)) w h).1, List.all_eq_true.mp (show (u_ws RX7 TX7 3).all goodWord = true by decide +kernel) w h⟩
theorem fi_RX8 : ∀ w ∈ u_ws RX8 TX8 7, w ∈ fw_tb := fun w h => List.mem_filter.mpr ⟨((goodIn_r (big := lw_tbl) (u_ws RX8 TX8 7) [217, 219, 221, 223, 225, 227, 229] (by decide +kernel) (by decide +kernel)) w h).1, List.all_eq_true.mp (show (u_ws RX8 TX8 7).all goodWord = true by decide +kernel) w h⟩
theorem fi_RX9 : ∀ w ∈ u_ws RX9 TX9 25, w ∈ fw_tb := fun w h => List.mem_filter.mpr ⟨((goodIn_r (big := lw_tbl) (u_ws RX9 TX9 25) [792, 794, 796, 798, 800, 802, 804, 806, 808, 810, 812, 814, 816, 818, 820, 822, 824, 826, 828, 830, 832, 834, 836, 838, 840] (by decide +kernel) (by decide +kernel)) w h).1, List.all_eq_true.mp (show (u_ws RX9 TX9 25).all goodWord = true by decide +kernel) w h⟩
theorem fi_RJx4a65c : ∀ w ∈ u_ws RJx4a65c TJx4a65c 3, w ∈ fw_tb := fun w h => List.mem_filter.mpr ⟨((goodIn_r (big := lw_tbl) (u_ws RJx4a65c TJx4a65c 3) [90, 86, 88] (by decide +kernel) (by decide +kernel)) w h).1, List.all_eq_true.mp (show (u_ws RJx4a65c TJx4a65c 3).all goodWord = true by decide +kernel) w h⟩
theorem yIX8_init : fw_yI RX8 yX8_init cX8_init 2 0 := ⟨wd_30, wd_1, wd_31, rfl, by decide +kernel, by decide +kernel, by decide +kernel, by decide +kernel⟩
theorem yIJx4a65c_init_da8c8 : fw_yI RJx4a65c yJx4a65c_init_da8c8 cJx4a65c_init_da8c8 1 0 := ⟨wd_38, wd_4, wd_39, rfl, by decide +kernel, by decide +kernel, by decide +kernel, by decide +kernel⟩
theorem yIJxc12de_init_da8c8 : fw_yI RJxc12de yJxc12de_init_da8c8 cJxc12de_init_da8c8 1 0 := ⟨wd_41, wd_3, wd_42, rfl, by decide +kernel, by decide +kernel, by decide +kernel, by decide +kernel⟩
theorem yIJxa1e45_init_da8c8 : fw_yI RJxa1e45 yJxa1e45_init_da8c8 cJxa1e45_init_da8c8 1 0 := ⟨wd_44, wd_2, wd_45, rfl, by decide +kernel, by decide +kernel, by decide +kernel, by decide +kernel⟩
theorem yIX7_init : fw_yI RX7 yX7_init cX7_init 1 0 := ⟨wd_64, wd_5, wd_65, rfl, by decide +kernel, by decide +kernel, by decide +kernel, by decide +kernel⟩
theorem yIX1_init : fw_yI RX1 yX1_init cX1_init 3 1 := ⟨wd_72, wd_6, wd_73, rfl, by decide +kernel, by decide +kernel, by decide +kernel, by decide +kernel⟩
theorem yIX3_init : fw_yI RX3 yX3_init cX3_init 1 0 := ⟨wd_101, wd_7, wd_102, rfl, by decide +kernel, by decide +kernel, by decide +kernel, by decide +kernel⟩
theorem yVJx4a65c_add_9ea2d : fw_yV RJx4a65c yJx4a65c_add_9ea2d cJx4a65c_add_9ea2d 2 (some .boolean) 1 := ⟨wd_118, wd_119, wd_4, wd_120, by decide +kernel, by decide +kernel, by decide +kernel, by decide +kernel⟩
theorem yVJx4a65c_add_72be8 : fw_yV RJx4a65c yJx4a65c_add_72be8 cJx4a65c_add_72be8 4 none 3 := ⟨wd_123, ws_0, wd_4, wd_124, by decide +kernel, by decide +kernel, by decide +kernel, by decide +kernel⟩
theorem yVJx4a65c_grow_d5877 : fw_yV RJx4a65c yJx4a65c_grow_d5877 cJx4a65c_grow_d5877 1 (some (.array (.object "java/lang/Object"))) 0 := ⟨wd_127, ws_1, wd_4, wd_128, by decide +kernel, by decide +kernel, by decide +kernel, by decide +kernel⟩
theorem yVJx4a65c_grow_92f84 : fw_yV RJx4a65c yJx4a65c_grow_92f84 cJx4a65c_grow_92f84 4 (some (.array (.object "java/lang/Object"))) 1 := ⟨wd_131, ws_2, wd_4, wd_132, by decide +kernel, by decide +kernel, by decide +kernel, by decide +kernel⟩
theorem ySJ8_newLength_cabcc : fw_yS RJ8 yJ8_newLength_cabcc cJ8_newLength_cabcc 4 (some .int) 3 := ⟨wd_134, wd_8, wd_135, by decide +kernel, by decide +kernel, by decide +kernel, by decide +kernel⟩
theorem ySJ9_max_7cf53 : fw_yS RJ9 yJ9_max_7cf53 cJ9_max_7cf53 2 (some .int) 2 := ⟨wd_137, wd_9, wd_138, by decide +kernel, by decide +kernel, by decide +kernel, by decide +kernel⟩
theorem ySJ8_hugeLength_7cf53 : fw_yS RJ8 yJ8_hugeLength_7cf53 cJ8_hugeLength_7cf53 3 (some .int) 2 := ⟨wd_141, wd_8, wd_142, by decide +kernel, by decide +kernel, by decide +kernel, by decide +kernel⟩
theorem ySJ7_copyOf_1904c : fw_yS RJ7 yJ7_copyOf_1904c cJ7_copyOf_1904c 2 (some (.array (.object "java/lang/Object"))) 2 := ⟨wd_144, wd_10, wd_145, by decide +kernel, by decide +kernel, by decide +kernel, by decide +kernel⟩
theorem ySJ7_copyOf_6403c : fw_yS RJ7 yJ7_copyOf_6403c cJ7_copyOf_6403c 4 (some (.array (.object "java/lang/Object"))) 3 := ⟨wd_165, wd_10, wd_166, by decide +kernel, by decide +kernel, by decide +kernel, by decide +kernel⟩
theorem ySJ9_min_7cf53 : fw_yS RJ9 yJ9_min_7cf53 cJ9_min_7cf53 2 (some .int) 2 := ⟨wd_171, wd_9, wd_172, by decide +kernel, by decide +kernel, by decide +kernel, by decide +kernel⟩
theorem yVX8_scrap : fw_yV RX8 yX8_scrap cX8_scrap 2 (some .int) 0 := ⟨wd_201, wd_202, wd_1, wd_203, by decide +kernel, by decide +kernel, by decide +kernel, by decide +kernel⟩
theorem yVJx4a65c_size_8abf5 : fw_yV RJx4a65c yJx4a65c_size_8abf5 cJx4a65c_size_8abf5 1 (some .int) 0 := ⟨wd_205, wd_206, wd_4, wd_207, by decide +kernel, by decide +kernel, by decide +kernel, by decide +kernel⟩
theorem yVX8_time : fw_yV RX8 yX8_time cX8_time 1 (some .int) 0 := ⟨wd_209, wd_210, wd_1, wd_211, by decide +kernel, by decide +kernel, by decide +kernel, by decide +kernel⟩
theorem yVX8_waiting : fw_yV RX8 yX8_waiting cX8_waiting 1 (some .int) 0 := ⟨wd_213, wd_214, wd_1, wd_215, by decide +kernel, by decide +kernel, by decide +kernel, by decide +kernel⟩
theorem yVX8_addCutter : fw_yV RX8 yX8_addCutter cX8_addCutter 4 (some .int) 3 := ⟨wd_222, wd_223, wd_1, wd_224, by decide +kernel, by decide +kernel, by decide +kernel, by decide +kernel⟩
theorem ySX8_isNoModule : fw_yS RX8 yX8_isNoModule cX8_isNoModule 1 (some .boolean) 1 := ⟨wd_226, wd_1, wd_227, by decide +kernel, by decide +kernel, by decide +kernel, by decide +kernel⟩
theorem ySX8_isOutside : fw_yS RX8 yX8_isOutside cX8_isOutside 3 (some .boolean) 3 := ⟨wd_229, wd_1, wd_230, by decide +kernel, by decide +kernel, by decide +kernel, by decide +kernel⟩
theorem ySX8_isNoToothCount : fw_yS RX8 yX8_isNoToothCount cX8_isNoToothCount 1 (some .boolean) 1 := ⟨wd_232, wd_1, wd_233, by decide +kernel, by decide +kernel, by decide +kernel, by decide +kernel⟩
theorem yIX0_init : fw_yI RX0 yX0_init cX0_init 4 3 := ⟨wd_321, wd_18, wd_322, rfl, by decide +kernel, by decide +kernel, by decide +kernel, by decide +kernel⟩
theorem yVX8_cutterFor : fw_yV RX8 yX8_cutterFor cX8_cutterFor 3 (some .int) 2 := ⟨wd_338, wd_339, wd_1, wd_340, by decide +kernel, by decide +kernel, by decide +kernel, by decide +kernel⟩
theorem yVX8_lowestCutter : fw_yV RX8 yX8_lowestCutter cX8_lowestCutter 4 (some .int) 2 := ⟨wd_344, ws_4, wd_1, wd_345, by decide +kernel, by decide +kernel, by decide +kernel, by decide +kernel⟩
theorem yVJx4a65c_get_915e3 : fw_yV RJx4a65c yJx4a65c_get_915e3 cJx4a65c_get_915e3 2 (some (.object "java/lang/Object")) 1 := ⟨wd_347, wd_348, wd_4, wd_349, by decide +kernel, by decide +kernel, by decide +kernel, by decide +kernel⟩
theorem ySJ15_checkIndex_7cf53 : fw_yS RJ15 yJ15_checkIndex_7cf53 cJ15_checkIndex_7cf53 2 (some .int) 2 := ⟨wd_351, wd_19, wd_352, by decide +kernel, by decide +kernel, by decide +kernel, by decide +kernel⟩
theorem ySJ3_checkIndex_8e157 : fw_yS RJ3 yJ3_checkIndex_8e157 cJ3_checkIndex_8e157 3 (some .int) 3 := ⟨wd_354, wd_20, wd_355, by decide +kernel, by decide +kernel, by decide +kernel, by decide +kernel⟩
theorem yVJx4a65c_elementData_915e3 : fw_yV RJx4a65c yJx4a65c_elementData_915e3 cJx4a65c_elementData_915e3 2 (some (.object "java/lang/Object")) 1 := ⟨wd_357, wd_358, wd_4, wd_359, by decide +kernel, by decide +kernel, by decide +kernel, by decide +kernel⟩
theorem yVX0_cuts : fw_yV RX0 yX0_cuts cX0_cuts 3 (some .boolean) 2 := ⟨wd_361, wd_362, wd_18, wd_363, by decide +kernel, by decide +kernel, by decide +kernel, by decide +kernel⟩
theorem yVX8_stage : fw_yV RX8 yX8_stage cX8_stage 4 (some .int) 3 := ⟨wd_368, wd_369, wd_1, wd_370, by decide +kernel, by decide +kernel, by decide +kernel, by decide +kernel⟩
theorem yIX6_init : fw_yI RX6 yX6_init cX6_init 4 3 := ⟨wd_376, wd_21, wd_377, rfl, by decide +kernel, by decide +kernel, by decide +kernel, by decide +kernel⟩
theorem yVX7_append : fw_yV RX7 yX7_append cX7_append 2 none 1 := ⟨wd_396, wd_397, wd_5, wd_398, by decide +kernel, by decide +kernel, by decide +kernel, by decide +kernel⟩
theorem yVX1_multiply : fw_yV RX1 yX1_multiply cX1_multiply 7 none 2 := ⟨wd_401, wd_402, wd_6, wd_403, by decide +kernel, by decide +kernel, by decide +kernel, by decide +kernel⟩
theorem ySX8_commonDivisor : fw_yS RX8 yX8_commonDivisor cX8_commonDivisor 11 (some .long) 2 := ⟨wd_405, wd_1, wd_406, by decide +kernel, by decide +kernel, by decide +kernel, by decide +kernel⟩
theorem yVX7_distance : fw_yV RX7 yX7_distance cX7_distance 4 (some .int) 0 := ⟨wd_408, wd_409, wd_5, wd_410, by decide +kernel, by decide +kernel, by decide +kernel, by decide +kernel⟩
theorem yVX8_make : fw_yV RX8 yX8_make cX8_make 2 (some .int) 1 := ⟨wd_418, wd_419, wd_1, wd_420, by decide +kernel, by decide +kernel, by decide +kernel, by decide +kernel⟩
theorem yVJx4a65c_isEmpty_aae02 : fw_yV RJx4a65c yJx4a65c_isEmpty_aae02 cJx4a65c_isEmpty_aae02 1 (some .boolean) 0 := ⟨wd_422, wd_423, wd_4, wd_424, by decide +kernel, by decide +kernel, by decide +kernel, by decide +kernel⟩
theorem yVX8_hasAllCutters : fw_yV RX8 yX8_hasAllCutters cX8_hasAllCutters 4 (some .boolean) 1 := ⟨wd_429, ws_5, wd_1, wd_430, by decide +kernel, by decide +kernel, by decide +kernel, by decide +kernel⟩
theorem yVX8_numerator : fw_yV RX8 yX8_numerator cX8_numerator 2 (some .int) 1 := ⟨wd_438, wd_439, wd_1, wd_440, by decide +kernel, by decide +kernel, by decide +kernel, by decide +kernel⟩
theorem yVX8_trainAt : fw_yV RX8 yX8_trainAt cX8_trainAt 2 (some (.object "Cogwright$Train")) 1 := ⟨wd_443, ws_6, wd_1, wd_444, by decide +kernel, by decide +kernel, by decide +kernel, by decide +kernel⟩
theorem yVX8_denominator : fw_yV RX8 yX8_denominator cX8_denominator 2 (some .int) 1 := ⟨wd_465, wd_466, wd_1, wd_467, by decide +kernel, by decide +kernel, by decide +kernel, by decide +kernel⟩
theorem yVX8_turned : fw_yV RX8 yX8_turned cX8_turned 5 (some .int) 2 := ⟨wd_472, wd_473, wd_1, wd_474, by decide +kernel, by decide +kernel, by decide +kernel, by decide +kernel⟩
theorem ySX8_checkTurns : fw_yS RX8 yX8_checkTurns cX8_checkTurns 1 none 1 := ⟨wd_476, wd_1, wd_477, by decide +kernel, by decide +kernel, by decide +kernel, by decide +kernel⟩
theorem yVX1_roundedDown : fw_yV RX1 yX1_roundedDown cX1_roundedDown 1 (some .int) 0 := ⟨wd_484, wd_485, wd_6, wd_486, by decide +kernel, by decide +kernel, by decide +kernel, by decide +kernel⟩
theorem yVX8_turnedByWalk : fw_yV RX8 yX8_turnedByWalk cX8_turnedByWalk 6 (some .int) 2 := ⟨wd_491, wd_492, wd_1, wd_493, by decide +kernel, by decide +kernel, by decide +kernel, by decide +kernel⟩
theorem yVX8_order : fw_yV RX8 yX8_order cX8_order 6 (some .int) 1 := ⟨wd_498, wd_499, wd_1, wd_500, by decide +kernel, by decide +kernel, by decide +kernel, by decide +kernel⟩
theorem yIX5_init : fw_yI RX5 yX5_init cX5_init 3 1 := ⟨wd_505, wd_23, wd_506, rfl, by decide +kernel, by decide +kernel, by decide +kernel, by decide +kernel⟩
theorem yIX4_init : fw_yI RX4 yX4_init cX4_init 2 1 := ⟨wd_516, wd_24, wd_517, rfl, by decide +kernel, by decide +kernel, by decide +kernel, by decide +kernel⟩
theorem yVX8_queue : fw_yV RX8 yX8_queue cX8_queue 4 none 3 := ⟨wd_553, ws_7, wd_1, wd_554, by decide +kernel, by decide +kernel, by decide +kernel, by decide +kernel⟩
theorem yIX2_init : fw_yI RX2 yX2_init cX2_init 4 3 := ⟨wd_558, wd_25, wd_559, rfl, by decide +kernel, by decide +kernel, by decide +kernel, by decide +kernel⟩
theorem yVX8_pass : fw_yV RX8 yX8_pass cX8_pass 4 (some .int) 1 := ⟨wd_579, wd_580, wd_1, wd_581, by decide +kernel, by decide +kernel, by decide +kernel, by decide +kernel⟩
theorem yVX8_giveOutJobs : fw_yV RX8 yX8_giveOutJobs cX8_giveOutJobs 3 none 0 := ⟨wd_585, ws_8, wd_1, wd_586, by decide +kernel, by decide +kernel, by decide +kernel, by decide +kernel⟩
theorem yVX8_giveJob : fw_yV RX8 yX8_giveJob cX8_giveJob 4 none 1 := ⟨wd_589, ws_9, wd_1, wd_590, by decide +kernel, by decide +kernel, by decide +kernel, by decide +kernel⟩
theorem yVX8_firstWithCutterOf : fw_yV RX8 yX8_firstWithCutterOf cX8_firstWithCutterOf 3 (some .int) 1 := ⟨wd_593, ws_10, wd_1, wd_594, by decide +kernel, by decide +kernel, by decide +kernel, by decide +kernel⟩
theorem yVX8_firstWithFreeCutter : fw_yV RX8 yX8_firstWithFreeCutter cX8_firstWithFreeCutter 3 (some .int) 1 := ⟨wd_597, ws_11, wd_1, wd_598, by decide +kernel, by decide +kernel, by decide +kernel, by decide +kernel⟩
theorem yVX8_isOnAnother : fw_yV RX8 yX8_isOnAnother cX8_isOnAnother 5 (some .boolean) 2 := ⟨wd_601, ws_12, wd_1, wd_602, by decide +kernel, by decide +kernel, by decide +kernel, by decide +kernel⟩
theorem yVX3_begin : fw_yV RX3 yX3_begin cX3_begin 3 none 2 := ⟨wd_604, wd_605, wd_7, wd_606, by decide +kernel, by decide +kernel, by decide +kernel, by decide +kernel⟩
theorem yVJx4a65c_remove_915e3 : fw_yV RJx4a65c yJx4a65c_remove_915e3 cJx4a65c_remove_915e3 4 (some (.object "java/lang/Object")) 1 := ⟨wd_608, wd_609, wd_4, wd_610, by decide +kernel, by decide +kernel, by decide +kernel, by decide +kernel⟩
theorem yVJx4a65c_fastRemove_b59b0 : fw_yV RJx4a65c yJx4a65c_fastRemove_b59b0 cJx4a65c_fastRemove_b59b0 4 none 2 := ⟨wd_613, ws_13, wd_4, wd_614, by decide +kernel, by decide +kernel, by decide +kernel, by decide +kernel⟩
theorem yVX8_workOneTick : fw_yV RX8 yX8_workOneTick cX8_workOneTick 4 (some .int) 0 := ⟨wd_618, ws_14, wd_1, wd_619, by decide +kernel, by decide +kernel, by decide +kernel, by decide +kernel⟩
theorem yVX3_work : fw_yV RX3 yX3_work cX3_work 2 (some (.object "Cogwright$Order")) 0 := ⟨wd_621, wd_622, wd_7, wd_623, by decide +kernel, by decide +kernel, by decide +kernel, by decide +kernel⟩
theorem yVX5_countCutGear : fw_yV RX5 yX5_countCutGear cX5_countCutGear 2 none 1 := ⟨wd_625, wd_626, wd_23, wd_627, by decide +kernel, by decide +kernel, by decide +kernel, by decide +kernel⟩
theorem yVX8_cutterOn : fw_yV RX8 yX8_cutterOn cX8_cutterOn 2 (some .int) 1 := ⟨wd_632, wd_633, wd_1, wd_634, by decide +kernel, by decide +kernel, by decide +kernel, by decide +kernel⟩
theorem yVX8_machineAt : fw_yV RX8 yX8_machineAt cX8_machineAt 2 (some (.object "Cogwright$Machine")) 1 := ⟨wd_637, ws_15, wd_1, wd_638, by decide +kernel, by decide +kernel, by decide +kernel, by decide +kernel⟩
theorem yVX8_ticksLeft : fw_yV RX8 yX8_ticksLeft cX8_ticksLeft 2 (some .int) 1 := ⟨wd_644, wd_645, wd_1, wd_646, by decide +kernel, by decide +kernel, by decide +kernel, by decide +kernel⟩
theorem yVX8_gearsLeft : fw_yV RX8 yX8_gearsLeft cX8_gearsLeft 2 (some .int) 1 := ⟨wd_651, wd_652, wd_1, wd_653, by decide +kernel, by decide +kernel, by decide +kernel, by decide +kernel⟩
theorem yVX8_orderAt : fw_yV RX8 yX8_orderAt cX8_orderAt 2 (some (.object "Cogwright$Order")) 1 := ⟨wd_656, ws_16, wd_1, wd_657, by decide +kernel, by decide +kernel, by decide +kernel, by decide +kernel⟩
theorem yVX8_doneAt : fw_yV RX8 yX8_doneAt cX8_doneAt 2 (some .int) 1 := ⟨wd_663, wd_664, wd_1, wd_665, by decide +kernel, by decide +kernel, by decide +kernel, by decide +kernel⟩
theorem yVX8_test : fw_yV RX8 yX8_test cX8_test 5 (some .boolean) 3 := ⟨wd_670, wd_671, wd_1, wd_672, by decide +kernel, by decide +kernel, by decide +kernel, by decide +kernel⟩
theorem yVX5_wearDown : fw_yV RX5 yX5_wearDown cX5_wearDown 4 none 1 := ⟨wd_676, wd_677, wd_23, wd_678, by decide +kernel, by decide +kernel, by decide +kernel, by decide +kernel⟩
theorem yVX6_wearOf : fw_yV RX6 yX6_wearOf cX6_wearOf 2 (some .int) 1 := ⟨wd_680, wd_681, wd_21, wd_682, by decide +kernel, by decide +kernel, by decide +kernel, by decide +kernel⟩
theorem yVX6_mostWear : fw_yV RX6 yX6_mostWear cX6_mostWear 1 (some .int) 0 := ⟨wd_684, wd_685, wd_21, wd_686, by decide +kernel, by decide +kernel, by decide +kernel, by decide +kernel⟩
theorem yVX8_wear : fw_yV RX8 yX8_wear cX8_wear 4 (some .int) 2 := ⟨wd_692, wd_693, wd_1, wd_694, by decide +kernel, by decide +kernel, by decide +kernel, by decide +kernel⟩
theorem yVX8_claims : fw_yV RX8 yX8_claims cX8_claims 2 (some .int) 1 := ⟨wd_701, wd_702, wd_1, wd_703, by decide +kernel, by decide +kernel, by decide +kernel, by decide +kernel⟩
theorem yVX8_leastNew : fw_yV RX8 yX8_leastNew cX8_leastNew 10 (some .int) 3 := ⟨wd_708, wd_709, wd_1, wd_710, by decide +kernel, by decide +kernel, by decide +kernel, by decide +kernel⟩
theorem yVX8_teethWithoutCutter : fw_yV RX8 yX8_teethWithoutCutter cX8_teethWithoutCutter 4 (some .int) 1 := ⟨wd_714, ws_17, wd_1, wd_715, by decide +kernel, by decide +kernel, by decide +kernel, by decide +kernel⟩
theorem ySX8_leastWithDrivers : fw_yS RX8 yX8_leastWithDrivers cX8_leastWithDrivers 7 (some .int) 3 := ⟨wd_717, wd_1, wd_718, by decide +kernel, by decide +kernel, by decide +kernel, by decide +kernel⟩
theorem ySJ6_bitCount_0f7a4 : fw_yS RJ6 yJ6_bitCount_0f7a4 cJ6_bitCount_0f7a4 1 (some .int) 1 := ⟨wd_720, wd_26, wd_721, by decide +kernel, by decide +kernel, by decide +kernel, by decide +kernel⟩
theorem ySX8_lesser : fw_yS RX8 yX8_lesser cX8_lesser 2 (some .int) 2 := ⟨wd_726, wd_1, wd_727, by decide +kernel, by decide +kernel, by decide +kernel, by decide +kernel⟩
theorem yIX9_init : fw_yI RX9 yX9_init cX9_init 2 0 := ⟨wd_732, wd_12, wd_733, rfl, by decide +kernel, by decide +kernel, by decide +kernel, by decide +kernel⟩
theorem yVX9_thrown : fw_yV RX9 yX9_thrown cX9_thrown 1 (some .int) 0 := ⟨wd_814, wd_815, wd_12, wd_816, by decide +kernel, by decide +kernel, by decide +kernel, by decide +kernel⟩
theorem yVX9_addCutter : fw_yV RX9 yX9_addCutter cX9_addCutter 5 (some .int) 3 := ⟨wd_818, wd_819, wd_12, wd_820, by decide +kernel, by decide +kernel, by decide +kernel, by decide +kernel⟩
theorem ySX9_in : fw_yS RX9 yX9_in cX9_in 3 (some .boolean) 3 := ⟨wd_822, wd_12, wd_823, by decide +kernel, by decide +kernel, by decide +kernel, by decide +kernel⟩
theorem yVX9_cutterFor : fw_yV RX9 yX9_cutterFor cX9_cutterFor 3 (some .int) 2 := ⟨wd_825, wd_826, wd_12, wd_827, by decide +kernel, by decide +kernel, by decide +kernel, by decide +kernel⟩
theorem yVX9_cutter : fw_yV RX9 yX9_cutter cX9_cutter 5 (some .int) 2 := ⟨wd_830, ws_18, wd_12, wd_831, by decide +kernel, by decide +kernel, by decide +kernel, by decide +kernel⟩
theorem yVX9_stage : fw_yV RX9 yX9_stage cX9_stage 5 (some .int) 3 := ⟨wd_833, wd_834, wd_12, wd_835, by decide +kernel, by decide +kernel, by decide +kernel, by decide +kernel⟩
theorem yVX9_draftDistance : fw_yV RX9 yX9_draftDistance cX9_draftDistance 3 (some .int) 0 := ⟨wd_838, ws_19, wd_12, wd_839, by decide +kernel, by decide +kernel, by decide +kernel, by decide +kernel⟩
theorem yVX9_scrap : fw_yV RX9 yX9_scrap cX9_scrap 2 (some .int) 0 := ⟨wd_841, wd_842, wd_12, wd_843, by decide +kernel, by decide +kernel, by decide +kernel, by decide +kernel⟩
theorem yVX9_make : fw_yV RX9 yX9_make cX9_make 4 (some .int) 1 := ⟨wd_845, wd_846, wd_12, wd_847, by decide +kernel, by decide +kernel, by decide +kernel, by decide +kernel⟩
theorem yVX9_numerator : fw_yV RX9 yX9_numerator cX9_numerator 2 (some .int) 1 := ⟨wd_849, wd_850, wd_12, wd_851, by decide +kernel, by decide +kernel, by decide +kernel, by decide +kernel⟩
theorem yVX9_isTrain : fw_yV RX9 yX9_isTrain cX9_isTrain 2 (some .boolean) 1 := ⟨wd_854, ws_20, wd_12, wd_855, by decide +kernel, by decide +kernel, by decide +kernel, by decide +kernel⟩
theorem yVX9_product : fw_yV RX9 yX9_product cX9_product 5 (some .int) 2 := ⟨wd_858, ws_21, wd_12, wd_859, by decide +kernel, by decide +kernel, by decide +kernel, by decide +kernel⟩
theorem ySX9_common : fw_yS RX9 yX9_common cX9_common 5 (some .int) 2 := ⟨wd_861, wd_12, wd_862, by decide +kernel, by decide +kernel, by decide +kernel, by decide +kernel⟩
theorem yVX9_denominator : fw_yV RX9 yX9_denominator cX9_denominator 2 (some .int) 1 := ⟨wd_864, wd_865, wd_12, wd_866, by decide +kernel, by decide +kernel, by decide +kernel, by decide +kernel⟩
theorem yVX9_turned : fw_yV RX9 yX9_turned cX9_turned 3 (some .int) 2 := ⟨wd_868, wd_869, wd_12, wd_870, by decide +kernel, by decide +kernel, by decide +kernel, by decide +kernel⟩
theorem yVX9_turnedByWalk : fw_yV RX9 yX9_turnedByWalk cX9_turnedByWalk 3 (some .int) 2 := ⟨wd_873, wd_874, wd_12, wd_875, by decide +kernel, by decide +kernel, by decide +kernel, by decide +kernel⟩
theorem yVX9_order : fw_yV RX9 yX9_order cX9_order 4 (some .int) 1 := ⟨wd_878, wd_879, wd_12, wd_880, by decide +kernel, by decide +kernel, by decide +kernel, by decide +kernel⟩
theorem yVX9_waits : fw_yV RX9 yX9_waits cX9_waits 4 none 3 := ⟨wd_883, ws_22, wd_12, wd_884, by decide +kernel, by decide +kernel, by decide +kernel, by decide +kernel⟩
theorem yVX9_pass : fw_yV RX9 yX9_pass cX9_pass 4 (some .int) 1 := ⟨wd_886, wd_887, wd_12, wd_888, by decide +kernel, by decide +kernel, by decide +kernel, by decide +kernel⟩
theorem yVX9_tick : fw_yV RX9 yX9_tick cX9_tick 4 (some .int) 0 := ⟨wd_891, ws_23, wd_12, wd_892, by decide +kernel, by decide +kernel, by decide +kernel, by decide +kernel⟩
theorem yVX9_takes : fw_yV RX9 yX9_takes cX9_takes 4 none 1 := ⟨wd_895, ws_24, wd_12, wd_896, by decide +kernel, by decide +kernel, by decide +kernel, by decide +kernel⟩
theorem yVX9_first : fw_yV RX9 yX9_first cX9_first 6 (some .int) 2 := ⟨wd_899, ws_25, wd_12, wd_900, by decide +kernel, by decide +kernel, by decide +kernel, by decide +kernel⟩
theorem yVX9_isOn : fw_yV RX9 yX9_isOn cX9_isOn 4 (some .boolean) 1 := ⟨wd_903, ws_26, wd_12, wd_904, by decide +kernel, by decide +kernel, by decide +kernel, by decide +kernel⟩
theorem yVX9_toCut : fw_yV RX9 yX9_toCut cX9_toCut 4 (some .int) 1 := ⟨wd_907, ws_27, wd_12, wd_908, by decide +kernel, by decide +kernel, by decide +kernel, by decide +kernel⟩
theorem yVX9_time : fw_yV RX9 yX9_time cX9_time 1 (some .int) 0 := ⟨wd_910, wd_911, wd_12, wd_912, by decide +kernel, by decide +kernel, by decide +kernel, by decide +kernel⟩
theorem yVX9_waiting : fw_yV RX9 yX9_waiting cX9_waiting 3 (some .int) 0 := ⟨wd_914, wd_915, wd_12, wd_916, by decide +kernel, by decide +kernel, by decide +kernel, by decide +kernel⟩
theorem yVX9_cutterOn : fw_yV RX9 yX9_cutterOn cX9_cutterOn 2 (some .int) 1 := ⟨wd_918, wd_919, wd_12, wd_920, by decide +kernel, by decide +kernel, by decide +kernel, by decide +kernel⟩
theorem yVX9_isMachine : fw_yV RX9 yX9_isMachine cX9_isMachine 2 (some .boolean) 1 := ⟨wd_923, ws_28, wd_12, wd_924, by decide +kernel, by decide +kernel, by decide +kernel, by decide +kernel⟩
theorem yVX9_ticksLeft : fw_yV RX9 yX9_ticksLeft cX9_ticksLeft 2 (some .int) 1 := ⟨wd_926, wd_927, wd_12, wd_928, by decide +kernel, by decide +kernel, by decide +kernel, by decide +kernel⟩
theorem yVX9_gearsLeft : fw_yV RX9 yX9_gearsLeft cX9_gearsLeft 2 (some .int) 1 := ⟨wd_930, wd_931, wd_12, wd_932, by decide +kernel, by decide +kernel, by decide +kernel, by decide +kernel⟩
theorem yVX9_isOrder : fw_yV RX9 yX9_isOrder cX9_isOrder 2 (some .boolean) 1 := ⟨wd_935, ws_29, wd_12, wd_936, by decide +kernel, by decide +kernel, by decide +kernel, by decide +kernel⟩
theorem yVX9_doneAt : fw_yV RX9 yX9_doneAt cX9_doneAt 2 (some .int) 1 := ⟨wd_938, wd_939, wd_12, wd_940, by decide +kernel, by decide +kernel, by decide +kernel, by decide +kernel⟩
theorem yVX9_test : fw_yV RX9 yX9_test cX9_test 9 (some .boolean) 3 := ⟨wd_942, wd_943, wd_12, wd_944, by decide +kernel, by decide +kernel, by decide +kernel, by decide +kernel⟩
theorem yVX9_wear : fw_yV RX9 yX9_wear cX9_wear 3 (some .int) 2 := ⟨wd_946, wd_947, wd_12, wd_948, by decide +kernel, by decide +kernel, by decide +kernel, by decide +kernel⟩
theorem yVX9_claims : fw_yV RX9 yX9_claims cX9_claims 2 (some .int) 1 := ⟨wd_950, wd_951, wd_12, wd_952, by decide +kernel, by decide +kernel, by decide +kernel, by decide +kernel⟩
theorem yVX9_leastNew : fw_yV RX9 yX9_leastNew cX9_leastNew 11 (some .int) 3 := ⟨wd_954, wd_955, wd_12, wd_956, by decide +kernel, by decide +kernel, by decide +kernel, by decide +kernel⟩
theorem yVX9_news : fw_yV RX9 yX9_news cX9_news 7 (some .int) 5 := ⟨wd_959, ws_30, wd_12, wd_960, by decide +kernel, by decide +kernel, by decide +kernel, by decide +kernel⟩
theorem yVX9_lacks : fw_yV RX9 yX9_lacks cX9_lacks 3 (some .int) 2 := ⟨wd_963, ws_31, wd_12, wd_964, by decide +kernel, by decide +kernel, by decide +kernel, by decide +kernel⟩
end
section
theorem dX0_init_0 : decode cX0_init 0 = .ok (.aload_n 0, 1) := by decide +kernel
theorem dX0_init_1 : decode cX0_init 1 = .ok (.invokespecial 1, 3) := by decide +kernel
theorem dX0_init_4 : decode cX0_init 4 = .ok (.aload_n 0, 1) := by decide +kernel
theorem dX0_init_5 : decode cX0_init 5 = .ok (.iload_n 1, 1) := by decide +kernel
theorem dX0_init_6 : decode cX0_init 6 = .ok (.putfield 7, 3) := by decide +kernel
theorem dX0_init_9 : decode cX0_init 9 = .ok (.aload_n 0, 1) := by decide +kernel
theorem dX0_init_10 : decode cX0_init 10 = .ok (.iload_n 2, 1) := by decide +kernel
theorem dX0_init_11 : decode cX0_init 11 = .ok (.putfield 13, 3) := by decide +kernel
theorem dX0_init_14 : decode cX0_init 14 = .ok (.aload_n 0, 1) := by decide +kernel
theorem dX0_init_15 : decode cX0_init 15 = .ok (.iload_n 3, 1) := by decide +kernel
theorem dX0_init_16 : decode cX0_init 16 = .ok (.putfield 16, 3) := by decide +kernel
theorem dX0_init_19 : decode cX0_init 19 = .ok (.return_, 1) := by decide +kernel
theorem dX0_cuts_0 : decode cX0_cuts 0 = .ok (.aload_n 0, 1) := by decide +kernel
theorem dX0_cuts_1 : decode cX0_cuts 1 = .ok (.getfield 7, 3) := by decide +kernel
theorem dX0_cuts_4 : decode cX0_cuts 4 = .ok (.iload_n 1, 1) := by decide +kernel
theorem dX0_cuts_5 : decode cX0_cuts 5 = .ok (.if_icmp .ne 23, 3) := by decide +kernel
theorem dX0_cuts_8 : decode cX0_cuts 8 = .ok (.iload_n 2, 1) := by decide +kernel
theorem dX0_cuts_9 : decode cX0_cuts 9 = .ok (.aload_n 0, 1) := by decide +kernel
theorem dX0_cuts_10 : decode cX0_cuts 10 = .ok (.getfield 13, 3) := by decide +kernel
theorem dX0_cuts_13 : decode cX0_cuts 13 = .ok (.if_icmp .lt 15, 3) := by decide +kernel
theorem dX0_cuts_16 : decode cX0_cuts 16 = .ok (.iload_n 2, 1) := by decide +kernel
theorem dX0_cuts_17 : decode cX0_cuts 17 = .ok (.aload_n 0, 1) := by decide +kernel
theorem dX0_cuts_18 : decode cX0_cuts 18 = .ok (.getfield 16, 3) := by decide +kernel
theorem dX0_cuts_21 : decode cX0_cuts 21 = .ok (.if_icmp .gt 7, 3) := by decide +kernel
theorem dX0_cuts_24 : decode cX0_cuts 24 = .ok (.iconst 1, 1) := by decide +kernel
theorem dX0_cuts_25 : decode cX0_cuts 25 = .ok (.goto 4, 3) := by decide +kernel
theorem dX0_cuts_28 : decode cX0_cuts 28 = .ok (.iconst 0, 1) := by decide +kernel
theorem dX0_cuts_29 : decode cX0_cuts 29 = .ok (.ireturn, 1) := by decide +kernel
theorem dX1_init_0 : decode cX1_init 0 = .ok (.aload_n 0, 1) := by decide +kernel
theorem dX1_init_1 : decode cX1_init 1 = .ok (.invokespecial 1, 3) := by decide +kernel
theorem dX1_init_4 : decode cX1_init 4 = .ok (.aload_n 0, 1) := by decide +kernel
theorem dX1_init_5 : decode cX1_init 5 = .ok (.lconst 1, 1) := by decide +kernel
theorem dX1_init_6 : decode cX1_init 6 = .ok (.putfield 7, 3) := by decide +kernel
theorem dX1_init_9 : decode cX1_init 9 = .ok (.aload_n 0, 1) := by decide +kernel
theorem dX1_init_10 : decode cX1_init 10 = .ok (.lload_n 1, 1) := by decide +kernel
theorem dX1_init_11 : decode cX1_init 11 = .ok (.putfield 13, 3) := by decide +kernel
theorem dX1_init_14 : decode cX1_init 14 = .ok (.return_, 1) := by decide +kernel
theorem dX1_multiply_0 : decode cX1_multiply 0 = .ok (.aload_n 0, 1) := by decide +kernel
theorem dX1_multiply_1 : decode cX1_multiply 1 = .ok (.dup, 1) := by decide +kernel
theorem dX1_multiply_2 : decode cX1_multiply 2 = .ok (.getfield 13, 3) := by decide +kernel
theorem dX1_multiply_5 : decode cX1_multiply 5 = .ok (.lload_n 1, 1) := by decide +kernel
theorem dX1_multiply_6 : decode cX1_multiply 6 = .ok (.lmul, 1) := by decide +kernel
theorem dX1_multiply_7 : decode cX1_multiply 7 = .ok (.putfield 13, 3) := by decide +kernel
theorem dX1_multiply_10 : decode cX1_multiply 10 = .ok (.aload_n 0, 1) := by decide +kernel
theorem dX1_multiply_11 : decode cX1_multiply 11 = .ok (.dup, 1) := by decide +kernel
theorem dX1_multiply_12 : decode cX1_multiply 12 = .ok (.getfield 7, 3) := by decide +kernel
theorem dX1_multiply_15 : decode cX1_multiply 15 = .ok (.lload_n 3, 1) := by decide +kernel
theorem dX1_multiply_16 : decode cX1_multiply 16 = .ok (.lmul, 1) := by decide +kernel
theorem dX1_multiply_17 : decode cX1_multiply 17 = .ok (.putfield 7, 3) := by decide +kernel
theorem dX1_multiply_20 : decode cX1_multiply 20 = .ok (.aload_n 0, 1) := by decide +kernel
theorem dX1_multiply_21 : decode cX1_multiply 21 = .ok (.getfield 13, 3) := by decide +kernel
theorem dX1_multiply_24 : decode cX1_multiply 24 = .ok (.aload_n 0, 1) := by decide +kernel
theorem dX1_multiply_25 : decode cX1_multiply 25 = .ok (.getfield 7, 3) := by decide +kernel
theorem dX1_multiply_28 : decode cX1_multiply 28 = .ok (.invokestatic 16, 3) := by decide +kernel
theorem dX1_multiply_31 : decode cX1_multiply 31 = .ok (.lstore 5, 2) := by decide +kernel
theorem dX1_multiply_33 : decode cX1_multiply 33 = .ok (.lload 5, 2) := by decide +kernel
theorem dX1_multiply_35 : decode cX1_multiply 35 = .ok (.lconst 1, 1) := by decide +kernel
theorem dX1_multiply_36 : decode cX1_multiply 36 = .ok (.lcmp, 1) := by decide +kernel
theorem dX1_multiply_37 : decode cX1_multiply 37 = .ok (.ifCond .le 25, 3) := by decide +kernel
theorem dX1_multiply_40 : decode cX1_multiply 40 = .ok (.aload_n 0, 1) := by decide +kernel
theorem dX1_multiply_41 : decode cX1_multiply 41 = .ok (.dup, 1) := by decide +kernel
theorem dX1_multiply_42 : decode cX1_multiply 42 = .ok (.getfield 13, 3) := by decide +kernel
theorem dX1_multiply_45 : decode cX1_multiply 45 = .ok (.lload 5, 2) := by decide +kernel
theorem dX1_multiply_47 : decode cX1_multiply 47 = .ok (.ldiv, 1) := by decide +kernel
theorem dX1_multiply_48 : decode cX1_multiply 48 = .ok (.putfield 13, 3) := by decide +kernel
theorem dX1_multiply_51 : decode cX1_multiply 51 = .ok (.aload_n 0, 1) := by decide +kernel
theorem dX1_multiply_52 : decode cX1_multiply 52 = .ok (.dup, 1) := by decide +kernel
theorem dX1_multiply_53 : decode cX1_multiply 53 = .ok (.getfield 7, 3) := by decide +kernel
theorem dX1_multiply_56 : decode cX1_multiply 56 = .ok (.lload 5, 2) := by decide +kernel
theorem dX1_multiply_58 : decode cX1_multiply 58 = .ok (.ldiv, 1) := by decide +kernel
theorem dX1_multiply_59 : decode cX1_multiply 59 = .ok (.putfield 7, 3) := by decide +kernel
theorem dX1_multiply_62 : decode cX1_multiply 62 = .ok (.return_, 1) := by decide +kernel
theorem dX1_roundedDown_0 : decode cX1_roundedDown 0 = .ok (.aload_n 0, 1) := by decide +kernel
theorem dX1_roundedDown_1 : decode cX1_roundedDown 1 = .ok (.getfield 7, 3) := by decide +kernel
theorem dX1_roundedDown_4 : decode cX1_roundedDown 4 = .ok (.lconst 0, 1) := by decide +kernel
theorem dX1_roundedDown_5 : decode cX1_roundedDown 5 = .ok (.lcmp, 1) := by decide +kernel
theorem dX1_roundedDown_6 : decode cX1_roundedDown 6 = .ok (.ifCond .le 16, 3) := by decide +kernel
theorem dX1_roundedDown_9 : decode cX1_roundedDown 9 = .ok (.aload_n 0, 1) := by decide +kernel
theorem dX1_roundedDown_10 : decode cX1_roundedDown 10 = .ok (.getfield 13, 3) := by decide +kernel
theorem dX1_roundedDown_13 : decode cX1_roundedDown 13 = .ok (.aload_n 0, 1) := by decide +kernel
theorem dX1_roundedDown_14 : decode cX1_roundedDown 14 = .ok (.getfield 7, 3) := by decide +kernel
theorem dX1_roundedDown_17 : decode cX1_roundedDown 17 = .ok (.ldiv, 1) := by decide +kernel
theorem dX1_roundedDown_18 : decode cX1_roundedDown 18 = .ok (.l2i, 1) := by decide +kernel
theorem dX1_roundedDown_19 : decode cX1_roundedDown 19 = .ok (.goto 4, 3) := by decide +kernel
theorem dX1_roundedDown_22 : decode cX1_roundedDown 22 = .ok (.iconst 0, 1) := by decide +kernel
theorem dX1_roundedDown_23 : decode cX1_roundedDown 23 = .ok (.ireturn, 1) := by decide +kernel
theorem dX2_init_0 : decode cX2_init 0 = .ok (.aload_n 0, 1) := by decide +kernel
theorem dX2_init_1 : decode cX2_init 1 = .ok (.invokespecial 1, 3) := by decide +kernel
theorem dX2_init_4 : decode cX2_init 4 = .ok (.aload_n 0, 1) := by decide +kernel
theorem dX2_init_5 : decode cX2_init 5 = .ok (.aload_n 1, 1) := by decide +kernel
theorem dX2_init_6 : decode cX2_init 6 = .ok (.putfield 7, 3) := by decide +kernel
theorem dX2_init_9 : decode cX2_init 9 = .ok (.aload_n 0, 1) := by decide +kernel
theorem dX2_init_10 : decode cX2_init 10 = .ok (.iload_n 2, 1) := by decide +kernel
theorem dX2_init_11 : decode cX2_init 11 = .ok (.putfield 13, 3) := by decide +kernel
theorem dX2_init_14 : decode cX2_init 14 = .ok (.aload_n 0, 1) := by decide +kernel
theorem dX2_init_15 : decode cX2_init 15 = .ok (.iload_n 3, 1) := by decide +kernel
theorem dX2_init_16 : decode cX2_init 16 = .ok (.putfield 17, 3) := by decide +kernel
theorem dX2_init_19 : decode cX2_init 19 = .ok (.return_, 1) := by decide +kernel
theorem dX3_init_0 : decode cX3_init 0 = .ok (.aload_n 0, 1) := by decide +kernel
theorem dX3_init_1 : decode cX3_init 1 = .ok (.invokespecial 3, 3) := by decide +kernel
theorem dX3_init_4 : decode cX3_init 4 = .ok (.aload_n 0, 1) := by decide +kernel
theorem dX3_init_5 : decode cX3_init 5 = .ok (.iconst (-1), 1) := by decide +kernel
theorem dX3_init_6 : decode cX3_init 6 = .ok (.putfield 9, 3) := by decide +kernel
theorem dX3_init_9 : decode cX3_init 9 = .ok (.aload_n 0, 1) := by decide +kernel
theorem dX3_init_10 : decode cX3_init 10 = .ok (.aconst_null, 1) := by decide +kernel
theorem dX3_init_11 : decode cX3_init 11 = .ok (.putfield 15, 3) := by decide +kernel
theorem dX3_init_14 : decode cX3_init 14 = .ok (.aload_n 0, 1) := by decide +kernel
theorem dX3_init_15 : decode cX3_init 15 = .ok (.iconst 0, 1) := by decide +kernel
theorem dX3_init_16 : decode cX3_init 16 = .ok (.putfield 19, 3) := by decide +kernel
theorem dX3_init_19 : decode cX3_init 19 = .ok (.return_, 1) := by decide +kernel
theorem dX3_begin_0 : decode cX3_begin 0 = .ok (.aload_n 0, 1) := by decide +kernel
theorem dX3_begin_1 : decode cX3_begin 1 = .ok (.aload_n 1, 1) := by decide +kernel
theorem dX3_begin_2 : decode cX3_begin 2 = .ok (.putfield 15, 3) := by decide +kernel
theorem dX3_begin_5 : decode cX3_begin 5 = .ok (.aload_n 0, 1) := by decide +kernel
theorem dX3_begin_6 : decode cX3_begin 6 = .ok (.aload_n 1, 1) := by decide +kernel
theorem dX3_begin_7 : decode cX3_begin 7 = .ok (.getfield 22, 3) := by decide +kernel
theorem dX3_begin_10 : decode cX3_begin 10 = .ok (.putfield 9, 3) := by decide +kernel
theorem dX3_begin_13 : decode cX3_begin 13 = .ok (.aload_n 0, 1) := by decide +kernel
theorem dX3_begin_14 : decode cX3_begin 14 = .ok (.iload_n 2, 1) := by decide +kernel
theorem dX3_begin_15 : decode cX3_begin 15 = .ok (.aload_n 1, 1) := by decide +kernel
theorem dX3_begin_16 : decode cX3_begin 16 = .ok (.getfield 25, 3) := by decide +kernel
theorem dX3_begin_19 : decode cX3_begin 19 = .ok (.iadd, 1) := by decide +kernel
theorem dX3_begin_20 : decode cX3_begin 20 = .ok (.putfield 19, 3) := by decide +kernel
theorem dX3_begin_23 : decode cX3_begin 23 = .ok (.return_, 1) := by decide +kernel
theorem dX3_work_0 : decode cX3_work 0 = .ok (.aload_n 0, 1) := by decide +kernel
theorem dX3_work_1 : decode cX3_work 1 = .ok (.getfield 15, 3) := by decide +kernel
theorem dX3_work_4 : decode cX3_work 4 = .ok (.ifnonnull 5, 3) := by decide +kernel
theorem dX3_work_7 : decode cX3_work 7 = .ok (.aconst_null, 1) := by decide +kernel
theorem dX3_work_8 : decode cX3_work 8 = .ok (.areturn, 1) := by decide +kernel
theorem dX3_work_9 : decode cX3_work 9 = .ok (.aload_n 0, 1) := by decide +kernel
theorem dX3_work_10 : decode cX3_work 10 = .ok (.dup, 1) := by decide +kernel
theorem dX3_work_11 : decode cX3_work 11 = .ok (.getfield 19, 3) := by decide +kernel
theorem dX3_work_14 : decode cX3_work 14 = .ok (.iconst 1, 1) := by decide +kernel
theorem dX3_work_15 : decode cX3_work 15 = .ok (.isub, 1) := by decide +kernel
theorem dX3_work_16 : decode cX3_work 16 = .ok (.putfield 19, 3) := by decide +kernel
theorem dX3_work_19 : decode cX3_work 19 = .ok (.aload_n 0, 1) := by decide +kernel
theorem dX3_work_20 : decode cX3_work 20 = .ok (.getfield 19, 3) := by decide +kernel
theorem dX3_work_23 : decode cX3_work 23 = .ok (.ifCond .le 5, 3) := by decide +kernel
theorem dX3_work_26 : decode cX3_work 26 = .ok (.aconst_null, 1) := by decide +kernel
theorem dX3_work_27 : decode cX3_work 27 = .ok (.areturn, 1) := by decide +kernel
theorem dX3_work_28 : decode cX3_work 28 = .ok (.aload_n 0, 1) := by decide +kernel
theorem dX3_work_29 : decode cX3_work 29 = .ok (.getfield 15, 3) := by decide +kernel
theorem dX3_work_32 : decode cX3_work 32 = .ok (.getfield 28, 3) := by decide +kernel
theorem dX3_work_35 : decode cX3_work 35 = .ok (.astore_n 1, 1) := by decide +kernel
theorem dX3_work_36 : decode cX3_work 36 = .ok (.aload_n 0, 1) := by decide +kernel
theorem dX3_work_37 : decode cX3_work 37 = .ok (.aconst_null, 1) := by decide +kernel
theorem dX3_work_38 : decode cX3_work 38 = .ok (.putfield 15, 3) := by decide +kernel
theorem dX3_work_41 : decode cX3_work 41 = .ok (.aload_n 1, 1) := by decide +kernel
theorem dX3_work_42 : decode cX3_work 42 = .ok (.areturn, 1) := by decide +kernel
theorem dX4_init_0 : decode cX4_init 0 = .ok (.aload_n 0, 1) := by decide +kernel
theorem dX4_init_1 : decode cX4_init 1 = .ok (.invokespecial 1, 3) := by decide +kernel
theorem dX4_init_4 : decode cX4_init 4 = .ok (.aload_n 0, 1) := by decide +kernel
theorem dX4_init_5 : decode cX4_init 5 = .ok (.iconst 0, 1) := by decide +kernel
theorem dX4_init_6 : decode cX4_init 6 = .ok (.putfield 7, 3) := by decide +kernel
theorem dX4_init_9 : decode cX4_init 9 = .ok (.aload_n 0, 1) := by decide +kernel
theorem dX4_init_10 : decode cX4_init 10 = .ok (.aload_n 1, 1) := by decide +kernel
theorem dX4_init_11 : decode cX4_init 11 = .ok (.putfield 13, 3) := by decide +kernel
theorem dX4_init_14 : decode cX4_init 14 = .ok (.return_, 1) := by decide +kernel
theorem dX5_init_0 : decode cX5_init 0 = .ok (.aload_n 0, 1) := by decide +kernel
theorem dX5_init_1 : decode cX5_init 1 = .ok (.invokespecial 3, 3) := by decide +kernel
theorem dX5_init_4 : decode cX5_init 4 = .ok (.aload_n 0, 1) := by decide +kernel
theorem dX5_init_5 : decode cX5_init 5 = .ok (.new 9, 3) := by decide +kernel
theorem dX5_init_8 : decode cX5_init 8 = .ok (.dup, 1) := by decide +kernel
theorem dX5_init_9 : decode cX5_init 9 = .ok (.invokespecial 11, 3) := by decide +kernel
theorem dX5_init_12 : decode cX5_init 12 = .ok (.putfield 12, 3) := by decide +kernel
theorem dX5_init_15 : decode cX5_init 15 = .ok (.aload_n 0, 1) := by decide +kernel
theorem dX5_init_16 : decode cX5_init 16 = .ok (.iconst (-1), 1) := by decide +kernel
theorem dX5_init_17 : decode cX5_init 17 = .ok (.putfield 18, 3) := by decide +kernel
theorem dX5_init_20 : decode cX5_init 20 = .ok (.aload_n 0, 1) := by decide +kernel
theorem dX5_init_21 : decode cX5_init 21 = .ok (.iconst 0, 1) := by decide +kernel
theorem dX5_init_22 : decode cX5_init 22 = .ok (.putfield 22, 3) := by decide +kernel
theorem dX5_init_25 : decode cX5_init 25 = .ok (.aload_n 0, 1) := by decide +kernel
theorem dX5_init_26 : decode cX5_init 26 = .ok (.aload_n 1, 1) := by decide +kernel
theorem dX5_init_27 : decode cX5_init 27 = .ok (.putfield 26, 3) := by decide +kernel
theorem dX5_init_30 : decode cX5_init 30 = .ok (.iconst 0, 1) := by decide +kernel
theorem dX5_init_31 : decode cX5_init 31 = .ok (.istore_n 2, 1) := by decide +kernel
theorem dX5_init_32 : decode cX5_init 32 = .ok (.iload_n 2, 1) := by decide +kernel
theorem dX5_init_33 : decode cX5_init 33 = .ok (.aload_n 1, 1) := by decide +kernel
theorem dX5_init_34 : decode cX5_init 34 = .ok (.getfield 30, 3) := by decide +kernel
theorem dX5_init_37 : decode cX5_init 37 = .ok (.invokevirtual 35, 3) := by decide +kernel
theorem dX5_init_40 : decode cX5_init 40 = .ok (.if_icmp .ge 35, 3) := by decide +kernel
theorem dX5_init_43 : decode cX5_init 43 = .ok (.aload_n 0, 1) := by decide +kernel
theorem dX5_init_44 : decode cX5_init 44 = .ok (.getfield 12, 3) := by decide +kernel
theorem dX5_init_47 : decode cX5_init 47 = .ok (.new 39, 3) := by decide +kernel
theorem dX5_init_50 : decode cX5_init 50 = .ok (.dup, 1) := by decide +kernel
theorem dX5_init_51 : decode cX5_init 51 = .ok (.aload_n 1, 1) := by decide +kernel
theorem dX5_init_52 : decode cX5_init 52 = .ok (.getfield 30, 3) := by decide +kernel
theorem dX5_init_55 : decode cX5_init 55 = .ok (.iload_n 2, 1) := by decide +kernel
theorem dX5_init_56 : decode cX5_init 56 = .ok (.invokevirtual 41, 3) := by decide +kernel
theorem dX5_init_59 : decode cX5_init 59 = .ok (.checkcast 45, 3) := by decide +kernel
theorem dX5_init_62 : decode cX5_init 62 = .ok (.invokespecial 47, 3) := by decide +kernel
theorem dX5_init_65 : decode cX5_init 65 = .ok (.invokevirtual 50, 3) := by decide +kernel
theorem dX5_init_68 : decode cX5_init 68 = .ok (.pop, 1) := by decide +kernel
theorem dX5_init_69 : decode cX5_init 69 = .ok (.iinc 2 1, 3) := by decide +kernel
theorem dX5_init_72 : decode cX5_init 72 = .ok (.goto (-40), 3) := by decide +kernel
theorem dX5_init_75 : decode cX5_init 75 = .ok (.aload_n 0, 1) := by decide +kernel
theorem dX5_init_76 : decode cX5_init 76 = .ok (.iconst 2, 1) := by decide +kernel
theorem dX5_init_77 : decode cX5_init 77 = .ok (.aload_n 1, 1) := by decide +kernel
theorem dX5_init_78 : decode cX5_init 78 = .ok (.getfield 30, 3) := by decide +kernel
theorem dX5_init_81 : decode cX5_init 81 = .ok (.invokevirtual 35, 3) := by decide +kernel
theorem dX5_init_84 : decode cX5_init 84 = .ok (.imul, 1) := by decide +kernel
theorem dX5_init_85 : decode cX5_init 85 = .ok (.putfield 54, 3) := by decide +kernel
theorem dX5_init_88 : decode cX5_init 88 = .ok (.return_, 1) := by decide +kernel
theorem dX5_countCutGear_0 : decode cX5_countCutGear 0 = .ok (.aload_n 0, 1) := by decide +kernel
theorem dX5_countCutGear_1 : decode cX5_countCutGear 1 = .ok (.dup, 1) := by decide +kernel
theorem dX5_countCutGear_2 : decode cX5_countCutGear 2 = .ok (.getfield 54, 3) := by decide +kernel
theorem dX5_countCutGear_5 : decode cX5_countCutGear 5 = .ok (.iconst 1, 1) := by decide +kernel
theorem dX5_countCutGear_6 : decode cX5_countCutGear 6 = .ok (.isub, 1) := by decide +kernel
theorem dX5_countCutGear_7 : decode cX5_countCutGear 7 = .ok (.putfield 54, 3) := by decide +kernel
theorem dX5_countCutGear_10 : decode cX5_countCutGear 10 = .ok (.aload_n 0, 1) := by decide +kernel
theorem dX5_countCutGear_11 : decode cX5_countCutGear 11 = .ok (.getfield 54, 3) := by decide +kernel
theorem dX5_countCutGear_14 : decode cX5_countCutGear 14 = .ok (.ifCond .ne 8, 3) := by decide +kernel
theorem dX5_countCutGear_17 : decode cX5_countCutGear 17 = .ok (.aload_n 0, 1) := by decide +kernel
theorem dX5_countCutGear_18 : decode cX5_countCutGear 18 = .ok (.iload_n 1, 1) := by decide +kernel
theorem dX5_countCutGear_19 : decode cX5_countCutGear 19 = .ok (.putfield 18, 3) := by decide +kernel
theorem dX5_countCutGear_22 : decode cX5_countCutGear 22 = .ok (.return_, 1) := by decide +kernel
theorem dX5_wearDown_0 : decode cX5_wearDown 0 = .ok (.iconst 0, 1) := by decide +kernel
theorem dX5_wearDown_1 : decode cX5_wearDown 1 = .ok (.istore_n 2, 1) := by decide +kernel
theorem dX5_wearDown_2 : decode cX5_wearDown 2 = .ok (.iload_n 2, 1) := by decide +kernel
theorem dX5_wearDown_3 : decode cX5_wearDown 3 = .ok (.aload_n 0, 1) := by decide +kernel
theorem dX5_wearDown_4 : decode cX5_wearDown 4 = .ok (.getfield 12, 3) := by decide +kernel
theorem dX5_wearDown_7 : decode cX5_wearDown 7 = .ok (.invokevirtual 35, 3) := by decide +kernel
theorem dX5_wearDown_10 : decode cX5_wearDown 10 = .ok (.if_icmp .ge 57, 3) := by decide +kernel
theorem dX5_wearDown_13 : decode cX5_wearDown 13 = .ok (.aload_n 0, 1) := by decide +kernel
theorem dX5_wearDown_14 : decode cX5_wearDown 14 = .ok (.getfield 12, 3) := by decide +kernel
theorem dX5_wearDown_17 : decode cX5_wearDown 17 = .ok (.iload_n 2, 1) := by decide +kernel
theorem dX5_wearDown_18 : decode cX5_wearDown 18 = .ok (.invokevirtual 41, 3) := by decide +kernel
theorem dX5_wearDown_21 : decode cX5_wearDown 21 = .ok (.checkcast 39, 3) := by decide +kernel
theorem dX5_wearDown_24 : decode cX5_wearDown 24 = .ok (.astore_n 3, 1) := by decide +kernel
theorem dX5_wearDown_25 : decode cX5_wearDown 25 = .ok (.aload_n 3, 1) := by decide +kernel
theorem dX5_wearDown_26 : decode cX5_wearDown 26 = .ok (.dup, 1) := by decide +kernel
theorem dX5_wearDown_27 : decode cX5_wearDown 27 = .ok (.getfield 57, 3) := by decide +kernel
theorem dX5_wearDown_30 : decode cX5_wearDown 30 = .ok (.aload_n 3, 1) := by decide +kernel
theorem dX5_wearDown_31 : decode cX5_wearDown 31 = .ok (.getfield 60, 3) := by decide +kernel
theorem dX5_wearDown_34 : decode cX5_wearDown 34 = .ok (.iload_n 1, 1) := by decide +kernel
theorem dX5_wearDown_35 : decode cX5_wearDown 35 = .ok (.invokevirtual 64, 3) := by decide +kernel
theorem dX5_wearDown_38 : decode cX5_wearDown 38 = .ok (.iadd, 1) := by decide +kernel
theorem dX5_wearDown_39 : decode cX5_wearDown 39 = .ok (.putfield 57, 3) := by decide +kernel
theorem dX5_wearDown_42 : decode cX5_wearDown 42 = .ok (.aload_n 3, 1) := by decide +kernel
theorem dX5_wearDown_43 : decode cX5_wearDown 43 = .ok (.getfield 57, 3) := by decide +kernel
theorem dX5_wearDown_46 : decode cX5_wearDown 46 = .ok (.aload_n 3, 1) := by decide +kernel
theorem dX5_wearDown_47 : decode cX5_wearDown 47 = .ok (.getfield 60, 3) := by decide +kernel
theorem dX5_wearDown_50 : decode cX5_wearDown 50 = .ok (.invokevirtual 68, 3) := by decide +kernel
theorem dX5_wearDown_53 : decode cX5_wearDown 53 = .ok (.if_icmp .le 8, 3) := by decide +kernel
theorem dX5_wearDown_56 : decode cX5_wearDown 56 = .ok (.aload_n 0, 1) := by decide +kernel
theorem dX5_wearDown_57 : decode cX5_wearDown 57 = .ok (.iconst 1, 1) := by decide +kernel
theorem dX5_wearDown_58 : decode cX5_wearDown 58 = .ok (.putfield 22, 3) := by decide +kernel
theorem dX5_wearDown_61 : decode cX5_wearDown 61 = .ok (.iinc 2 1, 3) := by decide +kernel
theorem dX5_wearDown_64 : decode cX5_wearDown 64 = .ok (.goto (-62), 3) := by decide +kernel
theorem dX5_wearDown_67 : decode cX5_wearDown 67 = .ok (.return_, 1) := by decide +kernel
theorem dX6_init_0 : decode cX6_init 0 = .ok (.aload_n 0, 1) := by decide +kernel
theorem dX6_init_1 : decode cX6_init 1 = .ok (.invokespecial 3, 3) := by decide +kernel
theorem dX6_init_4 : decode cX6_init 4 = .ok (.aload_n 0, 1) := by decide +kernel
theorem dX6_init_5 : decode cX6_init 5 = .ok (.iload_n 1, 1) := by decide +kernel
theorem dX6_init_6 : decode cX6_init 6 = .ok (.putfield 9, 3) := by decide +kernel
theorem dX6_init_9 : decode cX6_init 9 = .ok (.aload_n 0, 1) := by decide +kernel
theorem dX6_init_10 : decode cX6_init 10 = .ok (.iload_n 2, 1) := by decide +kernel
theorem dX6_init_11 : decode cX6_init 11 = .ok (.putfield 15, 3) := by decide +kernel
theorem dX6_init_14 : decode cX6_init 14 = .ok (.aload_n 0, 1) := by decide +kernel
theorem dX6_init_15 : decode cX6_init 15 = .ok (.iload_n 3, 1) := by decide +kernel
theorem dX6_init_16 : decode cX6_init 16 = .ok (.putfield 18, 3) := by decide +kernel
theorem dX6_init_19 : decode cX6_init 19 = .ok (.return_, 1) := by decide +kernel
theorem dX6_wearOf_0 : decode cX6_wearOf 0 = .ok (.aload_n 0, 1) := by decide +kernel
theorem dX6_wearOf_1 : decode cX6_wearOf 1 = .ok (.getfield 9, 3) := by decide +kernel
theorem dX6_wearOf_4 : decode cX6_wearOf 4 = .ok (.ifCond .le 12, 3) := by decide +kernel
theorem dX6_wearOf_7 : decode cX6_wearOf 7 = .ok (.iload_n 1, 1) := by decide +kernel
theorem dX6_wearOf_8 : decode cX6_wearOf 8 = .ok (.aload_n 0, 1) := by decide +kernel
theorem dX6_wearOf_9 : decode cX6_wearOf 9 = .ok (.getfield 9, 3) := by decide +kernel
theorem dX6_wearOf_12 : decode cX6_wearOf 12 = .ok (.idiv, 1) := by decide +kernel
theorem dX6_wearOf_13 : decode cX6_wearOf 13 = .ok (.goto 4, 3) := by decide +kernel
theorem dX6_wearOf_16 : decode cX6_wearOf 16 = .ok (.iconst 0, 1) := by decide +kernel
theorem dX6_wearOf_17 : decode cX6_wearOf 17 = .ok (.ireturn, 1) := by decide +kernel
theorem dX6_mostWear_0 : decode cX6_mostWear 0 = .ok (.bipush 10, 2) := by decide +kernel
theorem dX6_mostWear_2 : decode cX6_mostWear 2 = .ok (.aload_n 0, 1) := by decide +kernel
theorem dX6_mostWear_3 : decode cX6_mostWear 3 = .ok (.getfield 15, 3) := by decide +kernel
theorem dX6_mostWear_6 : decode cX6_mostWear 6 = .ok (.aload_n 0, 1) := by decide +kernel
theorem dX6_mostWear_7 : decode cX6_mostWear 7 = .ok (.getfield 18, 3) := by decide +kernel
theorem dX6_mostWear_10 : decode cX6_mostWear 10 = .ok (.invokestatic 21, 3) := by decide +kernel
theorem dX6_mostWear_13 : decode cX6_mostWear 13 = .ok (.imul, 1) := by decide +kernel
theorem dX6_mostWear_14 : decode cX6_mostWear 14 = .ok (.ireturn, 1) := by decide +kernel
theorem dX7_init_0 : decode cX7_init 0 = .ok (.aload_n 0, 1) := by decide +kernel
theorem dX7_init_1 : decode cX7_init 1 = .ok (.invokespecial 1, 3) := by decide +kernel
theorem dX7_init_4 : decode cX7_init 4 = .ok (.aload_n 0, 1) := by decide +kernel
theorem dX7_init_5 : decode cX7_init 5 = .ok (.new 7, 3) := by decide +kernel
theorem dX7_init_8 : decode cX7_init 8 = .ok (.dup, 1) := by decide +kernel
theorem dX7_init_9 : decode cX7_init 9 = .ok (.invokespecial 9, 3) := by decide +kernel
theorem dX7_init_12 : decode cX7_init 12 = .ok (.putfield 10, 3) := by decide +kernel
theorem dX7_init_15 : decode cX7_init 15 = .ok (.aload_n 0, 1) := by decide +kernel
theorem dX7_init_16 : decode cX7_init 16 = .ok (.new 16, 3) := by decide +kernel
theorem dX7_init_19 : decode cX7_init 19 = .ok (.dup, 1) := by decide +kernel
theorem dX7_init_20 : decode cX7_init 20 = .ok (.lconst 1, 1) := by decide +kernel
theorem dX7_init_21 : decode cX7_init 21 = .ok (.invokespecial 18, 3) := by decide +kernel
theorem dX7_init_24 : decode cX7_init 24 = .ok (.putfield 21, 3) := by decide +kernel
theorem dX7_init_27 : decode cX7_init 27 = .ok (.aload_n 0, 1) := by decide +kernel
theorem dX7_init_28 : decode cX7_init 28 = .ok (.iconst 0, 1) := by decide +kernel
theorem dX7_init_29 : decode cX7_init 29 = .ok (.putfield 25, 3) := by decide +kernel
theorem dX7_init_32 : decode cX7_init 32 = .ok (.return_, 1) := by decide +kernel
theorem dX7_append_0 : decode cX7_append 0 = .ok (.aload_n 0, 1) := by decide +kernel
theorem dX7_append_1 : decode cX7_append 1 = .ok (.getfield 10, 3) := by decide +kernel
theorem dX7_append_4 : decode cX7_append 4 = .ok (.aload_n 1, 1) := by decide +kernel
theorem dX7_append_5 : decode cX7_append 5 = .ok (.invokevirtual 29, 3) := by decide +kernel
theorem dX7_append_8 : decode cX7_append 8 = .ok (.pop, 1) := by decide +kernel
theorem dX7_append_9 : decode cX7_append 9 = .ok (.aload_n 0, 1) := by decide +kernel
theorem dX7_append_10 : decode cX7_append 10 = .ok (.getfield 21, 3) := by decide +kernel
theorem dX7_append_13 : decode cX7_append 13 = .ok (.aload_n 1, 1) := by decide +kernel
theorem dX7_append_14 : decode cX7_append 14 = .ok (.getfield 33, 3) := by decide +kernel
theorem dX7_append_17 : decode cX7_append 17 = .ok (.i2l, 1) := by decide +kernel
theorem dX7_append_18 : decode cX7_append 18 = .ok (.aload_n 1, 1) := by decide +kernel
theorem dX7_append_19 : decode cX7_append 19 = .ok (.getfield 38, 3) := by decide +kernel
theorem dX7_append_22 : decode cX7_append 22 = .ok (.i2l, 1) := by decide +kernel
theorem dX7_append_23 : decode cX7_append 23 = .ok (.invokevirtual 41, 3) := by decide +kernel
theorem dX7_append_26 : decode cX7_append 26 = .ok (.return_, 1) := by decide +kernel
theorem dX7_distance_0 : decode cX7_distance 0 = .ok (.iconst 0, 1) := by decide +kernel
theorem dX7_distance_1 : decode cX7_distance 1 = .ok (.istore_n 1, 1) := by decide +kernel
theorem dX7_distance_2 : decode cX7_distance 2 = .ok (.iconst 0, 1) := by decide +kernel
theorem dX7_distance_3 : decode cX7_distance 3 = .ok (.istore_n 2, 1) := by decide +kernel
theorem dX7_distance_4 : decode cX7_distance 4 = .ok (.iload_n 2, 1) := by decide +kernel
theorem dX7_distance_5 : decode cX7_distance 5 = .ok (.aload_n 0, 1) := by decide +kernel
theorem dX7_distance_6 : decode cX7_distance 6 = .ok (.getfield 10, 3) := by decide +kernel
theorem dX7_distance_9 : decode cX7_distance 9 = .ok (.invokevirtual 45, 3) := by decide +kernel
theorem dX7_distance_12 : decode cX7_distance 12 = .ok (.if_icmp .ge 38, 3) := by decide +kernel
theorem dX7_distance_15 : decode cX7_distance 15 = .ok (.aload_n 0, 1) := by decide +kernel
theorem dX7_distance_16 : decode cX7_distance 16 = .ok (.getfield 10, 3) := by decide +kernel
theorem dX7_distance_19 : decode cX7_distance 19 = .ok (.iload_n 2, 1) := by decide +kernel
theorem dX7_distance_20 : decode cX7_distance 20 = .ok (.invokevirtual 49, 3) := by decide +kernel
theorem dX7_distance_23 : decode cX7_distance 23 = .ok (.checkcast 34, 3) := by decide +kernel
theorem dX7_distance_26 : decode cX7_distance 26 = .ok (.astore_n 3, 1) := by decide +kernel
theorem dX7_distance_27 : decode cX7_distance 27 = .ok (.iload_n 1, 1) := by decide +kernel
theorem dX7_distance_28 : decode cX7_distance 28 = .ok (.aload_n 3, 1) := by decide +kernel
theorem dX7_distance_29 : decode cX7_distance 29 = .ok (.getfield 53, 3) := by decide +kernel
theorem dX7_distance_32 : decode cX7_distance 32 = .ok (.aload_n 3, 1) := by decide +kernel
theorem dX7_distance_33 : decode cX7_distance 33 = .ok (.getfield 38, 3) := by decide +kernel
theorem dX7_distance_36 : decode cX7_distance 36 = .ok (.aload_n 3, 1) := by decide +kernel
theorem dX7_distance_37 : decode cX7_distance 37 = .ok (.getfield 33, 3) := by decide +kernel
theorem dX7_distance_40 : decode cX7_distance 40 = .ok (.iadd, 1) := by decide +kernel
theorem dX7_distance_41 : decode cX7_distance 41 = .ok (.imul, 1) := by decide +kernel
theorem dX7_distance_42 : decode cX7_distance 42 = .ok (.iadd, 1) := by decide +kernel
theorem dX7_distance_43 : decode cX7_distance 43 = .ok (.istore_n 1, 1) := by decide +kernel
theorem dX7_distance_44 : decode cX7_distance 44 = .ok (.iinc 2 1, 3) := by decide +kernel
theorem dX7_distance_47 : decode cX7_distance 47 = .ok (.goto (-43), 3) := by decide +kernel
theorem dX7_distance_50 : decode cX7_distance 50 = .ok (.iload_n 1, 1) := by decide +kernel
theorem dX7_distance_51 : decode cX7_distance 51 = .ok (.ireturn, 1) := by decide +kernel
theorem dX8_init_0 : decode cX8_init 0 = .ok (.aload_n 0, 1) := by decide +kernel
theorem dX8_init_1 : decode cX8_init 1 = .ok (.invokespecial 1, 3) := by decide +kernel
theorem dX8_init_4 : decode cX8_init 4 = .ok (.aload_n 0, 1) := by decide +kernel
theorem dX8_init_5 : decode cX8_init 5 = .ok (.new 7, 3) := by decide +kernel
theorem dX8_init_8 : decode cX8_init 8 = .ok (.dup, 1) := by decide +kernel
theorem dX8_init_9 : decode cX8_init 9 = .ok (.invokespecial 9, 3) := by decide +kernel
theorem dX8_init_12 : decode cX8_init 12 = .ok (.putfield 10, 3) := by decide +kernel
theorem dX8_init_15 : decode cX8_init 15 = .ok (.aload_n 0, 1) := by decide +kernel
theorem dX8_init_16 : decode cX8_init 16 = .ok (.new 7, 3) := by decide +kernel
theorem dX8_init_19 : decode cX8_init 19 = .ok (.dup, 1) := by decide +kernel
theorem dX8_init_20 : decode cX8_init 20 = .ok (.invokespecial 9, 3) := by decide +kernel
theorem dX8_init_23 : decode cX8_init 23 = .ok (.putfield 16, 3) := by decide +kernel
theorem dX8_init_26 : decode cX8_init 26 = .ok (.aload_n 0, 1) := by decide +kernel
theorem dX8_init_27 : decode cX8_init 27 = .ok (.new 7, 3) := by decide +kernel
theorem dX8_init_30 : decode cX8_init 30 = .ok (.dup, 1) := by decide +kernel
theorem dX8_init_31 : decode cX8_init 31 = .ok (.invokespecial 9, 3) := by decide +kernel
theorem dX8_init_34 : decode cX8_init 34 = .ok (.putfield 19, 3) := by decide +kernel
theorem dX8_init_37 : decode cX8_init 37 = .ok (.aload_n 0, 1) := by decide +kernel
theorem dX8_init_38 : decode cX8_init 38 = .ok (.new 7, 3) := by decide +kernel
theorem dX8_init_41 : decode cX8_init 41 = .ok (.dup, 1) := by decide +kernel
theorem dX8_init_42 : decode cX8_init 42 = .ok (.invokespecial 9, 3) := by decide +kernel
theorem dX8_init_45 : decode cX8_init 45 = .ok (.putfield 22, 3) := by decide +kernel
theorem dX8_init_48 : decode cX8_init 48 = .ok (.aload_n 0, 1) := by decide +kernel
theorem dX8_init_49 : decode cX8_init 49 = .ok (.new 7, 3) := by decide +kernel
theorem dX8_init_52 : decode cX8_init 52 = .ok (.dup, 1) := by decide +kernel
theorem dX8_init_53 : decode cX8_init 53 = .ok (.invokespecial 9, 3) := by decide +kernel
theorem dX8_init_56 : decode cX8_init 56 = .ok (.putfield 25, 3) := by decide +kernel
theorem dX8_init_59 : decode cX8_init 59 = .ok (.aload_n 0, 1) := by decide +kernel
theorem dX8_init_60 : decode cX8_init 60 = .ok (.new 28, 3) := by decide +kernel
theorem dX8_init_63 : decode cX8_init 63 = .ok (.dup, 1) := by decide +kernel
theorem dX8_init_64 : decode cX8_init 64 = .ok (.invokespecial 30, 3) := by decide +kernel
theorem dX8_init_67 : decode cX8_init 67 = .ok (.putfield 31, 3) := by decide +kernel
theorem dX8_init_70 : decode cX8_init 70 = .ok (.aload_n 0, 1) := by decide +kernel
theorem dX8_init_71 : decode cX8_init 71 = .ok (.iconst 0, 1) := by decide +kernel
theorem dX8_init_72 : decode cX8_init 72 = .ok (.putfield 35, 3) := by decide +kernel
theorem dX8_init_75 : decode cX8_init 75 = .ok (.iconst 0, 1) := by decide +kernel
theorem dX8_init_76 : decode cX8_init 76 = .ok (.istore_n 1, 1) := by decide +kernel
theorem dX8_init_77 : decode cX8_init 77 = .ok (.iload_n 1, 1) := by decide +kernel
theorem dX8_init_78 : decode cX8_init 78 = .ok (.iconst 3, 1) := by decide +kernel
theorem dX8_init_79 : decode cX8_init 79 = .ok (.if_icmp .ge 24, 3) := by decide +kernel
theorem dX8_init_82 : decode cX8_init 82 = .ok (.aload_n 0, 1) := by decide +kernel
theorem dX8_init_83 : decode cX8_init 83 = .ok (.getfield 22, 3) := by decide +kernel
theorem dX8_init_86 : decode cX8_init 86 = .ok (.new 39, 3) := by decide +kernel
theorem dX8_init_89 : decode cX8_init 89 = .ok (.dup, 1) := by decide +kernel
theorem dX8_init_90 : decode cX8_init 90 = .ok (.invokespecial 41, 3) := by decide +kernel
theorem dX8_init_93 : decode cX8_init 93 = .ok (.invokevirtual 42, 3) := by decide +kernel
theorem dX8_init_96 : decode cX8_init 96 = .ok (.pop, 1) := by decide +kernel
theorem dX8_init_97 : decode cX8_init 97 = .ok (.iinc 1 1, 3) := by decide +kernel
theorem dX8_init_100 : decode cX8_init 100 = .ok (.goto (-23), 3) := by decide +kernel
theorem dX8_init_103 : decode cX8_init 103 = .ok (.return_, 1) := by decide +kernel
theorem dX8_addCutter_0 : decode cX8_addCutter 0 = .ok (.iload_n 1, 1) := by decide +kernel
theorem dX8_addCutter_1 : decode cX8_addCutter 1 = .ok (.invokestatic 46, 3) := by decide +kernel
theorem dX8_addCutter_4 : decode cX8_addCutter 4 = .ok (.ifCond .ne 20, 3) := by decide +kernel
theorem dX8_addCutter_7 : decode cX8_addCutter 7 = .ok (.iload_n 2, 1) := by decide +kernel
theorem dX8_addCutter_8 : decode cX8_addCutter 8 = .ok (.invokestatic 50, 3) := by decide +kernel
theorem dX8_addCutter_11 : decode cX8_addCutter 11 = .ok (.ifCond .ne 13, 3) := by decide +kernel
theorem dX8_addCutter_14 : decode cX8_addCutter 14 = .ok (.iload_n 3, 1) := by decide +kernel
theorem dX8_addCutter_15 : decode cX8_addCutter 15 = .ok (.iload_n 2, 1) := by decide +kernel
theorem dX8_addCutter_16 : decode cX8_addCutter 16 = .ok (.bipush 60, 2) := by decide +kernel
theorem dX8_addCutter_18 : decode cX8_addCutter 18 = .ok (.invokestatic 53, 3) := by decide +kernel
theorem dX8_addCutter_21 : decode cX8_addCutter 21 = .ok (.ifCond .eq 13, 3) := by decide +kernel
theorem dX8_addCutter_24 : decode cX8_addCutter 24 = .ok (.new 57, 3) := by decide +kernel
theorem dX8_addCutter_27 : decode cX8_addCutter 27 = .ok (.dup, 1) := by decide +kernel
theorem dX8_addCutter_28 : decode cX8_addCutter 28 = .ok (.ldc 59, 2) := by decide +kernel
theorem dX8_addCutter_30 : decode cX8_addCutter 30 = .ok (.invokespecial 61, 3) := by decide +kernel
theorem dX8_addCutter_33 : decode cX8_addCutter 33 = .ok (.athrow, 1) := by decide +kernel
theorem dX8_addCutter_34 : decode cX8_addCutter 34 = .ok (.aload_n 0, 1) := by decide +kernel
theorem dX8_addCutter_35 : decode cX8_addCutter 35 = .ok (.getfield 10, 3) := by decide +kernel
theorem dX8_addCutter_38 : decode cX8_addCutter 38 = .ok (.invokevirtual 64, 3) := by decide +kernel
theorem dX8_addCutter_41 : decode cX8_addCutter 41 = .ok (.bipush 10, 2) := by decide +kernel
theorem dX8_addCutter_43 : decode cX8_addCutter 43 = .ok (.if_icmp .lt 13, 3) := by decide +kernel
theorem dX8_addCutter_46 : decode cX8_addCutter 46 = .ok (.new 68, 3) := by decide +kernel
theorem dX8_addCutter_49 : decode cX8_addCutter 49 = .ok (.dup, 1) := by decide +kernel
theorem dX8_addCutter_50 : decode cX8_addCutter 50 = .ok (.ldc 70, 2) := by decide +kernel
theorem dX8_addCutter_52 : decode cX8_addCutter 52 = .ok (.invokespecial 72, 3) := by decide +kernel
theorem dX8_addCutter_55 : decode cX8_addCutter 55 = .ok (.athrow, 1) := by decide +kernel
theorem dX8_addCutter_56 : decode cX8_addCutter 56 = .ok (.aload_n 0, 1) := by decide +kernel
theorem dX8_addCutter_57 : decode cX8_addCutter 57 = .ok (.getfield 10, 3) := by decide +kernel
theorem dX8_addCutter_60 : decode cX8_addCutter 60 = .ok (.new 73, 3) := by decide +kernel
theorem dX8_addCutter_63 : decode cX8_addCutter 63 = .ok (.dup, 1) := by decide +kernel
theorem dX8_addCutter_64 : decode cX8_addCutter 64 = .ok (.iload_n 1, 1) := by decide +kernel
theorem dX8_addCutter_65 : decode cX8_addCutter 65 = .ok (.iload_n 2, 1) := by decide +kernel
theorem dX8_addCutter_66 : decode cX8_addCutter 66 = .ok (.iload_n 3, 1) := by decide +kernel
theorem dX8_addCutter_67 : decode cX8_addCutter 67 = .ok (.invokespecial 75, 3) := by decide +kernel
theorem dX8_addCutter_70 : decode cX8_addCutter 70 = .ok (.invokevirtual 42, 3) := by decide +kernel
theorem dX8_addCutter_73 : decode cX8_addCutter 73 = .ok (.pop, 1) := by decide +kernel
theorem dX8_addCutter_74 : decode cX8_addCutter 74 = .ok (.aload_n 0, 1) := by decide +kernel
theorem dX8_addCutter_75 : decode cX8_addCutter 75 = .ok (.getfield 10, 3) := by decide +kernel
theorem dX8_addCutter_78 : decode cX8_addCutter 78 = .ok (.invokevirtual 64, 3) := by decide +kernel
theorem dX8_addCutter_81 : decode cX8_addCutter 81 = .ok (.iconst 1, 1) := by decide +kernel
theorem dX8_addCutter_82 : decode cX8_addCutter 82 = .ok (.isub, 1) := by decide +kernel
theorem dX8_addCutter_83 : decode cX8_addCutter 83 = .ok (.ireturn, 1) := by decide +kernel
theorem dX8_cutterFor_0 : decode cX8_cutterFor 0 = .ok (.iload_n 1, 1) := by decide +kernel
theorem dX8_cutterFor_1 : decode cX8_cutterFor 1 = .ok (.invokestatic 46, 3) := by decide +kernel
theorem dX8_cutterFor_4 : decode cX8_cutterFor 4 = .ok (.ifCond .ne 10, 3) := by decide +kernel
theorem dX8_cutterFor_7 : decode cX8_cutterFor 7 = .ok (.iload_n 2, 1) := by decide +kernel
theorem dX8_cutterFor_8 : decode cX8_cutterFor 8 = .ok (.invokestatic 50, 3) := by decide +kernel
theorem dX8_cutterFor_11 : decode cX8_cutterFor 11 = .ok (.ifCond .eq 13, 3) := by decide +kernel
theorem dX8_cutterFor_14 : decode cX8_cutterFor 14 = .ok (.new 57, 3) := by decide +kernel
theorem dX8_cutterFor_17 : decode cX8_cutterFor 17 = .ok (.dup, 1) := by decide +kernel
theorem dX8_cutterFor_18 : decode cX8_cutterFor 18 = .ok (.ldc 78, 2) := by decide +kernel
theorem dX8_cutterFor_20 : decode cX8_cutterFor 20 = .ok (.invokespecial 61, 3) := by decide +kernel
theorem dX8_cutterFor_23 : decode cX8_cutterFor 23 = .ok (.athrow, 1) := by decide +kernel
theorem dX8_cutterFor_24 : decode cX8_cutterFor 24 = .ok (.aload_n 0, 1) := by decide +kernel
theorem dX8_cutterFor_25 : decode cX8_cutterFor 25 = .ok (.iload_n 1, 1) := by decide +kernel
theorem dX8_cutterFor_26 : decode cX8_cutterFor 26 = .ok (.iload_n 2, 1) := by decide +kernel
theorem dX8_cutterFor_27 : decode cX8_cutterFor 27 = .ok (.invokevirtual 80, 3) := by decide +kernel
theorem dX8_cutterFor_30 : decode cX8_cutterFor 30 = .ok (.ireturn, 1) := by decide +kernel
theorem dX8_stage_0 : decode cX8_stage 0 = .ok (.iload_n 1, 1) := by decide +kernel
theorem dX8_stage_1 : decode cX8_stage 1 = .ok (.invokestatic 46, 3) := by decide +kernel
theorem dX8_stage_4 : decode cX8_stage 4 = .ok (.ifCond .ne 17, 3) := by decide +kernel
theorem dX8_stage_7 : decode cX8_stage 7 = .ok (.iload_n 2, 1) := by decide +kernel
theorem dX8_stage_8 : decode cX8_stage 8 = .ok (.invokestatic 50, 3) := by decide +kernel
theorem dX8_stage_11 : decode cX8_stage 11 = .ok (.ifCond .ne 10, 3) := by decide +kernel
theorem dX8_stage_14 : decode cX8_stage 14 = .ok (.iload_n 3, 1) := by decide +kernel
theorem dX8_stage_15 : decode cX8_stage 15 = .ok (.invokestatic 50, 3) := by decide +kernel
theorem dX8_stage_18 : decode cX8_stage 18 = .ok (.ifCond .eq 13, 3) := by decide +kernel
theorem dX8_stage_21 : decode cX8_stage 21 = .ok (.new 57, 3) := by decide +kernel
theorem dX8_stage_24 : decode cX8_stage 24 = .ok (.dup, 1) := by decide +kernel
theorem dX8_stage_25 : decode cX8_stage 25 = .ok (.ldc 84, 2) := by decide +kernel
theorem dX8_stage_27 : decode cX8_stage 27 = .ok (.invokespecial 61, 3) := by decide +kernel
theorem dX8_stage_30 : decode cX8_stage 30 = .ok (.athrow, 1) := by decide +kernel
theorem dX8_stage_31 : decode cX8_stage 31 = .ok (.aload_n 0, 1) := by decide +kernel
theorem dX8_stage_32 : decode cX8_stage 32 = .ok (.getfield 31, 3) := by decide +kernel
theorem dX8_stage_35 : decode cX8_stage 35 = .ok (.getfield 86, 3) := by decide +kernel
theorem dX8_stage_38 : decode cX8_stage 38 = .ok (.invokevirtual 64, 3) := by decide +kernel
theorem dX8_stage_41 : decode cX8_stage 41 = .ok (.iconst 4, 1) := by decide +kernel
theorem dX8_stage_42 : decode cX8_stage 42 = .ok (.if_icmp .lt 13, 3) := by decide +kernel
theorem dX8_stage_45 : decode cX8_stage 45 = .ok (.new 68, 3) := by decide +kernel
theorem dX8_stage_48 : decode cX8_stage 48 = .ok (.dup, 1) := by decide +kernel
theorem dX8_stage_49 : decode cX8_stage 49 = .ok (.ldc 89, 2) := by decide +kernel
theorem dX8_stage_51 : decode cX8_stage 51 = .ok (.invokespecial 72, 3) := by decide +kernel
theorem dX8_stage_54 : decode cX8_stage 54 = .ok (.athrow, 1) := by decide +kernel
theorem dX8_stage_55 : decode cX8_stage 55 = .ok (.aload_n 0, 1) := by decide +kernel
theorem dX8_stage_56 : decode cX8_stage 56 = .ok (.getfield 31, 3) := by decide +kernel
theorem dX8_stage_59 : decode cX8_stage 59 = .ok (.new 91, 3) := by decide +kernel
theorem dX8_stage_62 : decode cX8_stage 62 = .ok (.dup, 1) := by decide +kernel
theorem dX8_stage_63 : decode cX8_stage 63 = .ok (.iload_n 1, 1) := by decide +kernel
theorem dX8_stage_64 : decode cX8_stage 64 = .ok (.iload_n 2, 1) := by decide +kernel
theorem dX8_stage_65 : decode cX8_stage 65 = .ok (.iload_n 3, 1) := by decide +kernel
theorem dX8_stage_66 : decode cX8_stage 66 = .ok (.invokespecial 93, 3) := by decide +kernel
theorem dX8_stage_69 : decode cX8_stage 69 = .ok (.invokevirtual 94, 3) := by decide +kernel
theorem dX8_stage_72 : decode cX8_stage 72 = .ok (.aload_n 0, 1) := by decide +kernel
theorem dX8_stage_73 : decode cX8_stage 73 = .ok (.getfield 31, 3) := by decide +kernel
theorem dX8_stage_76 : decode cX8_stage 76 = .ok (.invokevirtual 98, 3) := by decide +kernel
theorem dX8_stage_79 : decode cX8_stage 79 = .ok (.ireturn, 1) := by decide +kernel
theorem dX8_scrap_0 : decode cX8_scrap 0 = .ok (.aload_n 0, 1) := by decide +kernel
theorem dX8_scrap_1 : decode cX8_scrap 1 = .ok (.getfield 31, 3) := by decide +kernel
theorem dX8_scrap_4 : decode cX8_scrap 4 = .ok (.getfield 86, 3) := by decide +kernel
theorem dX8_scrap_7 : decode cX8_scrap 7 = .ok (.invokevirtual 64, 3) := by decide +kernel
theorem dX8_scrap_10 : decode cX8_scrap 10 = .ok (.istore_n 1, 1) := by decide +kernel
theorem dX8_scrap_11 : decode cX8_scrap 11 = .ok (.aload_n 0, 1) := by decide +kernel
theorem dX8_scrap_12 : decode cX8_scrap 12 = .ok (.new 28, 3) := by decide +kernel
theorem dX8_scrap_15 : decode cX8_scrap 15 = .ok (.dup, 1) := by decide +kernel
theorem dX8_scrap_16 : decode cX8_scrap 16 = .ok (.invokespecial 30, 3) := by decide +kernel
theorem dX8_scrap_19 : decode cX8_scrap 19 = .ok (.putfield 31, 3) := by decide +kernel
theorem dX8_scrap_22 : decode cX8_scrap 22 = .ok (.iload_n 1, 1) := by decide +kernel
theorem dX8_scrap_23 : decode cX8_scrap 23 = .ok (.ireturn, 1) := by decide +kernel
theorem dX8_make_0 : decode cX8_make 0 = .ok (.aload_n 0, 1) := by decide +kernel
theorem dX8_make_1 : decode cX8_make 1 = .ok (.getfield 31, 3) := by decide +kernel
theorem dX8_make_4 : decode cX8_make 4 = .ok (.getfield 86, 3) := by decide +kernel
theorem dX8_make_7 : decode cX8_make 7 = .ok (.invokevirtual 101, 3) := by decide +kernel
theorem dX8_make_10 : decode cX8_make 10 = .ok (.ifCond .eq 13, 3) := by decide +kernel
theorem dX8_make_13 : decode cX8_make 13 = .ok (.new 68, 3) := by decide +kernel
theorem dX8_make_16 : decode cX8_make 16 = .ok (.dup, 1) := by decide +kernel
theorem dX8_make_17 : decode cX8_make 17 = .ok (.ldc 105, 2) := by decide +kernel
theorem dX8_make_19 : decode cX8_make 19 = .ok (.invokespecial 72, 3) := by decide +kernel
theorem dX8_make_22 : decode cX8_make 22 = .ok (.athrow, 1) := by decide +kernel
theorem dX8_make_23 : decode cX8_make 23 = .ok (.aload_n 0, 1) := by decide +kernel
theorem dX8_make_24 : decode cX8_make 24 = .ok (.getfield 31, 3) := by decide +kernel
theorem dX8_make_27 : decode cX8_make 27 = .ok (.invokevirtual 98, 3) := by decide +kernel
theorem dX8_make_30 : decode cX8_make 30 = .ok (.iload_n 1, 1) := by decide +kernel
theorem dX8_make_31 : decode cX8_make 31 = .ok (.if_icmp .eq 13, 3) := by decide +kernel
theorem dX8_make_34 : decode cX8_make 34 = .ok (.new 68, 3) := by decide +kernel
theorem dX8_make_37 : decode cX8_make 37 = .ok (.dup, 1) := by decide +kernel
theorem dX8_make_38 : decode cX8_make 38 = .ok (.ldc 107, 2) := by decide +kernel
theorem dX8_make_40 : decode cX8_make 40 = .ok (.invokespecial 72, 3) := by decide +kernel
theorem dX8_make_43 : decode cX8_make 43 = .ok (.athrow, 1) := by decide +kernel
theorem dX8_make_44 : decode cX8_make 44 = .ok (.aload_n 0, 1) := by decide +kernel
theorem dX8_make_45 : decode cX8_make 45 = .ok (.aload_n 0, 1) := by decide +kernel
theorem dX8_make_46 : decode cX8_make 46 = .ok (.getfield 31, 3) := by decide +kernel
theorem dX8_make_49 : decode cX8_make 49 = .ok (.invokevirtual 109, 3) := by decide +kernel
theorem dX8_make_52 : decode cX8_make 52 = .ok (.ifCond .ne 13, 3) := by decide +kernel
theorem dX8_make_55 : decode cX8_make 55 = .ok (.new 68, 3) := by decide +kernel
theorem dX8_make_58 : decode cX8_make 58 = .ok (.dup, 1) := by decide +kernel
theorem dX8_make_59 : decode cX8_make 59 = .ok (.ldc 113, 2) := by decide +kernel
theorem dX8_make_61 : decode cX8_make 61 = .ok (.invokespecial 72, 3) := by decide +kernel
theorem dX8_make_64 : decode cX8_make 64 = .ok (.athrow, 1) := by decide +kernel
theorem dX8_make_65 : decode cX8_make 65 = .ok (.aload_n 0, 1) := by decide +kernel
theorem dX8_make_66 : decode cX8_make 66 = .ok (.getfield 16, 3) := by decide +kernel
theorem dX8_make_69 : decode cX8_make 69 = .ok (.invokevirtual 64, 3) := by decide +kernel
theorem dX8_make_72 : decode cX8_make 72 = .ok (.bipush 8, 2) := by decide +kernel
theorem dX8_make_74 : decode cX8_make 74 = .ok (.if_icmp .lt 13, 3) := by decide +kernel
theorem dX8_make_77 : decode cX8_make 77 = .ok (.new 68, 3) := by decide +kernel
theorem dX8_make_80 : decode cX8_make 80 = .ok (.dup, 1) := by decide +kernel
theorem dX8_make_81 : decode cX8_make 81 = .ok (.ldc 115, 2) := by decide +kernel
theorem dX8_make_83 : decode cX8_make 83 = .ok (.invokespecial 72, 3) := by decide +kernel
theorem dX8_make_86 : decode cX8_make 86 = .ok (.athrow, 1) := by decide +kernel
theorem dX8_make_87 : decode cX8_make 87 = .ok (.aload_n 0, 1) := by decide +kernel
theorem dX8_make_88 : decode cX8_make 88 = .ok (.getfield 16, 3) := by decide +kernel
theorem dX8_make_91 : decode cX8_make 91 = .ok (.aload_n 0, 1) := by decide +kernel
theorem dX8_make_92 : decode cX8_make 92 = .ok (.getfield 31, 3) := by decide +kernel
theorem dX8_make_95 : decode cX8_make 95 = .ok (.invokevirtual 42, 3) := by decide +kernel
theorem dX8_make_98 : decode cX8_make 98 = .ok (.pop, 1) := by decide +kernel
theorem dX8_make_99 : decode cX8_make 99 = .ok (.aload_n 0, 1) := by decide +kernel
theorem dX8_make_100 : decode cX8_make 100 = .ok (.new 28, 3) := by decide +kernel
theorem dX8_make_103 : decode cX8_make 103 = .ok (.dup, 1) := by decide +kernel
theorem dX8_make_104 : decode cX8_make 104 = .ok (.invokespecial 30, 3) := by decide +kernel
theorem dX8_make_107 : decode cX8_make 107 = .ok (.putfield 31, 3) := by decide +kernel
theorem dX8_make_110 : decode cX8_make 110 = .ok (.aload_n 0, 1) := by decide +kernel
theorem dX8_make_111 : decode cX8_make 111 = .ok (.getfield 16, 3) := by decide +kernel
theorem dX8_make_114 : decode cX8_make 114 = .ok (.invokevirtual 64, 3) := by decide +kernel
theorem dX8_make_117 : decode cX8_make 117 = .ok (.iconst 1, 1) := by decide +kernel
theorem dX8_make_118 : decode cX8_make 118 = .ok (.isub, 1) := by decide +kernel
theorem dX8_make_119 : decode cX8_make 119 = .ok (.ireturn, 1) := by decide +kernel
theorem dX8_numerator_0 : decode cX8_numerator 0 = .ok (.aload_n 0, 1) := by decide +kernel
theorem dX8_numerator_1 : decode cX8_numerator 1 = .ok (.iload_n 1, 1) := by decide +kernel
theorem dX8_numerator_2 : decode cX8_numerator 2 = .ok (.invokevirtual 117, 3) := by decide +kernel
theorem dX8_numerator_5 : decode cX8_numerator 5 = .ok (.getfield 121, 3) := by decide +kernel
theorem dX8_numerator_8 : decode cX8_numerator 8 = .ok (.getfield 125, 3) := by decide +kernel
theorem dX8_numerator_11 : decode cX8_numerator 11 = .ok (.l2i, 1) := by decide +kernel
theorem dX8_numerator_12 : decode cX8_numerator 12 = .ok (.ireturn, 1) := by decide +kernel
theorem dX8_denominator_0 : decode cX8_denominator 0 = .ok (.aload_n 0, 1) := by decide +kernel
theorem dX8_denominator_1 : decode cX8_denominator 1 = .ok (.iload_n 1, 1) := by decide +kernel
theorem dX8_denominator_2 : decode cX8_denominator 2 = .ok (.invokevirtual 117, 3) := by decide +kernel
theorem dX8_denominator_5 : decode cX8_denominator 5 = .ok (.getfield 121, 3) := by decide +kernel
theorem dX8_denominator_8 : decode cX8_denominator 8 = .ok (.getfield 131, 3) := by decide +kernel
theorem dX8_denominator_11 : decode cX8_denominator 11 = .ok (.l2i, 1) := by decide +kernel
theorem dX8_denominator_12 : decode cX8_denominator 12 = .ok (.ireturn, 1) := by decide +kernel
theorem dX8_turned_0 : decode cX8_turned 0 = .ok (.aload_n 0, 1) := by decide +kernel
theorem dX8_turned_1 : decode cX8_turned 1 = .ok (.iload_n 1, 1) := by decide +kernel
theorem dX8_turned_2 : decode cX8_turned 2 = .ok (.invokevirtual 117, 3) := by decide +kernel
theorem dX8_turned_5 : decode cX8_turned 5 = .ok (.getfield 121, 3) := by decide +kernel
theorem dX8_turned_8 : decode cX8_turned 8 = .ok (.astore_n 3, 1) := by decide +kernel
theorem dX8_turned_9 : decode cX8_turned 9 = .ok (.iload_n 2, 1) := by decide +kernel
theorem dX8_turned_10 : decode cX8_turned 10 = .ok (.invokestatic 134, 3) := by decide +kernel
theorem dX8_turned_13 : decode cX8_turned 13 = .ok (.new 126, 3) := by decide +kernel
theorem dX8_turned_16 : decode cX8_turned 16 = .ok (.dup, 1) := by decide +kernel
theorem dX8_turned_17 : decode cX8_turned 17 = .ok (.iload_n 2, 1) := by decide +kernel
theorem dX8_turned_18 : decode cX8_turned 18 = .ok (.i2l, 1) := by decide +kernel
theorem dX8_turned_19 : decode cX8_turned 19 = .ok (.invokespecial 138, 3) := by decide +kernel
theorem dX8_turned_22 : decode cX8_turned 22 = .ok (.astore 4, 2) := by decide +kernel
theorem dX8_turned_24 : decode cX8_turned 24 = .ok (.aload 4, 2) := by decide +kernel
theorem dX8_turned_26 : decode cX8_turned 26 = .ok (.aload_n 3, 1) := by decide +kernel
theorem dX8_turned_27 : decode cX8_turned 27 = .ok (.getfield 131, 3) := by decide +kernel
theorem dX8_turned_30 : decode cX8_turned 30 = .ok (.aload_n 3, 1) := by decide +kernel
theorem dX8_turned_31 : decode cX8_turned 31 = .ok (.getfield 125, 3) := by decide +kernel
theorem dX8_turned_34 : decode cX8_turned 34 = .ok (.invokevirtual 141, 3) := by decide +kernel
theorem dX8_turned_37 : decode cX8_turned 37 = .ok (.aload 4, 2) := by decide +kernel
theorem dX8_turned_39 : decode cX8_turned 39 = .ok (.invokevirtual 145, 3) := by decide +kernel
theorem dX8_turned_42 : decode cX8_turned 42 = .ok (.ireturn, 1) := by decide +kernel
theorem dX8_turnedByWalk_0 : decode cX8_turnedByWalk 0 = .ok (.aload_n 0, 1) := by decide +kernel
theorem dX8_turnedByWalk_1 : decode cX8_turnedByWalk 1 = .ok (.iload_n 1, 1) := by decide +kernel
theorem dX8_turnedByWalk_2 : decode cX8_turnedByWalk 2 = .ok (.invokevirtual 117, 3) := by decide +kernel
theorem dX8_turnedByWalk_5 : decode cX8_turnedByWalk 5 = .ok (.getfield 86, 3) := by decide +kernel
theorem dX8_turnedByWalk_8 : decode cX8_turnedByWalk 8 = .ok (.astore_n 3, 1) := by decide +kernel
theorem dX8_turnedByWalk_9 : decode cX8_turnedByWalk 9 = .ok (.iload_n 2, 1) := by decide +kernel
theorem dX8_turnedByWalk_10 : decode cX8_turnedByWalk 10 = .ok (.invokestatic 134, 3) := by decide +kernel
theorem dX8_turnedByWalk_13 : decode cX8_turnedByWalk 13 = .ok (.new 126, 3) := by decide +kernel
theorem dX8_turnedByWalk_16 : decode cX8_turnedByWalk 16 = .ok (.dup, 1) := by decide +kernel
theorem dX8_turnedByWalk_17 : decode cX8_turnedByWalk 17 = .ok (.iload_n 2, 1) := by decide +kernel
theorem dX8_turnedByWalk_18 : decode cX8_turnedByWalk 18 = .ok (.i2l, 1) := by decide +kernel
theorem dX8_turnedByWalk_19 : decode cX8_turnedByWalk 19 = .ok (.invokespecial 138, 3) := by decide +kernel
theorem dX8_turnedByWalk_22 : decode cX8_turnedByWalk 22 = .ok (.astore 4, 2) := by decide +kernel
theorem dX8_turnedByWalk_24 : decode cX8_turnedByWalk 24 = .ok (.iconst 0, 1) := by decide +kernel
theorem dX8_turnedByWalk_25 : decode cX8_turnedByWalk 25 = .ok (.istore 5, 2) := by decide +kernel
theorem dX8_turnedByWalk_27 : decode cX8_turnedByWalk 27 = .ok (.iload 5, 2) := by decide +kernel
theorem dX8_turnedByWalk_29 : decode cX8_turnedByWalk 29 = .ok (.aload_n 3, 1) := by decide +kernel
theorem dX8_turnedByWalk_30 : decode cX8_turnedByWalk 30 = .ok (.invokevirtual 64, 3) := by decide +kernel
theorem dX8_turnedByWalk_33 : decode cX8_turnedByWalk 33 = .ok (.if_icmp .ge 40, 3) := by decide +kernel
theorem dX8_turnedByWalk_36 : decode cX8_turnedByWalk 36 = .ok (.aload 4, 2) := by decide +kernel
theorem dX8_turnedByWalk_38 : decode cX8_turnedByWalk 38 = .ok (.aload_n 3, 1) := by decide +kernel
theorem dX8_turnedByWalk_39 : decode cX8_turnedByWalk 39 = .ok (.iload 5, 2) := by decide +kernel
theorem dX8_turnedByWalk_41 : decode cX8_turnedByWalk 41 = .ok (.invokevirtual 148, 3) := by decide +kernel
theorem dX8_turnedByWalk_44 : decode cX8_turnedByWalk 44 = .ok (.checkcast 91, 3) := by decide +kernel
theorem dX8_turnedByWalk_47 : decode cX8_turnedByWalk 47 = .ok (.getfield 152, 3) := by decide +kernel
theorem dX8_turnedByWalk_50 : decode cX8_turnedByWalk 50 = .ok (.i2l, 1) := by decide +kernel
theorem dX8_turnedByWalk_51 : decode cX8_turnedByWalk 51 = .ok (.aload_n 3, 1) := by decide +kernel
theorem dX8_turnedByWalk_52 : decode cX8_turnedByWalk 52 = .ok (.iload 5, 2) := by decide +kernel
theorem dX8_turnedByWalk_54 : decode cX8_turnedByWalk 54 = .ok (.invokevirtual 148, 3) := by decide +kernel
theorem dX8_turnedByWalk_57 : decode cX8_turnedByWalk 57 = .ok (.checkcast 91, 3) := by decide +kernel
theorem dX8_turnedByWalk_60 : decode cX8_turnedByWalk 60 = .ok (.getfield 155, 3) := by decide +kernel
theorem dX8_turnedByWalk_63 : decode cX8_turnedByWalk 63 = .ok (.i2l, 1) := by decide +kernel
theorem dX8_turnedByWalk_64 : decode cX8_turnedByWalk 64 = .ok (.invokevirtual 141, 3) := by decide +kernel
theorem dX8_turnedByWalk_67 : decode cX8_turnedByWalk 67 = .ok (.iinc 5 1, 3) := by decide +kernel
theorem dX8_turnedByWalk_70 : decode cX8_turnedByWalk 70 = .ok (.goto (-43), 3) := by decide +kernel
theorem dX8_turnedByWalk_73 : decode cX8_turnedByWalk 73 = .ok (.aload 4, 2) := by decide +kernel
theorem dX8_turnedByWalk_75 : decode cX8_turnedByWalk 75 = .ok (.invokevirtual 145, 3) := by decide +kernel
theorem dX8_turnedByWalk_78 : decode cX8_turnedByWalk 78 = .ok (.ireturn, 1) := by decide +kernel
theorem dX8_order_0 : decode cX8_order 0 = .ok (.aload_n 0, 1) := by decide +kernel
theorem dX8_order_1 : decode cX8_order 1 = .ok (.iload_n 1, 1) := by decide +kernel
theorem dX8_order_2 : decode cX8_order 2 = .ok (.invokevirtual 117, 3) := by decide +kernel
theorem dX8_order_5 : decode cX8_order 5 = .ok (.astore_n 2, 1) := by decide +kernel
theorem dX8_order_6 : decode cX8_order 6 = .ok (.aload_n 0, 1) := by decide +kernel
theorem dX8_order_7 : decode cX8_order 7 = .ok (.getfield 19, 3) := by decide +kernel
theorem dX8_order_10 : decode cX8_order 10 = .ok (.invokevirtual 64, 3) := by decide +kernel
theorem dX8_order_13 : decode cX8_order 13 = .ok (.bipush 12, 2) := by decide +kernel
theorem dX8_order_15 : decode cX8_order 15 = .ok (.if_icmp .lt 13, 3) := by decide +kernel
theorem dX8_order_18 : decode cX8_order 18 = .ok (.new 68, 3) := by decide +kernel
theorem dX8_order_21 : decode cX8_order 21 = .ok (.dup, 1) := by decide +kernel
theorem dX8_order_22 : decode cX8_order 22 = .ok (.ldc 158, 2) := by decide +kernel
theorem dX8_order_24 : decode cX8_order 24 = .ok (.invokespecial 72, 3) := by decide +kernel
theorem dX8_order_27 : decode cX8_order 27 = .ok (.athrow, 1) := by decide +kernel
theorem dX8_order_28 : decode cX8_order 28 = .ok (.new 160, 3) := by decide +kernel
theorem dX8_order_31 : decode cX8_order 31 = .ok (.dup, 1) := by decide +kernel
theorem dX8_order_32 : decode cX8_order 32 = .ok (.aload_n 2, 1) := by decide +kernel
theorem dX8_order_33 : decode cX8_order 33 = .ok (.invokespecial 162, 3) := by decide +kernel
theorem dX8_order_36 : decode cX8_order 36 = .ok (.astore_n 3, 1) := by decide +kernel
theorem dX8_order_37 : decode cX8_order 37 = .ok (.aload_n 0, 1) := by decide +kernel
theorem dX8_order_38 : decode cX8_order 38 = .ok (.getfield 19, 3) := by decide +kernel
theorem dX8_order_41 : decode cX8_order 41 = .ok (.aload_n 3, 1) := by decide +kernel
theorem dX8_order_42 : decode cX8_order 42 = .ok (.invokevirtual 42, 3) := by decide +kernel
theorem dX8_order_45 : decode cX8_order 45 = .ok (.pop, 1) := by decide +kernel
theorem dX8_order_46 : decode cX8_order 46 = .ok (.iconst 0, 1) := by decide +kernel
theorem dX8_order_47 : decode cX8_order 47 = .ok (.istore 4, 2) := by decide +kernel
theorem dX8_order_49 : decode cX8_order 49 = .ok (.iload 4, 2) := by decide +kernel
theorem dX8_order_51 : decode cX8_order 51 = .ok (.aload_n 2, 1) := by decide +kernel
theorem dX8_order_52 : decode cX8_order 52 = .ok (.getfield 86, 3) := by decide +kernel
theorem dX8_order_55 : decode cX8_order 55 = .ok (.invokevirtual 64, 3) := by decide +kernel
theorem dX8_order_58 : decode cX8_order 58 = .ok (.if_icmp .ge 53, 3) := by decide +kernel
theorem dX8_order_61 : decode cX8_order 61 = .ok (.aload_n 2, 1) := by decide +kernel
theorem dX8_order_62 : decode cX8_order 62 = .ok (.getfield 86, 3) := by decide +kernel
theorem dX8_order_65 : decode cX8_order 65 = .ok (.iload 4, 2) := by decide +kernel
theorem dX8_order_67 : decode cX8_order 67 = .ok (.invokevirtual 148, 3) := by decide +kernel
theorem dX8_order_70 : decode cX8_order 70 = .ok (.checkcast 91, 3) := by decide +kernel
theorem dX8_order_73 : decode cX8_order 73 = .ok (.astore 5, 2) := by decide +kernel
theorem dX8_order_75 : decode cX8_order 75 = .ok (.aload_n 0, 1) := by decide +kernel
theorem dX8_order_76 : decode cX8_order 76 = .ok (.aload_n 3, 1) := by decide +kernel
theorem dX8_order_77 : decode cX8_order 77 = .ok (.aload 5, 2) := by decide +kernel
theorem dX8_order_79 : decode cX8_order 79 = .ok (.getfield 165, 3) := by decide +kernel
theorem dX8_order_82 : decode cX8_order 82 = .ok (.aload 5, 2) := by decide +kernel
theorem dX8_order_84 : decode cX8_order 84 = .ok (.getfield 152, 3) := by decide +kernel
theorem dX8_order_87 : decode cX8_order 87 = .ok (.invokevirtual 168, 3) := by decide +kernel
theorem dX8_order_90 : decode cX8_order 90 = .ok (.aload_n 0, 1) := by decide +kernel
theorem dX8_order_91 : decode cX8_order 91 = .ok (.aload_n 3, 1) := by decide +kernel
theorem dX8_order_92 : decode cX8_order 92 = .ok (.aload 5, 2) := by decide +kernel
theorem dX8_order_94 : decode cX8_order 94 = .ok (.getfield 165, 3) := by decide +kernel
theorem dX8_order_97 : decode cX8_order 97 = .ok (.aload 5, 2) := by decide +kernel
theorem dX8_order_99 : decode cX8_order 99 = .ok (.getfield 155, 3) := by decide +kernel
theorem dX8_order_102 : decode cX8_order 102 = .ok (.invokevirtual 168, 3) := by decide +kernel
theorem dX8_order_105 : decode cX8_order 105 = .ok (.iinc 4 1, 3) := by decide +kernel
theorem dX8_order_108 : decode cX8_order 108 = .ok (.goto (-59), 3) := by decide +kernel
theorem dX8_order_111 : decode cX8_order 111 = .ok (.aload_n 0, 1) := by decide +kernel
theorem dX8_order_112 : decode cX8_order 112 = .ok (.getfield 19, 3) := by decide +kernel
theorem dX8_order_115 : decode cX8_order 115 = .ok (.invokevirtual 64, 3) := by decide +kernel
theorem dX8_order_118 : decode cX8_order 118 = .ok (.iconst 1, 1) := by decide +kernel
theorem dX8_order_119 : decode cX8_order 119 = .ok (.isub, 1) := by decide +kernel
theorem dX8_order_120 : decode cX8_order 120 = .ok (.ireturn, 1) := by decide +kernel
theorem dX8_pass_0 : decode cX8_pass 0 = .ok (.iload_n 1, 1) := by decide +kernel
theorem dX8_pass_1 : decode cX8_pass 1 = .ok (.iconst 1, 1) := by decide +kernel
theorem dX8_pass_2 : decode cX8_pass 2 = .ok (.sipush 200, 3) := by decide +kernel
theorem dX8_pass_5 : decode cX8_pass 5 = .ok (.invokestatic 53, 3) := by decide +kernel
theorem dX8_pass_8 : decode cX8_pass 8 = .ok (.ifCond .eq 13, 3) := by decide +kernel
theorem dX8_pass_11 : decode cX8_pass 11 = .ok (.new 57, 3) := by decide +kernel
theorem dX8_pass_14 : decode cX8_pass 14 = .ok (.dup, 1) := by decide +kernel
theorem dX8_pass_15 : decode cX8_pass 15 = .ok (.ldc 172, 2) := by decide +kernel
theorem dX8_pass_17 : decode cX8_pass 17 = .ok (.invokespecial 61, 3) := by decide +kernel
theorem dX8_pass_20 : decode cX8_pass 20 = .ok (.athrow, 1) := by decide +kernel
theorem dX8_pass_21 : decode cX8_pass 21 = .ok (.iconst 0, 1) := by decide +kernel
theorem dX8_pass_22 : decode cX8_pass 22 = .ok (.istore_n 2, 1) := by decide +kernel
theorem dX8_pass_23 : decode cX8_pass 23 = .ok (.iconst 0, 1) := by decide +kernel
theorem dX8_pass_24 : decode cX8_pass 24 = .ok (.istore_n 3, 1) := by decide +kernel
theorem dX8_pass_25 : decode cX8_pass 25 = .ok (.iload_n 3, 1) := by decide +kernel
theorem dX8_pass_26 : decode cX8_pass 26 = .ok (.iload_n 1, 1) := by decide +kernel
theorem dX8_pass_27 : decode cX8_pass 27 = .ok (.if_icmp .ge 30, 3) := by decide +kernel
theorem dX8_pass_30 : decode cX8_pass 30 = .ok (.aload_n 0, 1) := by decide +kernel
theorem dX8_pass_31 : decode cX8_pass 31 = .ok (.dup, 1) := by decide +kernel
theorem dX8_pass_32 : decode cX8_pass 32 = .ok (.getfield 35, 3) := by decide +kernel
theorem dX8_pass_35 : decode cX8_pass 35 = .ok (.iconst 1, 1) := by decide +kernel
theorem dX8_pass_36 : decode cX8_pass 36 = .ok (.iadd, 1) := by decide +kernel
theorem dX8_pass_37 : decode cX8_pass 37 = .ok (.putfield 35, 3) := by decide +kernel
theorem dX8_pass_40 : decode cX8_pass 40 = .ok (.aload_n 0, 1) := by decide +kernel
theorem dX8_pass_41 : decode cX8_pass 41 = .ok (.invokevirtual 174, 3) := by decide +kernel
theorem dX8_pass_44 : decode cX8_pass 44 = .ok (.iload_n 2, 1) := by decide +kernel
theorem dX8_pass_45 : decode cX8_pass 45 = .ok (.aload_n 0, 1) := by decide +kernel
theorem dX8_pass_46 : decode cX8_pass 46 = .ok (.invokevirtual 177, 3) := by decide +kernel
theorem dX8_pass_49 : decode cX8_pass 49 = .ok (.iadd, 1) := by decide +kernel
theorem dX8_pass_50 : decode cX8_pass 50 = .ok (.istore_n 2, 1) := by decide +kernel
theorem dX8_pass_51 : decode cX8_pass 51 = .ok (.iinc 3 1, 3) := by decide +kernel
theorem dX8_pass_54 : decode cX8_pass 54 = .ok (.goto (-29), 3) := by decide +kernel
theorem dX8_pass_57 : decode cX8_pass 57 = .ok (.iload_n 2, 1) := by decide +kernel
theorem dX8_pass_58 : decode cX8_pass 58 = .ok (.ireturn, 1) := by decide +kernel
theorem dX8_time_0 : decode cX8_time 0 = .ok (.aload_n 0, 1) := by decide +kernel
theorem dX8_time_1 : decode cX8_time 1 = .ok (.getfield 35, 3) := by decide +kernel
theorem dX8_time_4 : decode cX8_time 4 = .ok (.ireturn, 1) := by decide +kernel
theorem dX8_waiting_0 : decode cX8_waiting 0 = .ok (.aload_n 0, 1) := by decide +kernel
theorem dX8_waiting_1 : decode cX8_waiting 1 = .ok (.getfield 25, 3) := by decide +kernel
theorem dX8_waiting_4 : decode cX8_waiting 4 = .ok (.invokevirtual 64, 3) := by decide +kernel
theorem dX8_waiting_7 : decode cX8_waiting 7 = .ok (.ireturn, 1) := by decide +kernel
theorem dX8_cutterOn_0 : decode cX8_cutterOn 0 = .ok (.aload_n 0, 1) := by decide +kernel
theorem dX8_cutterOn_1 : decode cX8_cutterOn 1 = .ok (.iload_n 1, 1) := by decide +kernel
theorem dX8_cutterOn_2 : decode cX8_cutterOn 2 = .ok (.invokevirtual 180, 3) := by decide +kernel
theorem dX8_cutterOn_5 : decode cX8_cutterOn 5 = .ok (.getfield 184, 3) := by decide +kernel
theorem dX8_cutterOn_8 : decode cX8_cutterOn 8 = .ok (.ireturn, 1) := by decide +kernel
theorem dX8_ticksLeft_0 : decode cX8_ticksLeft 0 = .ok (.aload_n 0, 1) := by decide +kernel
theorem dX8_ticksLeft_1 : decode cX8_ticksLeft 1 = .ok (.iload_n 1, 1) := by decide +kernel
theorem dX8_ticksLeft_2 : decode cX8_ticksLeft 2 = .ok (.invokevirtual 180, 3) := by decide +kernel
theorem dX8_ticksLeft_5 : decode cX8_ticksLeft 5 = .ok (.getfield 187, 3) := by decide +kernel
theorem dX8_ticksLeft_8 : decode cX8_ticksLeft 8 = .ok (.ireturn, 1) := by decide +kernel
theorem dX8_gearsLeft_0 : decode cX8_gearsLeft 0 = .ok (.aload_n 0, 1) := by decide +kernel
theorem dX8_gearsLeft_1 : decode cX8_gearsLeft 1 = .ok (.iload_n 1, 1) := by decide +kernel
theorem dX8_gearsLeft_2 : decode cX8_gearsLeft 2 = .ok (.invokevirtual 190, 3) := by decide +kernel
theorem dX8_gearsLeft_5 : decode cX8_gearsLeft 5 = .ok (.getfield 194, 3) := by decide +kernel
theorem dX8_gearsLeft_8 : decode cX8_gearsLeft 8 = .ok (.ireturn, 1) := by decide +kernel
theorem dX8_doneAt_0 : decode cX8_doneAt 0 = .ok (.aload_n 0, 1) := by decide +kernel
theorem dX8_doneAt_1 : decode cX8_doneAt 1 = .ok (.iload_n 1, 1) := by decide +kernel
theorem dX8_doneAt_2 : decode cX8_doneAt 2 = .ok (.invokevirtual 190, 3) := by decide +kernel
theorem dX8_doneAt_5 : decode cX8_doneAt 5 = .ok (.getfield 197, 3) := by decide +kernel
theorem dX8_doneAt_8 : decode cX8_doneAt 8 = .ok (.ireturn, 1) := by decide +kernel
theorem dX8_test_0 : decode cX8_test 0 = .ok (.aload_n 0, 1) := by decide +kernel
theorem dX8_test_1 : decode cX8_test 1 = .ok (.iload_n 1, 1) := by decide +kernel
theorem dX8_test_2 : decode cX8_test 2 = .ok (.invokevirtual 190, 3) := by decide +kernel
theorem dX8_test_5 : decode cX8_test 5 = .ok (.astore 4, 2) := by decide +kernel
theorem dX8_test_7 : decode cX8_test 7 = .ok (.iload_n 2, 1) := by decide +kernel
theorem dX8_test_8 : decode cX8_test 8 = .ok (.iconst 1, 1) := by decide +kernel
theorem dX8_test_9 : decode cX8_test 9 = .ok (.bipush 100, 2) := by decide +kernel
theorem dX8_test_11 : decode cX8_test 11 = .ok (.invokestatic 53, 3) := by decide +kernel
theorem dX8_test_14 : decode cX8_test 14 = .ok (.ifCond .ne 13, 3) := by decide +kernel
theorem dX8_test_17 : decode cX8_test 17 = .ok (.iload_n 3, 1) := by decide +kernel
theorem dX8_test_18 : decode cX8_test 18 = .ok (.iconst 1, 1) := by decide +kernel
theorem dX8_test_19 : decode cX8_test 19 = .ok (.bipush 100, 2) := by decide +kernel
theorem dX8_test_21 : decode cX8_test 21 = .ok (.invokestatic 53, 3) := by decide +kernel
theorem dX8_test_24 : decode cX8_test 24 = .ok (.ifCond .eq 13, 3) := by decide +kernel
theorem dX8_test_27 : decode cX8_test 27 = .ok (.new 57, 3) := by decide +kernel
theorem dX8_test_30 : decode cX8_test 30 = .ok (.dup, 1) := by decide +kernel
theorem dX8_test_31 : decode cX8_test 31 = .ok (.ldc 200, 2) := by decide +kernel
theorem dX8_test_33 : decode cX8_test 33 = .ok (.invokespecial 61, 3) := by decide +kernel
theorem dX8_test_36 : decode cX8_test 36 = .ok (.athrow, 1) := by decide +kernel
theorem dX8_test_37 : decode cX8_test 37 = .ok (.aload 4, 2) := by decide +kernel
theorem dX8_test_39 : decode cX8_test 39 = .ok (.getfield 194, 3) := by decide +kernel
theorem dX8_test_42 : decode cX8_test 42 = .ok (.ifCond .gt 11, 3) := by decide +kernel
theorem dX8_test_45 : decode cX8_test 45 = .ok (.aload 4, 2) := by decide +kernel
theorem dX8_test_47 : decode cX8_test 47 = .ok (.getfield 202, 3) := by decide +kernel
theorem dX8_test_50 : decode cX8_test 50 = .ok (.ifCond .eq 13, 3) := by decide +kernel
theorem dX8_test_53 : decode cX8_test 53 = .ok (.new 68, 3) := by decide +kernel
theorem dX8_test_56 : decode cX8_test 56 = .ok (.dup, 1) := by decide +kernel
theorem dX8_test_57 : decode cX8_test 57 = .ok (.ldc 206, 2) := by decide +kernel
theorem dX8_test_59 : decode cX8_test 59 = .ok (.invokespecial 72, 3) := by decide +kernel
theorem dX8_test_62 : decode cX8_test 62 = .ok (.athrow, 1) := by decide +kernel
theorem dX8_test_63 : decode cX8_test 63 = .ok (.aload 4, 2) := by decide +kernel
theorem dX8_test_65 : decode cX8_test 65 = .ok (.iload_n 2, 1) := by decide +kernel
theorem dX8_test_66 : decode cX8_test 66 = .ok (.iload_n 3, 1) := by decide +kernel
theorem dX8_test_67 : decode cX8_test 67 = .ok (.imul, 1) := by decide +kernel
theorem dX8_test_68 : decode cX8_test 68 = .ok (.invokevirtual 208, 3) := by decide +kernel
theorem dX8_test_71 : decode cX8_test 71 = .ok (.aload 4, 2) := by decide +kernel
theorem dX8_test_73 : decode cX8_test 73 = .ok (.getfield 202, 3) := by decide +kernel
theorem dX8_test_76 : decode cX8_test 76 = .ok (.ifCond .eq 17, 3) := by decide +kernel
theorem dX8_test_79 : decode cX8_test 79 = .ok (.aload 4, 2) := by decide +kernel
theorem dX8_test_81 : decode cX8_test 81 = .ok (.getfield 211, 3) := by decide +kernel
theorem dX8_test_84 : decode cX8_test 84 = .ok (.dup, 1) := by decide +kernel
theorem dX8_test_85 : decode cX8_test 85 = .ok (.getfield 214, 3) := by decide +kernel
theorem dX8_test_88 : decode cX8_test 88 = .ok (.iconst 1, 1) := by decide +kernel
theorem dX8_test_89 : decode cX8_test 89 = .ok (.iadd, 1) := by decide +kernel
theorem dX8_test_90 : decode cX8_test 90 = .ok (.putfield 214, 3) := by decide +kernel
theorem dX8_test_93 : decode cX8_test 93 = .ok (.aload 4, 2) := by decide +kernel
theorem dX8_test_95 : decode cX8_test 95 = .ok (.getfield 202, 3) := by decide +kernel
theorem dX8_test_98 : decode cX8_test 98 = .ok (.ireturn, 1) := by decide +kernel
theorem dX8_wear_0 : decode cX8_wear 0 = .ok (.aload_n 0, 1) := by decide +kernel
theorem dX8_wear_1 : decode cX8_wear 1 = .ok (.iload_n 1, 1) := by decide +kernel
theorem dX8_wear_2 : decode cX8_wear 2 = .ok (.invokevirtual 190, 3) := by decide +kernel
theorem dX8_wear_5 : decode cX8_wear 5 = .ok (.getfield 217, 3) := by decide +kernel
theorem dX8_wear_8 : decode cX8_wear 8 = .ok (.astore_n 3, 1) := by decide +kernel
theorem dX8_wear_9 : decode cX8_wear 9 = .ok (.iload_n 2, 1) := by decide +kernel
theorem dX8_wear_10 : decode cX8_wear 10 = .ok (.ifCond .lt 11, 3) := by decide +kernel
theorem dX8_wear_13 : decode cX8_wear 13 = .ok (.iload_n 2, 1) := by decide +kernel
theorem dX8_wear_14 : decode cX8_wear 14 = .ok (.aload_n 3, 1) := by decide +kernel
theorem dX8_wear_15 : decode cX8_wear 15 = .ok (.invokevirtual 64, 3) := by decide +kernel
theorem dX8_wear_18 : decode cX8_wear 18 = .ok (.if_icmp .lt 13, 3) := by decide +kernel
theorem dX8_wear_21 : decode cX8_wear 21 = .ok (.new 220, 3) := by decide +kernel
theorem dX8_wear_24 : decode cX8_wear 24 = .ok (.dup, 1) := by decide +kernel
theorem dX8_wear_25 : decode cX8_wear 25 = .ok (.ldc 222, 2) := by decide +kernel
theorem dX8_wear_27 : decode cX8_wear 27 = .ok (.invokespecial 224, 3) := by decide +kernel
theorem dX8_wear_30 : decode cX8_wear 30 = .ok (.athrow, 1) := by decide +kernel
theorem dX8_wear_31 : decode cX8_wear 31 = .ok (.aload_n 3, 1) := by decide +kernel
theorem dX8_wear_32 : decode cX8_wear 32 = .ok (.iload_n 2, 1) := by decide +kernel
theorem dX8_wear_33 : decode cX8_wear 33 = .ok (.invokevirtual 148, 3) := by decide +kernel
theorem dX8_wear_36 : decode cX8_wear 36 = .ok (.checkcast 225, 3) := by decide +kernel
theorem dX8_wear_39 : decode cX8_wear 39 = .ok (.getfield 227, 3) := by decide +kernel
theorem dX8_wear_42 : decode cX8_wear 42 = .ok (.ireturn, 1) := by decide +kernel
theorem dX8_claims_0 : decode cX8_claims 0 = .ok (.aload_n 0, 1) := by decide +kernel
theorem dX8_claims_1 : decode cX8_claims 1 = .ok (.iload_n 1, 1) := by decide +kernel
theorem dX8_claims_2 : decode cX8_claims 2 = .ok (.invokevirtual 117, 3) := by decide +kernel
theorem dX8_claims_5 : decode cX8_claims 5 = .ok (.getfield 214, 3) := by decide +kernel
theorem dX8_claims_8 : decode cX8_claims 8 = .ok (.ireturn, 1) := by decide +kernel
theorem dX8_leastNew_0 : decode cX8_leastNew 0 = .ok (.iload_n 1, 1) := by decide +kernel
theorem dX8_leastNew_1 : decode cX8_leastNew 1 = .ok (.invokestatic 46, 3) := by decide +kernel
theorem dX8_leastNew_4 : decode cX8_leastNew 4 = .ok (.ifCond .ne 27, 3) := by decide +kernel
theorem dX8_leastNew_7 : decode cX8_leastNew 7 = .ok (.iload_n 2, 1) := by decide +kernel
theorem dX8_leastNew_8 : decode cX8_leastNew 8 = .ok (.iconst 1, 1) := by decide +kernel
theorem dX8_leastNew_9 : decode cX8_leastNew 9 = .ok (.if_icmp .lt 22, 3) := by decide +kernel
theorem dX8_leastNew_12 : decode cX8_leastNew 12 = .ok (.iload_n 2, 1) := by decide +kernel
theorem dX8_leastNew_13 : decode cX8_leastNew 13 = .ok (.sipush 400, 3) := by decide +kernel
theorem dX8_leastNew_16 : decode cX8_leastNew 16 = .ok (.if_icmp .gt 15, 3) := by decide +kernel
theorem dX8_leastNew_19 : decode cX8_leastNew 19 = .ok (.iload_n 3, 1) := by decide +kernel
theorem dX8_leastNew_20 : decode cX8_leastNew 20 = .ok (.iconst 1, 1) := by decide +kernel
theorem dX8_leastNew_21 : decode cX8_leastNew 21 = .ok (.if_icmp .lt 10, 3) := by decide +kernel
theorem dX8_leastNew_24 : decode cX8_leastNew 24 = .ok (.iload_n 3, 1) := by decide +kernel
theorem dX8_leastNew_25 : decode cX8_leastNew 25 = .ok (.sipush 400, 3) := by decide +kernel
theorem dX8_leastNew_28 : decode cX8_leastNew 28 = .ok (.if_icmp .le 13, 3) := by decide +kernel
theorem dX8_leastNew_31 : decode cX8_leastNew 31 = .ok (.new 57, 3) := by decide +kernel
theorem dX8_leastNew_34 : decode cX8_leastNew 34 = .ok (.dup, 1) := by decide +kernel
theorem dX8_leastNew_35 : decode cX8_leastNew 35 = .ok (.ldc 230, 2) := by decide +kernel
theorem dX8_leastNew_37 : decode cX8_leastNew 37 = .ok (.invokespecial 61, 3) := by decide +kernel
theorem dX8_leastNew_40 : decode cX8_leastNew 40 = .ok (.athrow, 1) := by decide +kernel
theorem dX8_leastNew_41 : decode cX8_leastNew 41 = .ok (.aload_n 0, 1) := by decide +kernel
theorem dX8_leastNew_42 : decode cX8_leastNew 42 = .ok (.iload_n 1, 1) := by decide +kernel
theorem dX8_leastNew_43 : decode cX8_leastNew 43 = .ok (.invokevirtual 232, 3) := by decide +kernel
theorem dX8_leastNew_46 : decode cX8_leastNew 46 = .ok (.istore 4, 2) := by decide +kernel
theorem dX8_leastNew_48 : decode cX8_leastNew 48 = .ok (.iconst (-1), 1) := by decide +kernel
theorem dX8_leastNew_49 : decode cX8_leastNew 49 = .ok (.istore 5, 2) := by decide +kernel
theorem dX8_leastNew_51 : decode cX8_leastNew 51 = .ok (.bipush 8, 2) := by decide +kernel
theorem dX8_leastNew_53 : decode cX8_leastNew 53 = .ok (.istore 6, 2) := by decide +kernel
theorem dX8_leastNew_55 : decode cX8_leastNew 55 = .ok (.iload 6, 2) := by decide +kernel
theorem dX8_leastNew_57 : decode cX8_leastNew 57 = .ok (.bipush 20, 2) := by decide +kernel
theorem dX8_leastNew_59 : decode cX8_leastNew 59 = .ok (.if_icmp .gt 71, 3) := by decide +kernel
theorem dX8_leastNew_62 : decode cX8_leastNew 62 = .ok (.iload 6, 2) := by decide +kernel
theorem dX8_leastNew_64 : decode cX8_leastNew 64 = .ok (.istore 7, 2) := by decide +kernel
theorem dX8_leastNew_66 : decode cX8_leastNew 66 = .ok (.iload 7, 2) := by decide +kernel
theorem dX8_leastNew_68 : decode cX8_leastNew 68 = .ok (.bipush 20, 2) := by decide +kernel
theorem dX8_leastNew_70 : decode cX8_leastNew 70 = .ok (.if_icmp .gt 54, 3) := by decide +kernel
theorem dX8_leastNew_73 : decode cX8_leastNew 73 = .ok (.iload 6, 2) := by decide +kernel
theorem dX8_leastNew_75 : decode cX8_leastNew 75 = .ok (.iload 7, 2) := by decide +kernel
theorem dX8_leastNew_77 : decode cX8_leastNew 77 = .ok (.imul, 1) := by decide +kernel
theorem dX8_leastNew_78 : decode cX8_leastNew 78 = .ok (.iload_n 2, 1) := by decide +kernel
theorem dX8_leastNew_79 : decode cX8_leastNew 79 = .ok (.imul, 1) := by decide +kernel
theorem dX8_leastNew_80 : decode cX8_leastNew 80 = .ok (.istore 8, 2) := by decide +kernel
theorem dX8_leastNew_82 : decode cX8_leastNew 82 = .ok (.iload 8, 2) := by decide +kernel
theorem dX8_leastNew_84 : decode cX8_leastNew 84 = .ok (.iload_n 3, 1) := by decide +kernel
theorem dX8_leastNew_85 : decode cX8_leastNew 85 = .ok (.irem, 1) := by decide +kernel
theorem dX8_leastNew_86 : decode cX8_leastNew 86 = .ok (.ifCond .ne 32, 3) := by decide +kernel
theorem dX8_leastNew_89 : decode cX8_leastNew 89 = .ok (.iconst 1, 1) := by decide +kernel
theorem dX8_leastNew_90 : decode cX8_leastNew 90 = .ok (.iload 6, 2) := by decide +kernel
theorem dX8_leastNew_92 : decode cX8_leastNew 92 = .ok (.ishl, 1) := by decide +kernel
theorem dX8_leastNew_93 : decode cX8_leastNew 93 = .ok (.iconst 1, 1) := by decide +kernel
theorem dX8_leastNew_94 : decode cX8_leastNew 94 = .ok (.iload 7, 2) := by decide +kernel
theorem dX8_leastNew_96 : decode cX8_leastNew 96 = .ok (.ishl, 1) := by decide +kernel
theorem dX8_leastNew_97 : decode cX8_leastNew 97 = .ok (.ior, 1) := by decide +kernel
theorem dX8_leastNew_98 : decode cX8_leastNew 98 = .ok (.istore 9, 2) := by decide +kernel
theorem dX8_leastNew_100 : decode cX8_leastNew 100 = .ok (.iload 5, 2) := by decide +kernel
theorem dX8_leastNew_102 : decode cX8_leastNew 102 = .ok (.iload 9, 2) := by decide +kernel
theorem dX8_leastNew_104 : decode cX8_leastNew 104 = .ok (.iload 8, 2) := by decide +kernel
theorem dX8_leastNew_106 : decode cX8_leastNew 106 = .ok (.iload_n 3, 1) := by decide +kernel
theorem dX8_leastNew_107 : decode cX8_leastNew 107 = .ok (.idiv, 1) := by decide +kernel
theorem dX8_leastNew_108 : decode cX8_leastNew 108 = .ok (.iload 4, 2) := by decide +kernel
theorem dX8_leastNew_110 : decode cX8_leastNew 110 = .ok (.invokestatic 236, 3) := by decide +kernel
theorem dX8_leastNew_113 : decode cX8_leastNew 113 = .ok (.invokestatic 240, 3) := by decide +kernel
theorem dX8_leastNew_116 : decode cX8_leastNew 116 = .ok (.istore 5, 2) := by decide +kernel
theorem dX8_leastNew_118 : decode cX8_leastNew 118 = .ok (.iinc 7 1, 3) := by decide +kernel
theorem dX8_leastNew_121 : decode cX8_leastNew 121 = .ok (.goto (-55), 3) := by decide +kernel
theorem dX8_leastNew_124 : decode cX8_leastNew 124 = .ok (.iinc 6 1, 3) := by decide +kernel
theorem dX8_leastNew_127 : decode cX8_leastNew 127 = .ok (.goto (-72), 3) := by decide +kernel
theorem dX8_leastNew_130 : decode cX8_leastNew 130 = .ok (.iload 5, 2) := by decide +kernel
theorem dX8_leastNew_132 : decode cX8_leastNew 132 = .ok (.ireturn, 1) := by decide +kernel
theorem dX8_isOutside_0 : decode cX8_isOutside 0 = .ok (.iload_n 0, 1) := by decide +kernel
theorem dX8_isOutside_1 : decode cX8_isOutside 1 = .ok (.iload_n 1, 1) := by decide +kernel
theorem dX8_isOutside_2 : decode cX8_isOutside 2 = .ok (.if_icmp .lt 8, 3) := by decide +kernel
theorem dX8_isOutside_5 : decode cX8_isOutside 5 = .ok (.iload_n 0, 1) := by decide +kernel
theorem dX8_isOutside_6 : decode cX8_isOutside 6 = .ok (.iload_n 2, 1) := by decide +kernel
theorem dX8_isOutside_7 : decode cX8_isOutside 7 = .ok (.if_icmp .le 7, 3) := by decide +kernel
theorem dX8_isOutside_10 : decode cX8_isOutside 10 = .ok (.iconst 1, 1) := by decide +kernel
theorem dX8_isOutside_11 : decode cX8_isOutside 11 = .ok (.goto 4, 3) := by decide +kernel
theorem dX8_isOutside_14 : decode cX8_isOutside 14 = .ok (.iconst 0, 1) := by decide +kernel
theorem dX8_isOutside_15 : decode cX8_isOutside 15 = .ok (.ireturn, 1) := by decide +kernel
theorem dX8_isNoModule_0 : decode cX8_isNoModule 0 = .ok (.iload_n 0, 1) := by decide +kernel
theorem dX8_isNoModule_1 : decode cX8_isNoModule 1 = .ok (.iconst 1, 1) := by decide +kernel
theorem dX8_isNoModule_2 : decode cX8_isNoModule 2 = .ok (.iconst 4, 1) := by decide +kernel
theorem dX8_isNoModule_3 : decode cX8_isNoModule 3 = .ok (.invokestatic 53, 3) := by decide +kernel
theorem dX8_isNoModule_6 : decode cX8_isNoModule 6 = .ok (.ireturn, 1) := by decide +kernel
theorem dX8_isNoToothCount_0 : decode cX8_isNoToothCount 0 = .ok (.iload_n 0, 1) := by decide +kernel
theorem dX8_isNoToothCount_1 : decode cX8_isNoToothCount 1 = .ok (.bipush 8, 2) := by decide +kernel
theorem dX8_isNoToothCount_3 : decode cX8_isNoToothCount 3 = .ok (.bipush 60, 2) := by decide +kernel
theorem dX8_isNoToothCount_5 : decode cX8_isNoToothCount 5 = .ok (.invokestatic 53, 3) := by decide +kernel
theorem dX8_isNoToothCount_8 : decode cX8_isNoToothCount 8 = .ok (.ireturn, 1) := by decide +kernel
theorem dX8_checkTurns_0 : decode cX8_checkTurns 0 = .ok (.iload_n 0, 1) := by decide +kernel
theorem dX8_checkTurns_1 : decode cX8_checkTurns 1 = .ok (.iconst 0, 1) := by decide +kernel
theorem dX8_checkTurns_2 : decode cX8_checkTurns 2 = .ok (.ldc 243, 2) := by decide +kernel
theorem dX8_checkTurns_4 : decode cX8_checkTurns 4 = .ok (.invokestatic 53, 3) := by decide +kernel
theorem dX8_checkTurns_7 : decode cX8_checkTurns 7 = .ok (.ifCond .eq 13, 3) := by decide +kernel
theorem dX8_checkTurns_10 : decode cX8_checkTurns 10 = .ok (.new 57, 3) := by decide +kernel
theorem dX8_checkTurns_13 : decode cX8_checkTurns 13 = .ok (.dup, 1) := by decide +kernel
theorem dX8_checkTurns_14 : decode cX8_checkTurns 14 = .ok (.ldc 244, 2) := by decide +kernel
theorem dX8_checkTurns_16 : decode cX8_checkTurns 16 = .ok (.invokespecial 61, 3) := by decide +kernel
theorem dX8_checkTurns_19 : decode cX8_checkTurns 19 = .ok (.athrow, 1) := by decide +kernel
theorem dX8_checkTurns_20 : decode cX8_checkTurns 20 = .ok (.return_, 1) := by decide +kernel
theorem dX8_trainAt_0 : decode cX8_trainAt 0 = .ok (.iload_n 1, 1) := by decide +kernel
theorem dX8_trainAt_1 : decode cX8_trainAt 1 = .ok (.ifCond .lt 14, 3) := by decide +kernel
theorem dX8_trainAt_4 : decode cX8_trainAt 4 = .ok (.iload_n 1, 1) := by decide +kernel
theorem dX8_trainAt_5 : decode cX8_trainAt 5 = .ok (.aload_n 0, 1) := by decide +kernel
theorem dX8_trainAt_6 : decode cX8_trainAt 6 = .ok (.getfield 16, 3) := by decide +kernel
theorem dX8_trainAt_9 : decode cX8_trainAt 9 = .ok (.invokevirtual 64, 3) := by decide +kernel
theorem dX8_trainAt_12 : decode cX8_trainAt 12 = .ok (.if_icmp .lt 13, 3) := by decide +kernel
theorem dX8_trainAt_15 : decode cX8_trainAt 15 = .ok (.new 220, 3) := by decide +kernel
theorem dX8_trainAt_18 : decode cX8_trainAt 18 = .ok (.dup, 1) := by decide +kernel
theorem dX8_trainAt_19 : decode cX8_trainAt 19 = .ok (.ldc 246, 2) := by decide +kernel
theorem dX8_trainAt_21 : decode cX8_trainAt 21 = .ok (.invokespecial 224, 3) := by decide +kernel
theorem dX8_trainAt_24 : decode cX8_trainAt 24 = .ok (.athrow, 1) := by decide +kernel
theorem dX8_trainAt_25 : decode cX8_trainAt 25 = .ok (.aload_n 0, 1) := by decide +kernel
theorem dX8_trainAt_26 : decode cX8_trainAt 26 = .ok (.getfield 16, 3) := by decide +kernel
theorem dX8_trainAt_29 : decode cX8_trainAt 29 = .ok (.iload_n 1, 1) := by decide +kernel
theorem dX8_trainAt_30 : decode cX8_trainAt 30 = .ok (.invokevirtual 148, 3) := by decide +kernel
theorem dX8_trainAt_33 : decode cX8_trainAt 33 = .ok (.checkcast 28, 3) := by decide +kernel
theorem dX8_trainAt_36 : decode cX8_trainAt 36 = .ok (.areturn, 1) := by decide +kernel
theorem dX8_orderAt_0 : decode cX8_orderAt 0 = .ok (.iload_n 1, 1) := by decide +kernel
theorem dX8_orderAt_1 : decode cX8_orderAt 1 = .ok (.ifCond .lt 14, 3) := by decide +kernel
theorem dX8_orderAt_4 : decode cX8_orderAt 4 = .ok (.iload_n 1, 1) := by decide +kernel
theorem dX8_orderAt_5 : decode cX8_orderAt 5 = .ok (.aload_n 0, 1) := by decide +kernel
theorem dX8_orderAt_6 : decode cX8_orderAt 6 = .ok (.getfield 19, 3) := by decide +kernel
theorem dX8_orderAt_9 : decode cX8_orderAt 9 = .ok (.invokevirtual 64, 3) := by decide +kernel
theorem dX8_orderAt_12 : decode cX8_orderAt 12 = .ok (.if_icmp .lt 13, 3) := by decide +kernel
theorem dX8_orderAt_15 : decode cX8_orderAt 15 = .ok (.new 220, 3) := by decide +kernel
theorem dX8_orderAt_18 : decode cX8_orderAt 18 = .ok (.dup, 1) := by decide +kernel
theorem dX8_orderAt_19 : decode cX8_orderAt 19 = .ok (.ldc 248, 2) := by decide +kernel
theorem dX8_orderAt_21 : decode cX8_orderAt 21 = .ok (.invokespecial 224, 3) := by decide +kernel
theorem dX8_orderAt_24 : decode cX8_orderAt 24 = .ok (.athrow, 1) := by decide +kernel
theorem dX8_orderAt_25 : decode cX8_orderAt 25 = .ok (.aload_n 0, 1) := by decide +kernel
theorem dX8_orderAt_26 : decode cX8_orderAt 26 = .ok (.getfield 19, 3) := by decide +kernel
theorem dX8_orderAt_29 : decode cX8_orderAt 29 = .ok (.iload_n 1, 1) := by decide +kernel
theorem dX8_orderAt_30 : decode cX8_orderAt 30 = .ok (.invokevirtual 148, 3) := by decide +kernel
theorem dX8_orderAt_33 : decode cX8_orderAt 33 = .ok (.checkcast 160, 3) := by decide +kernel
theorem dX8_orderAt_36 : decode cX8_orderAt 36 = .ok (.areturn, 1) := by decide +kernel
theorem dX8_machineAt_0 : decode cX8_machineAt 0 = .ok (.iload_n 1, 1) := by decide +kernel
theorem dX8_machineAt_1 : decode cX8_machineAt 1 = .ok (.ifCond .lt 14, 3) := by decide +kernel
theorem dX8_machineAt_4 : decode cX8_machineAt 4 = .ok (.iload_n 1, 1) := by decide +kernel
theorem dX8_machineAt_5 : decode cX8_machineAt 5 = .ok (.aload_n 0, 1) := by decide +kernel
theorem dX8_machineAt_6 : decode cX8_machineAt 6 = .ok (.getfield 22, 3) := by decide +kernel
theorem dX8_machineAt_9 : decode cX8_machineAt 9 = .ok (.invokevirtual 64, 3) := by decide +kernel
theorem dX8_machineAt_12 : decode cX8_machineAt 12 = .ok (.if_icmp .lt 13, 3) := by decide +kernel
theorem dX8_machineAt_15 : decode cX8_machineAt 15 = .ok (.new 220, 3) := by decide +kernel
theorem dX8_machineAt_18 : decode cX8_machineAt 18 = .ok (.dup, 1) := by decide +kernel
theorem dX8_machineAt_19 : decode cX8_machineAt 19 = .ok (.ldc 250, 2) := by decide +kernel
theorem dX8_machineAt_21 : decode cX8_machineAt 21 = .ok (.invokespecial 224, 3) := by decide +kernel
theorem dX8_machineAt_24 : decode cX8_machineAt 24 = .ok (.athrow, 1) := by decide +kernel
theorem dX8_machineAt_25 : decode cX8_machineAt 25 = .ok (.aload_n 0, 1) := by decide +kernel
theorem dX8_machineAt_26 : decode cX8_machineAt 26 = .ok (.getfield 22, 3) := by decide +kernel
theorem dX8_machineAt_29 : decode cX8_machineAt 29 = .ok (.iload_n 1, 1) := by decide +kernel
theorem dX8_machineAt_30 : decode cX8_machineAt 30 = .ok (.invokevirtual 148, 3) := by decide +kernel
theorem dX8_machineAt_33 : decode cX8_machineAt 33 = .ok (.checkcast 39, 3) := by decide +kernel
theorem dX8_machineAt_36 : decode cX8_machineAt 36 = .ok (.areturn, 1) := by decide +kernel
theorem dX8_lowestCutter_0 : decode cX8_lowestCutter 0 = .ok (.iconst 0, 1) := by decide +kernel
theorem dX8_lowestCutter_1 : decode cX8_lowestCutter 1 = .ok (.istore_n 3, 1) := by decide +kernel
theorem dX8_lowestCutter_2 : decode cX8_lowestCutter 2 = .ok (.iload_n 3, 1) := by decide +kernel
theorem dX8_lowestCutter_3 : decode cX8_lowestCutter 3 = .ok (.aload_n 0, 1) := by decide +kernel
theorem dX8_lowestCutter_4 : decode cX8_lowestCutter 4 = .ok (.getfield 10, 3) := by decide +kernel
theorem dX8_lowestCutter_7 : decode cX8_lowestCutter 7 = .ok (.invokevirtual 64, 3) := by decide +kernel
theorem dX8_lowestCutter_10 : decode cX8_lowestCutter 10 = .ok (.if_icmp .ge 30, 3) := by decide +kernel
theorem dX8_lowestCutter_13 : decode cX8_lowestCutter 13 = .ok (.aload_n 0, 1) := by decide +kernel
theorem dX8_lowestCutter_14 : decode cX8_lowestCutter 14 = .ok (.getfield 10, 3) := by decide +kernel
theorem dX8_lowestCutter_17 : decode cX8_lowestCutter 17 = .ok (.iload_n 3, 1) := by decide +kernel
theorem dX8_lowestCutter_18 : decode cX8_lowestCutter 18 = .ok (.invokevirtual 148, 3) := by decide +kernel
theorem dX8_lowestCutter_21 : decode cX8_lowestCutter 21 = .ok (.checkcast 73, 3) := by decide +kernel
theorem dX8_lowestCutter_24 : decode cX8_lowestCutter 24 = .ok (.iload_n 1, 1) := by decide +kernel
theorem dX8_lowestCutter_25 : decode cX8_lowestCutter 25 = .ok (.iload_n 2, 1) := by decide +kernel
theorem dX8_lowestCutter_26 : decode cX8_lowestCutter 26 = .ok (.invokevirtual 252, 3) := by decide +kernel
theorem dX8_lowestCutter_29 : decode cX8_lowestCutter 29 = .ok (.ifCond .eq 5, 3) := by decide +kernel
theorem dX8_lowestCutter_32 : decode cX8_lowestCutter 32 = .ok (.iload_n 3, 1) := by decide +kernel
theorem dX8_lowestCutter_33 : decode cX8_lowestCutter 33 = .ok (.ireturn, 1) := by decide +kernel
theorem dX8_lowestCutter_34 : decode cX8_lowestCutter 34 = .ok (.iinc 3 1, 3) := by decide +kernel
theorem dX8_lowestCutter_37 : decode cX8_lowestCutter 37 = .ok (.goto (-35), 3) := by decide +kernel
theorem dX8_lowestCutter_40 : decode cX8_lowestCutter 40 = .ok (.iconst (-1), 1) := by decide +kernel
theorem dX8_lowestCutter_41 : decode cX8_lowestCutter 41 = .ok (.ireturn, 1) := by decide +kernel
theorem dX8_hasAllCutters_0 : decode cX8_hasAllCutters 0 = .ok (.iconst 0, 1) := by decide +kernel
theorem dX8_hasAllCutters_1 : decode cX8_hasAllCutters 1 = .ok (.istore_n 2, 1) := by decide +kernel
theorem dX8_hasAllCutters_2 : decode cX8_hasAllCutters 2 = .ok (.iload_n 2, 1) := by decide +kernel
theorem dX8_hasAllCutters_3 : decode cX8_hasAllCutters 3 = .ok (.aload_n 1, 1) := by decide +kernel
theorem dX8_hasAllCutters_4 : decode cX8_hasAllCutters 4 = .ok (.getfield 86, 3) := by decide +kernel
theorem dX8_hasAllCutters_7 : decode cX8_hasAllCutters 7 = .ok (.invokevirtual 64, 3) := by decide +kernel
theorem dX8_hasAllCutters_10 : decode cX8_hasAllCutters 10 = .ok (.if_icmp .ge 55, 3) := by decide +kernel
theorem dX8_hasAllCutters_13 : decode cX8_hasAllCutters 13 = .ok (.aload_n 1, 1) := by decide +kernel
theorem dX8_hasAllCutters_14 : decode cX8_hasAllCutters 14 = .ok (.getfield 86, 3) := by decide +kernel
theorem dX8_hasAllCutters_17 : decode cX8_hasAllCutters 17 = .ok (.iload_n 2, 1) := by decide +kernel
theorem dX8_hasAllCutters_18 : decode cX8_hasAllCutters 18 = .ok (.invokevirtual 148, 3) := by decide +kernel
theorem dX8_hasAllCutters_21 : decode cX8_hasAllCutters 21 = .ok (.checkcast 91, 3) := by decide +kernel
theorem dX8_hasAllCutters_24 : decode cX8_hasAllCutters 24 = .ok (.astore_n 3, 1) := by decide +kernel
theorem dX8_hasAllCutters_25 : decode cX8_hasAllCutters 25 = .ok (.aload_n 0, 1) := by decide +kernel
theorem dX8_hasAllCutters_26 : decode cX8_hasAllCutters 26 = .ok (.aload_n 3, 1) := by decide +kernel
theorem dX8_hasAllCutters_27 : decode cX8_hasAllCutters 27 = .ok (.getfield 165, 3) := by decide +kernel
theorem dX8_hasAllCutters_30 : decode cX8_hasAllCutters 30 = .ok (.aload_n 3, 1) := by decide +kernel
theorem dX8_hasAllCutters_31 : decode cX8_hasAllCutters 31 = .ok (.getfield 152, 3) := by decide +kernel
theorem dX8_hasAllCutters_34 : decode cX8_hasAllCutters 34 = .ok (.invokevirtual 80, 3) := by decide +kernel
theorem dX8_hasAllCutters_37 : decode cX8_hasAllCutters 37 = .ok (.iconst (-1), 1) := by decide +kernel
theorem dX8_hasAllCutters_38 : decode cX8_hasAllCutters 38 = .ok (.if_icmp .eq 19, 3) := by decide +kernel
theorem dX8_hasAllCutters_41 : decode cX8_hasAllCutters 41 = .ok (.aload_n 0, 1) := by decide +kernel
theorem dX8_hasAllCutters_42 : decode cX8_hasAllCutters 42 = .ok (.aload_n 3, 1) := by decide +kernel
theorem dX8_hasAllCutters_43 : decode cX8_hasAllCutters 43 = .ok (.getfield 165, 3) := by decide +kernel
theorem dX8_hasAllCutters_46 : decode cX8_hasAllCutters 46 = .ok (.aload_n 3, 1) := by decide +kernel
theorem dX8_hasAllCutters_47 : decode cX8_hasAllCutters 47 = .ok (.getfield 155, 3) := by decide +kernel
theorem dX8_hasAllCutters_50 : decode cX8_hasAllCutters 50 = .ok (.invokevirtual 80, 3) := by decide +kernel
theorem dX8_hasAllCutters_53 : decode cX8_hasAllCutters 53 = .ok (.iconst (-1), 1) := by decide +kernel
theorem dX8_hasAllCutters_54 : decode cX8_hasAllCutters 54 = .ok (.if_icmp .ne 5, 3) := by decide +kernel
theorem dX8_hasAllCutters_57 : decode cX8_hasAllCutters 57 = .ok (.iconst 0, 1) := by decide +kernel
theorem dX8_hasAllCutters_58 : decode cX8_hasAllCutters 58 = .ok (.ireturn, 1) := by decide +kernel
theorem dX8_hasAllCutters_59 : decode cX8_hasAllCutters 59 = .ok (.iinc 2 1, 3) := by decide +kernel
theorem dX8_hasAllCutters_62 : decode cX8_hasAllCutters 62 = .ok (.goto (-60), 3) := by decide +kernel
theorem dX8_hasAllCutters_65 : decode cX8_hasAllCutters 65 = .ok (.iconst 1, 1) := by decide +kernel
theorem dX8_hasAllCutters_66 : decode cX8_hasAllCutters 66 = .ok (.ireturn, 1) := by decide +kernel
theorem dX8_queue_0 : decode cX8_queue 0 = .ok (.aload_n 0, 1) := by decide +kernel
theorem dX8_queue_1 : decode cX8_queue 1 = .ok (.getfield 25, 3) := by decide +kernel
theorem dX8_queue_4 : decode cX8_queue 4 = .ok (.new 256, 3) := by decide +kernel
theorem dX8_queue_7 : decode cX8_queue 7 = .ok (.dup, 1) := by decide +kernel
theorem dX8_queue_8 : decode cX8_queue 8 = .ok (.aload_n 1, 1) := by decide +kernel
theorem dX8_queue_9 : decode cX8_queue 9 = .ok (.iload_n 3, 1) := by decide +kernel
theorem dX8_queue_10 : decode cX8_queue 10 = .ok (.aload_n 0, 1) := by decide +kernel
theorem dX8_queue_11 : decode cX8_queue 11 = .ok (.iload_n 2, 1) := by decide +kernel
theorem dX8_queue_12 : decode cX8_queue 12 = .ok (.iload_n 3, 1) := by decide +kernel
theorem dX8_queue_13 : decode cX8_queue 13 = .ok (.invokevirtual 80, 3) := by decide +kernel
theorem dX8_queue_16 : decode cX8_queue 16 = .ok (.invokespecial 258, 3) := by decide +kernel
theorem dX8_queue_19 : decode cX8_queue 19 = .ok (.invokevirtual 42, 3) := by decide +kernel
theorem dX8_queue_22 : decode cX8_queue 22 = .ok (.pop, 1) := by decide +kernel
theorem dX8_queue_23 : decode cX8_queue 23 = .ok (.return_, 1) := by decide +kernel
theorem dX8_giveOutJobs_0 : decode cX8_giveOutJobs 0 = .ok (.iconst 0, 1) := by decide +kernel
theorem dX8_giveOutJobs_1 : decode cX8_giveOutJobs 1 = .ok (.istore_n 1, 1) := by decide +kernel
theorem dX8_giveOutJobs_2 : decode cX8_giveOutJobs 2 = .ok (.iload_n 1, 1) := by decide +kernel
theorem dX8_giveOutJobs_3 : decode cX8_giveOutJobs 3 = .ok (.aload_n 0, 1) := by decide +kernel
theorem dX8_giveOutJobs_4 : decode cX8_giveOutJobs 4 = .ok (.getfield 22, 3) := by decide +kernel
theorem dX8_giveOutJobs_7 : decode cX8_giveOutJobs 7 = .ok (.invokevirtual 64, 3) := by decide +kernel
theorem dX8_giveOutJobs_10 : decode cX8_giveOutJobs 10 = .ok (.if_icmp .ge 33, 3) := by decide +kernel
theorem dX8_giveOutJobs_13 : decode cX8_giveOutJobs 13 = .ok (.aload_n 0, 1) := by decide +kernel
theorem dX8_giveOutJobs_14 : decode cX8_giveOutJobs 14 = .ok (.getfield 22, 3) := by decide +kernel
theorem dX8_giveOutJobs_17 : decode cX8_giveOutJobs 17 = .ok (.iload_n 1, 1) := by decide +kernel
theorem dX8_giveOutJobs_18 : decode cX8_giveOutJobs 18 = .ok (.invokevirtual 148, 3) := by decide +kernel
theorem dX8_giveOutJobs_21 : decode cX8_giveOutJobs 21 = .ok (.checkcast 39, 3) := by decide +kernel
theorem dX8_giveOutJobs_24 : decode cX8_giveOutJobs 24 = .ok (.astore_n 2, 1) := by decide +kernel
theorem dX8_giveOutJobs_25 : decode cX8_giveOutJobs 25 = .ok (.aload_n 2, 1) := by decide +kernel
theorem dX8_giveOutJobs_26 : decode cX8_giveOutJobs 26 = .ok (.getfield 260, 3) := by decide +kernel
theorem dX8_giveOutJobs_29 : decode cX8_giveOutJobs 29 = .ok (.ifnonnull 8, 3) := by decide +kernel
theorem dX8_giveOutJobs_32 : decode cX8_giveOutJobs 32 = .ok (.aload_n 0, 1) := by decide +kernel
theorem dX8_giveOutJobs_33 : decode cX8_giveOutJobs 33 = .ok (.aload_n 2, 1) := by decide +kernel
theorem dX8_giveOutJobs_34 : decode cX8_giveOutJobs 34 = .ok (.invokevirtual 264, 3) := by decide +kernel
theorem dX8_giveOutJobs_37 : decode cX8_giveOutJobs 37 = .ok (.iinc 1 1, 3) := by decide +kernel
theorem dX8_giveOutJobs_40 : decode cX8_giveOutJobs 40 = .ok (.goto (-38), 3) := by decide +kernel
theorem dX8_giveOutJobs_43 : decode cX8_giveOutJobs 43 = .ok (.return_, 1) := by decide +kernel
theorem dX8_giveJob_0 : decode cX8_giveJob 0 = .ok (.aload_n 0, 1) := by decide +kernel
theorem dX8_giveJob_1 : decode cX8_giveJob 1 = .ok (.aload_n 1, 1) := by decide +kernel
theorem dX8_giveJob_2 : decode cX8_giveJob 2 = .ok (.invokevirtual 268, 3) := by decide +kernel
theorem dX8_giveJob_5 : decode cX8_giveJob 5 = .ok (.istore_n 2, 1) := by decide +kernel
theorem dX8_giveJob_6 : decode cX8_giveJob 6 = .ok (.iconst 0, 1) := by decide +kernel
theorem dX8_giveJob_7 : decode cX8_giveJob 7 = .ok (.istore_n 3, 1) := by decide +kernel
theorem dX8_giveJob_8 : decode cX8_giveJob 8 = .ok (.iload_n 2, 1) := by decide +kernel
theorem dX8_giveJob_9 : decode cX8_giveJob 9 = .ok (.iconst (-1), 1) := by decide +kernel
theorem dX8_giveJob_10 : decode cX8_giveJob 10 = .ok (.if_icmp .ne 11, 3) := by decide +kernel
theorem dX8_giveJob_13 : decode cX8_giveJob 13 = .ok (.aload_n 0, 1) := by decide +kernel
theorem dX8_giveJob_14 : decode cX8_giveJob 14 = .ok (.aload_n 1, 1) := by decide +kernel
theorem dX8_giveJob_15 : decode cX8_giveJob 15 = .ok (.invokevirtual 272, 3) := by decide +kernel
theorem dX8_giveJob_18 : decode cX8_giveJob 18 = .ok (.istore_n 2, 1) := by decide +kernel
theorem dX8_giveJob_19 : decode cX8_giveJob 19 = .ok (.iconst 3, 1) := by decide +kernel
theorem dX8_giveJob_20 : decode cX8_giveJob 20 = .ok (.istore_n 3, 1) := by decide +kernel
theorem dX8_giveJob_21 : decode cX8_giveJob 21 = .ok (.iload_n 2, 1) := by decide +kernel
theorem dX8_giveJob_22 : decode cX8_giveJob 22 = .ok (.ifCond .lt 14, 3) := by decide +kernel
theorem dX8_giveJob_25 : decode cX8_giveJob 25 = .ok (.iload_n 2, 1) := by decide +kernel
theorem dX8_giveJob_26 : decode cX8_giveJob 26 = .ok (.aload_n 0, 1) := by decide +kernel
theorem dX8_giveJob_27 : decode cX8_giveJob 27 = .ok (.getfield 25, 3) := by decide +kernel
theorem dX8_giveJob_30 : decode cX8_giveJob 30 = .ok (.invokevirtual 64, 3) := by decide +kernel
theorem dX8_giveJob_33 : decode cX8_giveJob 33 = .ok (.if_icmp .lt 4, 3) := by decide +kernel
theorem dX8_giveJob_36 : decode cX8_giveJob 36 = .ok (.return_, 1) := by decide +kernel
theorem dX8_giveJob_37 : decode cX8_giveJob 37 = .ok (.aload_n 1, 1) := by decide +kernel
theorem dX8_giveJob_38 : decode cX8_giveJob 38 = .ok (.aload_n 0, 1) := by decide +kernel
theorem dX8_giveJob_39 : decode cX8_giveJob 39 = .ok (.getfield 25, 3) := by decide +kernel
theorem dX8_giveJob_42 : decode cX8_giveJob 42 = .ok (.iload_n 2, 1) := by decide +kernel
theorem dX8_giveJob_43 : decode cX8_giveJob 43 = .ok (.invokevirtual 148, 3) := by decide +kernel
theorem dX8_giveJob_46 : decode cX8_giveJob 46 = .ok (.checkcast 256, 3) := by decide +kernel
theorem dX8_giveJob_49 : decode cX8_giveJob 49 = .ok (.iload_n 3, 1) := by decide +kernel
theorem dX8_giveJob_50 : decode cX8_giveJob 50 = .ok (.invokevirtual 275, 3) := by decide +kernel
theorem dX8_giveJob_53 : decode cX8_giveJob 53 = .ok (.aload_n 0, 1) := by decide +kernel
theorem dX8_giveJob_54 : decode cX8_giveJob 54 = .ok (.getfield 25, 3) := by decide +kernel
theorem dX8_giveJob_57 : decode cX8_giveJob 57 = .ok (.iload_n 2, 1) := by decide +kernel
theorem dX8_giveJob_58 : decode cX8_giveJob 58 = .ok (.invokevirtual 279, 3) := by decide +kernel
theorem dX8_giveJob_61 : decode cX8_giveJob 61 = .ok (.pop, 1) := by decide +kernel
theorem dX8_giveJob_62 : decode cX8_giveJob 62 = .ok (.return_, 1) := by decide +kernel
theorem dX8_firstWithCutterOf_0 : decode cX8_firstWithCutterOf 0 = .ok (.iconst 0, 1) := by decide +kernel
theorem dX8_firstWithCutterOf_1 : decode cX8_firstWithCutterOf 1 = .ok (.istore_n 2, 1) := by decide +kernel
theorem dX8_firstWithCutterOf_2 : decode cX8_firstWithCutterOf 2 = .ok (.iload_n 2, 1) := by decide +kernel
theorem dX8_firstWithCutterOf_3 : decode cX8_firstWithCutterOf 3 = .ok (.aload_n 0, 1) := by decide +kernel
theorem dX8_firstWithCutterOf_4 : decode cX8_firstWithCutterOf 4 = .ok (.getfield 25, 3) := by decide +kernel
theorem dX8_firstWithCutterOf_7 : decode cX8_firstWithCutterOf 7 = .ok (.invokevirtual 64, 3) := by decide +kernel
theorem dX8_firstWithCutterOf_10 : decode cX8_firstWithCutterOf 10 = .ok (.if_icmp .ge 32, 3) := by decide +kernel
theorem dX8_firstWithCutterOf_13 : decode cX8_firstWithCutterOf 13 = .ok (.aload_n 0, 1) := by decide +kernel
theorem dX8_firstWithCutterOf_14 : decode cX8_firstWithCutterOf 14 = .ok (.getfield 25, 3) := by decide +kernel
theorem dX8_firstWithCutterOf_17 : decode cX8_firstWithCutterOf 17 = .ok (.iload_n 2, 1) := by decide +kernel
theorem dX8_firstWithCutterOf_18 : decode cX8_firstWithCutterOf 18 = .ok (.invokevirtual 148, 3) := by decide +kernel
theorem dX8_firstWithCutterOf_21 : decode cX8_firstWithCutterOf 21 = .ok (.checkcast 256, 3) := by decide +kernel
theorem dX8_firstWithCutterOf_24 : decode cX8_firstWithCutterOf 24 = .ok (.getfield 282, 3) := by decide +kernel
theorem dX8_firstWithCutterOf_27 : decode cX8_firstWithCutterOf 27 = .ok (.aload_n 1, 1) := by decide +kernel
theorem dX8_firstWithCutterOf_28 : decode cX8_firstWithCutterOf 28 = .ok (.getfield 184, 3) := by decide +kernel
theorem dX8_firstWithCutterOf_31 : decode cX8_firstWithCutterOf 31 = .ok (.if_icmp .ne 5, 3) := by decide +kernel
theorem dX8_firstWithCutterOf_34 : decode cX8_firstWithCutterOf 34 = .ok (.iload_n 2, 1) := by decide +kernel
theorem dX8_firstWithCutterOf_35 : decode cX8_firstWithCutterOf 35 = .ok (.ireturn, 1) := by decide +kernel
theorem dX8_firstWithCutterOf_36 : decode cX8_firstWithCutterOf 36 = .ok (.iinc 2 1, 3) := by decide +kernel
theorem dX8_firstWithCutterOf_39 : decode cX8_firstWithCutterOf 39 = .ok (.goto (-37), 3) := by decide +kernel
theorem dX8_firstWithCutterOf_42 : decode cX8_firstWithCutterOf 42 = .ok (.iconst (-1), 1) := by decide +kernel
theorem dX8_firstWithCutterOf_43 : decode cX8_firstWithCutterOf 43 = .ok (.ireturn, 1) := by decide +kernel
theorem dX8_firstWithFreeCutter_0 : decode cX8_firstWithFreeCutter 0 = .ok (.iconst 0, 1) := by decide +kernel
theorem dX8_firstWithFreeCutter_1 : decode cX8_firstWithFreeCutter 1 = .ok (.istore_n 2, 1) := by decide +kernel
theorem dX8_firstWithFreeCutter_2 : decode cX8_firstWithFreeCutter 2 = .ok (.iload_n 2, 1) := by decide +kernel
theorem dX8_firstWithFreeCutter_3 : decode cX8_firstWithFreeCutter 3 = .ok (.aload_n 0, 1) := by decide +kernel
theorem dX8_firstWithFreeCutter_4 : decode cX8_firstWithFreeCutter 4 = .ok (.getfield 25, 3) := by decide +kernel
theorem dX8_firstWithFreeCutter_7 : decode cX8_firstWithFreeCutter 7 = .ok (.invokevirtual 64, 3) := by decide +kernel
theorem dX8_firstWithFreeCutter_10 : decode cX8_firstWithFreeCutter 10 = .ok (.if_icmp .ge 33, 3) := by decide +kernel
theorem dX8_firstWithFreeCutter_13 : decode cX8_firstWithFreeCutter 13 = .ok (.aload_n 0, 1) := by decide +kernel
theorem dX8_firstWithFreeCutter_14 : decode cX8_firstWithFreeCutter 14 = .ok (.aload_n 1, 1) := by decide +kernel
theorem dX8_firstWithFreeCutter_15 : decode cX8_firstWithFreeCutter 15 = .ok (.aload_n 0, 1) := by decide +kernel
theorem dX8_firstWithFreeCutter_16 : decode cX8_firstWithFreeCutter 16 = .ok (.getfield 25, 3) := by decide +kernel
theorem dX8_firstWithFreeCutter_19 : decode cX8_firstWithFreeCutter 19 = .ok (.iload_n 2, 1) := by decide +kernel
theorem dX8_firstWithFreeCutter_20 : decode cX8_firstWithFreeCutter 20 = .ok (.invokevirtual 148, 3) := by decide +kernel
theorem dX8_firstWithFreeCutter_23 : decode cX8_firstWithFreeCutter 23 = .ok (.checkcast 256, 3) := by decide +kernel
theorem dX8_firstWithFreeCutter_26 : decode cX8_firstWithFreeCutter 26 = .ok (.getfield 282, 3) := by decide +kernel
theorem dX8_firstWithFreeCutter_29 : decode cX8_firstWithFreeCutter 29 = .ok (.invokevirtual 283, 3) := by decide +kernel
theorem dX8_firstWithFreeCutter_32 : decode cX8_firstWithFreeCutter 32 = .ok (.ifCond .ne 5, 3) := by decide +kernel
theorem dX8_firstWithFreeCutter_35 : decode cX8_firstWithFreeCutter 35 = .ok (.iload_n 2, 1) := by decide +kernel
theorem dX8_firstWithFreeCutter_36 : decode cX8_firstWithFreeCutter 36 = .ok (.ireturn, 1) := by decide +kernel
theorem dX8_firstWithFreeCutter_37 : decode cX8_firstWithFreeCutter 37 = .ok (.iinc 2 1, 3) := by decide +kernel
theorem dX8_firstWithFreeCutter_40 : decode cX8_firstWithFreeCutter 40 = .ok (.goto (-38), 3) := by decide +kernel
theorem dX8_firstWithFreeCutter_43 : decode cX8_firstWithFreeCutter 43 = .ok (.iconst (-1), 1) := by decide +kernel
theorem dX8_firstWithFreeCutter_44 : decode cX8_firstWithFreeCutter 44 = .ok (.ireturn, 1) := by decide +kernel
theorem dX8_isOnAnother_0 : decode cX8_isOnAnother 0 = .ok (.iconst 0, 1) := by decide +kernel
theorem dX8_isOnAnother_1 : decode cX8_isOnAnother 1 = .ok (.istore_n 3, 1) := by decide +kernel
theorem dX8_isOnAnother_2 : decode cX8_isOnAnother 2 = .ok (.iload_n 3, 1) := by decide +kernel
theorem dX8_isOnAnother_3 : decode cX8_isOnAnother 3 = .ok (.aload_n 0, 1) := by decide +kernel
theorem dX8_isOnAnother_4 : decode cX8_isOnAnother 4 = .ok (.getfield 22, 3) := by decide +kernel
theorem dX8_isOnAnother_7 : decode cX8_isOnAnother 7 = .ok (.invokevirtual 64, 3) := by decide +kernel
theorem dX8_isOnAnother_10 : decode cX8_isOnAnother 10 = .ok (.if_icmp .ge 39, 3) := by decide +kernel
theorem dX8_isOnAnother_13 : decode cX8_isOnAnother 13 = .ok (.aload_n 0, 1) := by decide +kernel
theorem dX8_isOnAnother_14 : decode cX8_isOnAnother 14 = .ok (.getfield 22, 3) := by decide +kernel
theorem dX8_isOnAnother_17 : decode cX8_isOnAnother 17 = .ok (.iload_n 3, 1) := by decide +kernel
theorem dX8_isOnAnother_18 : decode cX8_isOnAnother 18 = .ok (.invokevirtual 148, 3) := by decide +kernel
theorem dX8_isOnAnother_21 : decode cX8_isOnAnother 21 = .ok (.checkcast 39, 3) := by decide +kernel
theorem dX8_isOnAnother_24 : decode cX8_isOnAnother 24 = .ok (.astore 4, 2) := by decide +kernel
theorem dX8_isOnAnother_26 : decode cX8_isOnAnother 26 = .ok (.aload 4, 2) := by decide +kernel
theorem dX8_isOnAnother_28 : decode cX8_isOnAnother 28 = .ok (.aload_n 1, 1) := by decide +kernel
theorem dX8_isOnAnother_29 : decode cX8_isOnAnother 29 = .ok (.if_acmp .eq 14, 3) := by decide +kernel
theorem dX8_isOnAnother_32 : decode cX8_isOnAnother 32 = .ok (.aload 4, 2) := by decide +kernel
theorem dX8_isOnAnother_34 : decode cX8_isOnAnother 34 = .ok (.getfield 184, 3) := by decide +kernel
theorem dX8_isOnAnother_37 : decode cX8_isOnAnother 37 = .ok (.iload_n 2, 1) := by decide +kernel
theorem dX8_isOnAnother_38 : decode cX8_isOnAnother 38 = .ok (.if_icmp .ne 5, 3) := by decide +kernel
theorem dX8_isOnAnother_41 : decode cX8_isOnAnother 41 = .ok (.iconst 1, 1) := by decide +kernel
theorem dX8_isOnAnother_42 : decode cX8_isOnAnother 42 = .ok (.ireturn, 1) := by decide +kernel
theorem dX8_isOnAnother_43 : decode cX8_isOnAnother 43 = .ok (.iinc 3 1, 3) := by decide +kernel
theorem dX8_isOnAnother_46 : decode cX8_isOnAnother 46 = .ok (.goto (-44), 3) := by decide +kernel
theorem dX8_isOnAnother_49 : decode cX8_isOnAnother 49 = .ok (.iconst 0, 1) := by decide +kernel
theorem dX8_isOnAnother_50 : decode cX8_isOnAnother 50 = .ok (.ireturn, 1) := by decide +kernel
theorem dX8_workOneTick_0 : decode cX8_workOneTick 0 = .ok (.iconst 0, 1) := by decide +kernel
theorem dX8_workOneTick_1 : decode cX8_workOneTick 1 = .ok (.istore_n 1, 1) := by decide +kernel
theorem dX8_workOneTick_2 : decode cX8_workOneTick 2 = .ok (.iconst 0, 1) := by decide +kernel
theorem dX8_workOneTick_3 : decode cX8_workOneTick 3 = .ok (.istore_n 2, 1) := by decide +kernel
theorem dX8_workOneTick_4 : decode cX8_workOneTick 4 = .ok (.iload_n 2, 1) := by decide +kernel
theorem dX8_workOneTick_5 : decode cX8_workOneTick 5 = .ok (.aload_n 0, 1) := by decide +kernel
theorem dX8_workOneTick_6 : decode cX8_workOneTick 6 = .ok (.getfield 22, 3) := by decide +kernel
theorem dX8_workOneTick_9 : decode cX8_workOneTick 9 = .ok (.invokevirtual 64, 3) := by decide +kernel
theorem dX8_workOneTick_12 : decode cX8_workOneTick 12 = .ok (.if_icmp .ge 39, 3) := by decide +kernel
theorem dX8_workOneTick_15 : decode cX8_workOneTick 15 = .ok (.aload_n 0, 1) := by decide +kernel
theorem dX8_workOneTick_16 : decode cX8_workOneTick 16 = .ok (.getfield 22, 3) := by decide +kernel
theorem dX8_workOneTick_19 : decode cX8_workOneTick 19 = .ok (.iload_n 2, 1) := by decide +kernel
theorem dX8_workOneTick_20 : decode cX8_workOneTick 20 = .ok (.invokevirtual 148, 3) := by decide +kernel
theorem dX8_workOneTick_23 : decode cX8_workOneTick 23 = .ok (.checkcast 39, 3) := by decide +kernel
theorem dX8_workOneTick_26 : decode cX8_workOneTick 26 = .ok (.invokevirtual 287, 3) := by decide +kernel
theorem dX8_workOneTick_29 : decode cX8_workOneTick 29 = .ok (.astore_n 3, 1) := by decide +kernel
theorem dX8_workOneTick_30 : decode cX8_workOneTick 30 = .ok (.aload_n 3, 1) := by decide +kernel
theorem dX8_workOneTick_31 : decode cX8_workOneTick 31 = .ok (.ifnull 14, 3) := by decide +kernel
theorem dX8_workOneTick_34 : decode cX8_workOneTick 34 = .ok (.aload_n 3, 1) := by decide +kernel
theorem dX8_workOneTick_35 : decode cX8_workOneTick 35 = .ok (.aload_n 0, 1) := by decide +kernel
theorem dX8_workOneTick_36 : decode cX8_workOneTick 36 = .ok (.getfield 35, 3) := by decide +kernel
theorem dX8_workOneTick_39 : decode cX8_workOneTick 39 = .ok (.invokevirtual 291, 3) := by decide +kernel
theorem dX8_workOneTick_42 : decode cX8_workOneTick 42 = .ok (.iinc 1 1, 3) := by decide +kernel
theorem dX8_workOneTick_45 : decode cX8_workOneTick 45 = .ok (.iinc 2 1, 3) := by decide +kernel
theorem dX8_workOneTick_48 : decode cX8_workOneTick 48 = .ok (.goto (-44), 3) := by decide +kernel
theorem dX8_workOneTick_51 : decode cX8_workOneTick 51 = .ok (.iload_n 1, 1) := by decide +kernel
theorem dX8_workOneTick_52 : decode cX8_workOneTick 52 = .ok (.ireturn, 1) := by decide +kernel
theorem dX8_teethWithoutCutter_0 : decode cX8_teethWithoutCutter 0 = .ok (.iconst 0, 1) := by decide +kernel
theorem dX8_teethWithoutCutter_1 : decode cX8_teethWithoutCutter 1 = .ok (.istore_n 2, 1) := by decide +kernel
theorem dX8_teethWithoutCutter_2 : decode cX8_teethWithoutCutter 2 = .ok (.bipush 8, 2) := by decide +kernel
theorem dX8_teethWithoutCutter_4 : decode cX8_teethWithoutCutter 4 = .ok (.istore_n 3, 1) := by decide +kernel
theorem dX8_teethWithoutCutter_5 : decode cX8_teethWithoutCutter 5 = .ok (.iload_n 3, 1) := by decide +kernel
theorem dX8_teethWithoutCutter_6 : decode cX8_teethWithoutCutter 6 = .ok (.bipush 20, 2) := by decide +kernel
theorem dX8_teethWithoutCutter_8 : decode cX8_teethWithoutCutter 8 = .ok (.if_icmp .gt 25, 3) := by decide +kernel
theorem dX8_teethWithoutCutter_11 : decode cX8_teethWithoutCutter 11 = .ok (.aload_n 0, 1) := by decide +kernel
theorem dX8_teethWithoutCutter_12 : decode cX8_teethWithoutCutter 12 = .ok (.iload_n 1, 1) := by decide +kernel
theorem dX8_teethWithoutCutter_13 : decode cX8_teethWithoutCutter 13 = .ok (.iload_n 3, 1) := by decide +kernel
theorem dX8_teethWithoutCutter_14 : decode cX8_teethWithoutCutter 14 = .ok (.invokevirtual 80, 3) := by decide +kernel
theorem dX8_teethWithoutCutter_17 : decode cX8_teethWithoutCutter 17 = .ok (.iconst (-1), 1) := by decide +kernel
theorem dX8_teethWithoutCutter_18 : decode cX8_teethWithoutCutter 18 = .ok (.if_icmp .ne 9, 3) := by decide +kernel
theorem dX8_teethWithoutCutter_21 : decode cX8_teethWithoutCutter 21 = .ok (.iload_n 2, 1) := by decide +kernel
theorem dX8_teethWithoutCutter_22 : decode cX8_teethWithoutCutter 22 = .ok (.iconst 1, 1) := by decide +kernel
theorem dX8_teethWithoutCutter_23 : decode cX8_teethWithoutCutter 23 = .ok (.iload_n 3, 1) := by decide +kernel
theorem dX8_teethWithoutCutter_24 : decode cX8_teethWithoutCutter 24 = .ok (.ishl, 1) := by decide +kernel
theorem dX8_teethWithoutCutter_25 : decode cX8_teethWithoutCutter 25 = .ok (.ior, 1) := by decide +kernel
theorem dX8_teethWithoutCutter_26 : decode cX8_teethWithoutCutter 26 = .ok (.istore_n 2, 1) := by decide +kernel
theorem dX8_teethWithoutCutter_27 : decode cX8_teethWithoutCutter 27 = .ok (.iinc 3 1, 3) := by decide +kernel
theorem dX8_teethWithoutCutter_30 : decode cX8_teethWithoutCutter 30 = .ok (.goto (-25), 3) := by decide +kernel
theorem dX8_teethWithoutCutter_33 : decode cX8_teethWithoutCutter 33 = .ok (.iload_n 2, 1) := by decide +kernel
theorem dX8_teethWithoutCutter_34 : decode cX8_teethWithoutCutter 34 = .ok (.ireturn, 1) := by decide +kernel
theorem dX8_leastWithDrivers_0 : decode cX8_leastWithDrivers 0 = .ok (.iconst (-1), 1) := by decide +kernel
theorem dX8_leastWithDrivers_1 : decode cX8_leastWithDrivers 1 = .ok (.istore_n 3, 1) := by decide +kernel
theorem dX8_leastWithDrivers_2 : decode cX8_leastWithDrivers 2 = .ok (.bipush 8, 2) := by decide +kernel
theorem dX8_leastWithDrivers_4 : decode cX8_leastWithDrivers 4 = .ok (.istore 4, 2) := by decide +kernel
theorem dX8_leastWithDrivers_6 : decode cX8_leastWithDrivers 6 = .ok (.iload 4, 2) := by decide +kernel
theorem dX8_leastWithDrivers_8 : decode cX8_leastWithDrivers 8 = .ok (.bipush 20, 2) := by decide +kernel
theorem dX8_leastWithDrivers_10 : decode cX8_leastWithDrivers 10 = .ok (.if_icmp .gt 61, 3) := by decide +kernel
theorem dX8_leastWithDrivers_13 : decode cX8_leastWithDrivers 13 = .ok (.iload_n 1, 1) := by decide +kernel
theorem dX8_leastWithDrivers_14 : decode cX8_leastWithDrivers 14 = .ok (.iload 4, 2) := by decide +kernel
theorem dX8_leastWithDrivers_16 : decode cX8_leastWithDrivers 16 = .ok (.idiv, 1) := by decide +kernel
theorem dX8_leastWithDrivers_17 : decode cX8_leastWithDrivers 17 = .ok (.istore 5, 2) := by decide +kernel
theorem dX8_leastWithDrivers_19 : decode cX8_leastWithDrivers 19 = .ok (.iload 5, 2) := by decide +kernel
theorem dX8_leastWithDrivers_21 : decode cX8_leastWithDrivers 21 = .ok (.iload 4, 2) := by decide +kernel
theorem dX8_leastWithDrivers_23 : decode cX8_leastWithDrivers 23 = .ok (.imul, 1) := by decide +kernel
theorem dX8_leastWithDrivers_24 : decode cX8_leastWithDrivers 24 = .ok (.iload_n 1, 1) := by decide +kernel
theorem dX8_leastWithDrivers_25 : decode cX8_leastWithDrivers 25 = .ok (.if_icmp .ne 40, 3) := by decide +kernel
theorem dX8_leastWithDrivers_28 : decode cX8_leastWithDrivers 28 = .ok (.iload 5, 2) := by decide +kernel
theorem dX8_leastWithDrivers_30 : decode cX8_leastWithDrivers 30 = .ok (.iload 4, 2) := by decide +kernel
theorem dX8_leastWithDrivers_32 : decode cX8_leastWithDrivers 32 = .ok (.bipush 20, 2) := by decide +kernel
theorem dX8_leastWithDrivers_34 : decode cX8_leastWithDrivers 34 = .ok (.invokestatic 53, 3) := by decide +kernel
theorem dX8_leastWithDrivers_37 : decode cX8_leastWithDrivers 37 = .ok (.ifCond .ne 28, 3) := by decide +kernel
theorem dX8_leastWithDrivers_40 : decode cX8_leastWithDrivers 40 = .ok (.iload_n 0, 1) := by decide +kernel
theorem dX8_leastWithDrivers_41 : decode cX8_leastWithDrivers 41 = .ok (.iconst 1, 1) := by decide +kernel
theorem dX8_leastWithDrivers_42 : decode cX8_leastWithDrivers 42 = .ok (.iload 4, 2) := by decide +kernel
theorem dX8_leastWithDrivers_44 : decode cX8_leastWithDrivers 44 = .ok (.ishl, 1) := by decide +kernel
theorem dX8_leastWithDrivers_45 : decode cX8_leastWithDrivers 45 = .ok (.ior, 1) := by decide +kernel
theorem dX8_leastWithDrivers_46 : decode cX8_leastWithDrivers 46 = .ok (.iconst 1, 1) := by decide +kernel
theorem dX8_leastWithDrivers_47 : decode cX8_leastWithDrivers 47 = .ok (.iload 5, 2) := by decide +kernel
theorem dX8_leastWithDrivers_49 : decode cX8_leastWithDrivers 49 = .ok (.ishl, 1) := by decide +kernel
theorem dX8_leastWithDrivers_50 : decode cX8_leastWithDrivers 50 = .ok (.ior, 1) := by decide +kernel
theorem dX8_leastWithDrivers_51 : decode cX8_leastWithDrivers 51 = .ok (.istore 6, 2) := by decide +kernel
theorem dX8_leastWithDrivers_53 : decode cX8_leastWithDrivers 53 = .ok (.iload_n 3, 1) := by decide +kernel
theorem dX8_leastWithDrivers_54 : decode cX8_leastWithDrivers 54 = .ok (.iload 6, 2) := by decide +kernel
theorem dX8_leastWithDrivers_56 : decode cX8_leastWithDrivers 56 = .ok (.iload_n 2, 1) := by decide +kernel
theorem dX8_leastWithDrivers_57 : decode cX8_leastWithDrivers 57 = .ok (.iand, 1) := by decide +kernel
theorem dX8_leastWithDrivers_58 : decode cX8_leastWithDrivers 58 = .ok (.invokestatic 294, 3) := by decide +kernel
theorem dX8_leastWithDrivers_61 : decode cX8_leastWithDrivers 61 = .ok (.invokestatic 240, 3) := by decide +kernel
theorem dX8_leastWithDrivers_64 : decode cX8_leastWithDrivers 64 = .ok (.istore_n 3, 1) := by decide +kernel
theorem dX8_leastWithDrivers_65 : decode cX8_leastWithDrivers 65 = .ok (.iinc 4 1, 3) := by decide +kernel
theorem dX8_leastWithDrivers_68 : decode cX8_leastWithDrivers 68 = .ok (.goto (-62), 3) := by decide +kernel
theorem dX8_leastWithDrivers_71 : decode cX8_leastWithDrivers 71 = .ok (.iload_n 3, 1) := by decide +kernel
theorem dX8_leastWithDrivers_72 : decode cX8_leastWithDrivers 72 = .ok (.ireturn, 1) := by decide +kernel
theorem dX8_lesser_0 : decode cX8_lesser 0 = .ok (.iload_n 0, 1) := by decide +kernel
theorem dX8_lesser_1 : decode cX8_lesser 1 = .ok (.iconst (-1), 1) := by decide +kernel
theorem dX8_lesser_2 : decode cX8_lesser 2 = .ok (.if_icmp .ne 5, 3) := by decide +kernel
theorem dX8_lesser_5 : decode cX8_lesser 5 = .ok (.iload_n 1, 1) := by decide +kernel
theorem dX8_lesser_6 : decode cX8_lesser 6 = .ok (.ireturn, 1) := by decide +kernel
theorem dX8_lesser_7 : decode cX8_lesser 7 = .ok (.iload_n 1, 1) := by decide +kernel
theorem dX8_lesser_8 : decode cX8_lesser 8 = .ok (.iconst (-1), 1) := by decide +kernel
theorem dX8_lesser_9 : decode cX8_lesser 9 = .ok (.if_icmp .ne 7, 3) := by decide +kernel
theorem dX8_lesser_12 : decode cX8_lesser 12 = .ok (.iload_n 0, 1) := by decide +kernel
theorem dX8_lesser_13 : decode cX8_lesser 13 = .ok (.goto 8, 3) := by decide +kernel
theorem dX8_lesser_16 : decode cX8_lesser 16 = .ok (.iload_n 0, 1) := by decide +kernel
theorem dX8_lesser_17 : decode cX8_lesser 17 = .ok (.iload_n 1, 1) := by decide +kernel
theorem dX8_lesser_18 : decode cX8_lesser 18 = .ok (.invokestatic 299, 3) := by decide +kernel
theorem dX8_lesser_21 : decode cX8_lesser 21 = .ok (.ireturn, 1) := by decide +kernel
theorem dX8_commonDivisor_0 : decode cX8_commonDivisor 0 = .ok (.lload_n 0, 1) := by decide +kernel
theorem dX8_commonDivisor_1 : decode cX8_commonDivisor 1 = .ok (.lstore 4, 2) := by decide +kernel
theorem dX8_commonDivisor_3 : decode cX8_commonDivisor 3 = .ok (.lload_n 2, 1) := by decide +kernel
theorem dX8_commonDivisor_4 : decode cX8_commonDivisor 4 = .ok (.lstore 6, 2) := by decide +kernel
theorem dX8_commonDivisor_6 : decode cX8_commonDivisor 6 = .ok (.iconst 0, 1) := by decide +kernel
theorem dX8_commonDivisor_7 : decode cX8_commonDivisor 7 = .ok (.istore 8, 2) := by decide +kernel
theorem dX8_commonDivisor_9 : decode cX8_commonDivisor 9 = .ok (.iload 8, 2) := by decide +kernel
theorem dX8_commonDivisor_11 : decode cX8_commonDivisor 11 = .ok (.bipush 100, 2) := by decide +kernel
theorem dX8_commonDivisor_13 : decode cX8_commonDivisor 13 = .ok (.if_icmp .ge 31, 3) := by decide +kernel
theorem dX8_commonDivisor_16 : decode cX8_commonDivisor 16 = .ok (.lload 6, 2) := by decide +kernel
theorem dX8_commonDivisor_18 : decode cX8_commonDivisor 18 = .ok (.lconst 0, 1) := by decide +kernel
theorem dX8_commonDivisor_19 : decode cX8_commonDivisor 19 = .ok (.lcmp, 1) := by decide +kernel
theorem dX8_commonDivisor_20 : decode cX8_commonDivisor 20 = .ok (.ifCond .eq 24, 3) := by decide +kernel
theorem dX8_commonDivisor_23 : decode cX8_commonDivisor 23 = .ok (.lload 4, 2) := by decide +kernel
theorem dX8_commonDivisor_25 : decode cX8_commonDivisor 25 = .ok (.lload 6, 2) := by decide +kernel
theorem dX8_commonDivisor_27 : decode cX8_commonDivisor 27 = .ok (.lrem, 1) := by decide +kernel
theorem dX8_commonDivisor_28 : decode cX8_commonDivisor 28 = .ok (.lstore 9, 2) := by decide +kernel
theorem dX8_commonDivisor_30 : decode cX8_commonDivisor 30 = .ok (.lload 6, 2) := by decide +kernel
theorem dX8_commonDivisor_32 : decode cX8_commonDivisor 32 = .ok (.lstore 4, 2) := by decide +kernel
theorem dX8_commonDivisor_34 : decode cX8_commonDivisor 34 = .ok (.lload 9, 2) := by decide +kernel
theorem dX8_commonDivisor_36 : decode cX8_commonDivisor 36 = .ok (.lstore 6, 2) := by decide +kernel
theorem dX8_commonDivisor_38 : decode cX8_commonDivisor 38 = .ok (.iinc 8 1, 3) := by decide +kernel
theorem dX8_commonDivisor_41 : decode cX8_commonDivisor 41 = .ok (.goto (-32), 3) := by decide +kernel
theorem dX8_commonDivisor_44 : decode cX8_commonDivisor 44 = .ok (.lload 4, 2) := by decide +kernel
theorem dX8_commonDivisor_46 : decode cX8_commonDivisor 46 = .ok (.lreturn, 1) := by decide +kernel
theorem dX9_init_0 : decode cX9_init 0 = .ok (.aload_n 0, 1) := by decide +kernel
theorem dX9_init_1 : decode cX9_init 1 = .ok (.invokespecial 1, 3) := by decide +kernel
theorem dX9_init_4 : decode cX9_init 4 = .ok (.aload_n 0, 1) := by decide +kernel
theorem dX9_init_5 : decode cX9_init 5 = .ok (.bipush 10, 2) := by decide +kernel
theorem dX9_init_7 : decode cX9_init 7 = .ok (.newarray .int, 2) := by decide +kernel
theorem dX9_init_9 : decode cX9_init 9 = .ok (.putfield 7, 3) := by decide +kernel
theorem dX9_init_12 : decode cX9_init 12 = .ok (.aload_n 0, 1) := by decide +kernel
theorem dX9_init_13 : decode cX9_init 13 = .ok (.bipush 10, 2) := by decide +kernel
theorem dX9_init_15 : decode cX9_init 15 = .ok (.newarray .int, 2) := by decide +kernel
theorem dX9_init_17 : decode cX9_init 17 = .ok (.putfield 13, 3) := by decide +kernel
theorem dX9_init_20 : decode cX9_init 20 = .ok (.aload_n 0, 1) := by decide +kernel
theorem dX9_init_21 : decode cX9_init 21 = .ok (.bipush 10, 2) := by decide +kernel
theorem dX9_init_23 : decode cX9_init 23 = .ok (.newarray .int, 2) := by decide +kernel
theorem dX9_init_25 : decode cX9_init 25 = .ok (.putfield 16, 3) := by decide +kernel
theorem dX9_init_28 : decode cX9_init 28 = .ok (.aload_n 0, 1) := by decide +kernel
theorem dX9_init_29 : decode cX9_init 29 = .ok (.bipush 12, 2) := by decide +kernel
theorem dX9_init_31 : decode cX9_init 31 = .ok (.newarray .int, 2) := by decide +kernel
theorem dX9_init_33 : decode cX9_init 33 = .ok (.putfield 19, 3) := by decide +kernel
theorem dX9_init_36 : decode cX9_init 36 = .ok (.aload_n 0, 1) := by decide +kernel
theorem dX9_init_37 : decode cX9_init 37 = .ok (.bipush 8, 2) := by decide +kernel
theorem dX9_init_39 : decode cX9_init 39 = .ok (.newarray .int, 2) := by decide +kernel
theorem dX9_init_41 : decode cX9_init 41 = .ok (.putfield 22, 3) := by decide +kernel
theorem dX9_init_44 : decode cX9_init 44 = .ok (.aload_n 0, 1) := by decide +kernel
theorem dX9_init_45 : decode cX9_init 45 = .ok (.bipush 96, 2) := by decide +kernel
theorem dX9_init_47 : decode cX9_init 47 = .ok (.newarray .int, 2) := by decide +kernel
theorem dX9_init_49 : decode cX9_init 49 = .ok (.putfield 25, 3) := by decide +kernel
theorem dX9_init_52 : decode cX9_init 52 = .ok (.aload_n 0, 1) := by decide +kernel
theorem dX9_init_53 : decode cX9_init 53 = .ok (.bipush 8, 2) := by decide +kernel
theorem dX9_init_55 : decode cX9_init 55 = .ok (.newarray .int, 2) := by decide +kernel
theorem dX9_init_57 : decode cX9_init 57 = .ok (.putfield 28, 3) := by decide +kernel
theorem dX9_init_60 : decode cX9_init 60 = .ok (.aload_n 0, 1) := by decide +kernel
theorem dX9_init_61 : decode cX9_init 61 = .ok (.bipush 12, 2) := by decide +kernel
theorem dX9_init_63 : decode cX9_init 63 = .ok (.newarray .int, 2) := by decide +kernel
theorem dX9_init_65 : decode cX9_init 65 = .ok (.putfield 31, 3) := by decide +kernel
theorem dX9_init_68 : decode cX9_init 68 = .ok (.aload_n 0, 1) := by decide +kernel
theorem dX9_init_69 : decode cX9_init 69 = .ok (.bipush 12, 2) := by decide +kernel
theorem dX9_init_71 : decode cX9_init 71 = .ok (.newarray .int, 2) := by decide +kernel
theorem dX9_init_73 : decode cX9_init 73 = .ok (.putfield 34, 3) := by decide +kernel
theorem dX9_init_76 : decode cX9_init 76 = .ok (.aload_n 0, 1) := by decide +kernel
theorem dX9_init_77 : decode cX9_init 77 = .ok (.bipush 12, 2) := by decide +kernel
theorem dX9_init_79 : decode cX9_init 79 = .ok (.newarray .boolean, 2) := by decide +kernel
theorem dX9_init_81 : decode cX9_init 81 = .ok (.putfield 37, 3) := by decide +kernel
theorem dX9_init_84 : decode cX9_init 84 = .ok (.aload_n 0, 1) := by decide +kernel
theorem dX9_init_85 : decode cX9_init 85 = .ok (.bipush 48, 2) := by decide +kernel
theorem dX9_init_87 : decode cX9_init 87 = .ok (.newarray .int, 2) := by decide +kernel
theorem dX9_init_89 : decode cX9_init 89 = .ok (.putfield 41, 3) := by decide +kernel
theorem dX9_init_92 : decode cX9_init 92 = .ok (.aload_n 0, 1) := by decide +kernel
theorem dX9_init_93 : decode cX9_init 93 = .ok (.bipush 96, 2) := by decide +kernel
theorem dX9_init_95 : decode cX9_init 95 = .ok (.newarray .int, 2) := by decide +kernel
theorem dX9_init_97 : decode cX9_init 97 = .ok (.putfield 44, 3) := by decide +kernel
theorem dX9_init_100 : decode cX9_init 100 = .ok (.aload_n 0, 1) := by decide +kernel
theorem dX9_init_101 : decode cX9_init 101 = .ok (.bipush 96, 2) := by decide +kernel
theorem dX9_init_103 : decode cX9_init 103 = .ok (.newarray .int, 2) := by decide +kernel
theorem dX9_init_105 : decode cX9_init 105 = .ok (.putfield 47, 3) := by decide +kernel
theorem dX9_init_108 : decode cX9_init 108 = .ok (.aload_n 0, 1) := by decide +kernel
theorem dX9_init_109 : decode cX9_init 109 = .ok (.bipush 96, 2) := by decide +kernel
theorem dX9_init_111 : decode cX9_init 111 = .ok (.newarray .int, 2) := by decide +kernel
theorem dX9_init_113 : decode cX9_init 113 = .ok (.putfield 50, 3) := by decide +kernel
theorem dX9_init_116 : decode cX9_init 116 = .ok (.aload_n 0, 1) := by decide +kernel
theorem dX9_init_117 : decode cX9_init 117 = .ok (.bipush 96, 2) := by decide +kernel
theorem dX9_init_119 : decode cX9_init 119 = .ok (.newarray .int, 2) := by decide +kernel
theorem dX9_init_121 : decode cX9_init 121 = .ok (.putfield 53, 3) := by decide +kernel
theorem dX9_init_124 : decode cX9_init 124 = .ok (.aload_n 0, 1) := by decide +kernel
theorem dX9_init_125 : decode cX9_init 125 = .ok (.iconst 3, 1) := by decide +kernel
theorem dX9_init_126 : decode cX9_init 126 = .ok (.newarray .int, 2) := by decide +kernel
theorem dX9_init_128 : decode cX9_init 128 = .ok (.putfield 56, 3) := by decide +kernel
theorem dX9_init_131 : decode cX9_init 131 = .ok (.aload_n 0, 1) := by decide +kernel
theorem dX9_init_132 : decode cX9_init 132 = .ok (.iconst 3, 1) := by decide +kernel
theorem dX9_init_133 : decode cX9_init 133 = .ok (.newarray .int, 2) := by decide +kernel
theorem dX9_init_135 : decode cX9_init 135 = .ok (.putfield 59, 3) := by decide +kernel
theorem dX9_init_138 : decode cX9_init 138 = .ok (.aload_n 0, 1) := by decide +kernel
theorem dX9_init_139 : decode cX9_init 139 = .ok (.iconst 3, 1) := by decide +kernel
theorem dX9_init_140 : decode cX9_init 140 = .ok (.newarray .int, 2) := by decide +kernel
theorem dX9_init_142 : decode cX9_init 142 = .ok (.putfield 62, 3) := by decide +kernel
theorem dX9_init_145 : decode cX9_init 145 = .ok (.iconst 0, 1) := by decide +kernel
theorem dX9_init_146 : decode cX9_init 146 = .ok (.istore_n 1, 1) := by decide +kernel
theorem dX9_init_147 : decode cX9_init 147 = .ok (.iload_n 1, 1) := by decide +kernel
theorem dX9_init_148 : decode cX9_init 148 = .ok (.iconst 3, 1) := by decide +kernel
theorem dX9_init_149 : decode cX9_init 149 = .ok (.if_icmp .ge 23, 3) := by decide +kernel
theorem dX9_init_152 : decode cX9_init 152 = .ok (.aload_n 0, 1) := by decide +kernel
theorem dX9_init_153 : decode cX9_init 153 = .ok (.getfield 56, 3) := by decide +kernel
theorem dX9_init_156 : decode cX9_init 156 = .ok (.iload_n 1, 1) := by decide +kernel
theorem dX9_init_157 : decode cX9_init 157 = .ok (.iconst (-1), 1) := by decide +kernel
theorem dX9_init_158 : decode cX9_init 158 = .ok (.iastore, 1) := by decide +kernel
theorem dX9_init_159 : decode cX9_init 159 = .ok (.aload_n 0, 1) := by decide +kernel
theorem dX9_init_160 : decode cX9_init 160 = .ok (.getfield 59, 3) := by decide +kernel
theorem dX9_init_163 : decode cX9_init 163 = .ok (.iload_n 1, 1) := by decide +kernel
theorem dX9_init_164 : decode cX9_init 164 = .ok (.iconst (-1), 1) := by decide +kernel
theorem dX9_init_165 : decode cX9_init 165 = .ok (.iastore, 1) := by decide +kernel
theorem dX9_init_166 : decode cX9_init 166 = .ok (.iinc 1 1, 3) := by decide +kernel
theorem dX9_init_169 : decode cX9_init 169 = .ok (.goto (-22), 3) := by decide +kernel
theorem dX9_init_172 : decode cX9_init 172 = .ok (.return_, 1) := by decide +kernel
theorem dX9_thrown_0 : decode cX9_thrown 0 = .ok (.aload_n 0, 1) := by decide +kernel
theorem dX9_thrown_1 : decode cX9_thrown 1 = .ok (.getfield 65, 3) := by decide +kernel
theorem dX9_thrown_4 : decode cX9_thrown 4 = .ok (.ireturn, 1) := by decide +kernel
theorem dX9_in_0 : decode cX9_in 0 = .ok (.iload_n 0, 1) := by decide +kernel
theorem dX9_in_1 : decode cX9_in 1 = .ok (.iload_n 1, 1) := by decide +kernel
theorem dX9_in_2 : decode cX9_in 2 = .ok (.if_icmp .lt 12, 3) := by decide +kernel
theorem dX9_in_5 : decode cX9_in 5 = .ok (.iload_n 0, 1) := by decide +kernel
theorem dX9_in_6 : decode cX9_in 6 = .ok (.iload_n 2, 1) := by decide +kernel
theorem dX9_in_7 : decode cX9_in 7 = .ok (.if_icmp .gt 7, 3) := by decide +kernel
theorem dX9_in_10 : decode cX9_in 10 = .ok (.iconst 1, 1) := by decide +kernel
theorem dX9_in_11 : decode cX9_in 11 = .ok (.goto 4, 3) := by decide +kernel
theorem dX9_in_14 : decode cX9_in 14 = .ok (.iconst 0, 1) := by decide +kernel
theorem dX9_in_15 : decode cX9_in 15 = .ok (.ireturn, 1) := by decide +kernel
theorem dX9_isTrain_0 : decode cX9_isTrain 0 = .ok (.aload_n 0, 1) := by decide +kernel
theorem dX9_isTrain_1 : decode cX9_isTrain 1 = .ok (.iload_n 1, 1) := by decide +kernel
theorem dX9_isTrain_2 : decode cX9_isTrain 2 = .ok (.iconst 0, 1) := by decide +kernel
theorem dX9_isTrain_3 : decode cX9_isTrain 3 = .ok (.aload_n 0, 1) := by decide +kernel
theorem dX9_isTrain_4 : decode cX9_isTrain 4 = .ok (.getfield 69, 3) := by decide +kernel
theorem dX9_isTrain_7 : decode cX9_isTrain 7 = .ok (.iconst 1, 1) := by decide +kernel
theorem dX9_isTrain_8 : decode cX9_isTrain 8 = .ok (.isub, 1) := by decide +kernel
theorem dX9_isTrain_9 : decode cX9_isTrain 9 = .ok (.invokestatic 72, 3) := by decide +kernel
theorem dX9_isTrain_12 : decode cX9_isTrain 12 = .ok (.ifCond .eq 7, 3) := by decide +kernel
theorem dX9_isTrain_15 : decode cX9_isTrain 15 = .ok (.iconst 0, 1) := by decide +kernel
theorem dX9_isTrain_16 : decode cX9_isTrain 16 = .ok (.goto 4, 3) := by decide +kernel
theorem dX9_isTrain_19 : decode cX9_isTrain 19 = .ok (.iconst 1, 1) := by decide +kernel
theorem dX9_isTrain_20 : decode cX9_isTrain 20 = .ok (.putfield 65, 3) := by decide +kernel
theorem dX9_isTrain_23 : decode cX9_isTrain 23 = .ok (.aload_n 0, 1) := by decide +kernel
theorem dX9_isTrain_24 : decode cX9_isTrain 24 = .ok (.getfield 65, 3) := by decide +kernel
theorem dX9_isTrain_27 : decode cX9_isTrain 27 = .ok (.ifCond .ne 7, 3) := by decide +kernel
theorem dX9_isTrain_30 : decode cX9_isTrain 30 = .ok (.iconst 1, 1) := by decide +kernel
theorem dX9_isTrain_31 : decode cX9_isTrain 31 = .ok (.goto 4, 3) := by decide +kernel
theorem dX9_isTrain_34 : decode cX9_isTrain 34 = .ok (.iconst 0, 1) := by decide +kernel
theorem dX9_isTrain_35 : decode cX9_isTrain 35 = .ok (.ireturn, 1) := by decide +kernel
theorem dX9_isOrder_0 : decode cX9_isOrder 0 = .ok (.aload_n 0, 1) := by decide +kernel
theorem dX9_isOrder_1 : decode cX9_isOrder 1 = .ok (.iload_n 1, 1) := by decide +kernel
theorem dX9_isOrder_2 : decode cX9_isOrder 2 = .ok (.iconst 0, 1) := by decide +kernel
theorem dX9_isOrder_3 : decode cX9_isOrder 3 = .ok (.aload_n 0, 1) := by decide +kernel
theorem dX9_isOrder_4 : decode cX9_isOrder 4 = .ok (.getfield 76, 3) := by decide +kernel
theorem dX9_isOrder_7 : decode cX9_isOrder 7 = .ok (.iconst 1, 1) := by decide +kernel
theorem dX9_isOrder_8 : decode cX9_isOrder 8 = .ok (.isub, 1) := by decide +kernel
theorem dX9_isOrder_9 : decode cX9_isOrder 9 = .ok (.invokestatic 72, 3) := by decide +kernel
theorem dX9_isOrder_12 : decode cX9_isOrder 12 = .ok (.ifCond .eq 7, 3) := by decide +kernel
theorem dX9_isOrder_15 : decode cX9_isOrder 15 = .ok (.iconst 0, 1) := by decide +kernel
theorem dX9_isOrder_16 : decode cX9_isOrder 16 = .ok (.goto 4, 3) := by decide +kernel
theorem dX9_isOrder_19 : decode cX9_isOrder 19 = .ok (.iconst 1, 1) := by decide +kernel
theorem dX9_isOrder_20 : decode cX9_isOrder 20 = .ok (.putfield 65, 3) := by decide +kernel
theorem dX9_isOrder_23 : decode cX9_isOrder 23 = .ok (.aload_n 0, 1) := by decide +kernel
theorem dX9_isOrder_24 : decode cX9_isOrder 24 = .ok (.getfield 65, 3) := by decide +kernel
theorem dX9_isOrder_27 : decode cX9_isOrder 27 = .ok (.ifCond .ne 7, 3) := by decide +kernel
theorem dX9_isOrder_30 : decode cX9_isOrder 30 = .ok (.iconst 1, 1) := by decide +kernel
theorem dX9_isOrder_31 : decode cX9_isOrder 31 = .ok (.goto 4, 3) := by decide +kernel
theorem dX9_isOrder_34 : decode cX9_isOrder 34 = .ok (.iconst 0, 1) := by decide +kernel
theorem dX9_isOrder_35 : decode cX9_isOrder 35 = .ok (.ireturn, 1) := by decide +kernel
theorem dX9_isMachine_0 : decode cX9_isMachine 0 = .ok (.aload_n 0, 1) := by decide +kernel
theorem dX9_isMachine_1 : decode cX9_isMachine 1 = .ok (.iload_n 1, 1) := by decide +kernel
theorem dX9_isMachine_2 : decode cX9_isMachine 2 = .ok (.iconst 0, 1) := by decide +kernel
theorem dX9_isMachine_3 : decode cX9_isMachine 3 = .ok (.iconst 2, 1) := by decide +kernel
theorem dX9_isMachine_4 : decode cX9_isMachine 4 = .ok (.invokestatic 72, 3) := by decide +kernel
theorem dX9_isMachine_7 : decode cX9_isMachine 7 = .ok (.ifCond .eq 7, 3) := by decide +kernel
theorem dX9_isMachine_10 : decode cX9_isMachine 10 = .ok (.iconst 0, 1) := by decide +kernel
theorem dX9_isMachine_11 : decode cX9_isMachine 11 = .ok (.goto 4, 3) := by decide +kernel
theorem dX9_isMachine_14 : decode cX9_isMachine 14 = .ok (.iconst 1, 1) := by decide +kernel
theorem dX9_isMachine_15 : decode cX9_isMachine 15 = .ok (.putfield 65, 3) := by decide +kernel
theorem dX9_isMachine_18 : decode cX9_isMachine 18 = .ok (.aload_n 0, 1) := by decide +kernel
theorem dX9_isMachine_19 : decode cX9_isMachine 19 = .ok (.getfield 65, 3) := by decide +kernel
theorem dX9_isMachine_22 : decode cX9_isMachine 22 = .ok (.ifCond .ne 7, 3) := by decide +kernel
theorem dX9_isMachine_25 : decode cX9_isMachine 25 = .ok (.iconst 1, 1) := by decide +kernel
theorem dX9_isMachine_26 : decode cX9_isMachine 26 = .ok (.goto 4, 3) := by decide +kernel
theorem dX9_isMachine_29 : decode cX9_isMachine 29 = .ok (.iconst 0, 1) := by decide +kernel
theorem dX9_isMachine_30 : decode cX9_isMachine 30 = .ok (.ireturn, 1) := by decide +kernel
theorem dX9_addCutter_0 : decode cX9_addCutter 0 = .ok (.iload_n 1, 1) := by decide +kernel
theorem dX9_addCutter_1 : decode cX9_addCutter 1 = .ok (.iconst 1, 1) := by decide +kernel
theorem dX9_addCutter_2 : decode cX9_addCutter 2 = .ok (.iconst 4, 1) := by decide +kernel
theorem dX9_addCutter_3 : decode cX9_addCutter 3 = .ok (.invokestatic 72, 3) := by decide +kernel
theorem dX9_addCutter_6 : decode cX9_addCutter 6 = .ok (.ifCond .eq 28, 3) := by decide +kernel
theorem dX9_addCutter_9 : decode cX9_addCutter 9 = .ok (.iload_n 2, 1) := by decide +kernel
theorem dX9_addCutter_10 : decode cX9_addCutter 10 = .ok (.bipush 8, 2) := by decide +kernel
theorem dX9_addCutter_12 : decode cX9_addCutter 12 = .ok (.bipush 60, 2) := by decide +kernel
theorem dX9_addCutter_14 : decode cX9_addCutter 14 = .ok (.invokestatic 72, 3) := by decide +kernel
theorem dX9_addCutter_17 : decode cX9_addCutter 17 = .ok (.ifCond .eq 17, 3) := by decide +kernel
theorem dX9_addCutter_20 : decode cX9_addCutter 20 = .ok (.iload_n 3, 1) := by decide +kernel
theorem dX9_addCutter_21 : decode cX9_addCutter 21 = .ok (.iload_n 2, 1) := by decide +kernel
theorem dX9_addCutter_22 : decode cX9_addCutter 22 = .ok (.bipush 60, 2) := by decide +kernel
theorem dX9_addCutter_24 : decode cX9_addCutter 24 = .ok (.invokestatic 72, 3) := by decide +kernel
theorem dX9_addCutter_27 : decode cX9_addCutter 27 = .ok (.ifCond .eq 7, 3) := by decide +kernel
theorem dX9_addCutter_30 : decode cX9_addCutter 30 = .ok (.iconst 1, 1) := by decide +kernel
theorem dX9_addCutter_31 : decode cX9_addCutter 31 = .ok (.goto 4, 3) := by decide +kernel
theorem dX9_addCutter_34 : decode cX9_addCutter 34 = .ok (.iconst 0, 1) := by decide +kernel
theorem dX9_addCutter_35 : decode cX9_addCutter 35 = .ok (.istore 4, 2) := by decide +kernel
theorem dX9_addCutter_37 : decode cX9_addCutter 37 = .ok (.aload_n 0, 1) := by decide +kernel
theorem dX9_addCutter_38 : decode cX9_addCutter 38 = .ok (.iload 4, 2) := by decide +kernel
theorem dX9_addCutter_40 : decode cX9_addCutter 40 = .ok (.ifCond .ne 7, 3) := by decide +kernel
theorem dX9_addCutter_43 : decode cX9_addCutter 43 = .ok (.iconst 1, 1) := by decide +kernel
theorem dX9_addCutter_44 : decode cX9_addCutter 44 = .ok (.goto 17, 3) := by decide +kernel
theorem dX9_addCutter_47 : decode cX9_addCutter 47 = .ok (.aload_n 0, 1) := by decide +kernel
theorem dX9_addCutter_48 : decode cX9_addCutter 48 = .ok (.getfield 79, 3) := by decide +kernel
theorem dX9_addCutter_51 : decode cX9_addCutter 51 = .ok (.bipush 10, 2) := by decide +kernel
theorem dX9_addCutter_53 : decode cX9_addCutter 53 = .ok (.if_icmp .ne 7, 3) := by decide +kernel
theorem dX9_addCutter_56 : decode cX9_addCutter 56 = .ok (.iconst 2, 1) := by decide +kernel
theorem dX9_addCutter_57 : decode cX9_addCutter 57 = .ok (.goto 4, 3) := by decide +kernel
theorem dX9_addCutter_60 : decode cX9_addCutter 60 = .ok (.iconst 0, 1) := by decide +kernel
theorem dX9_addCutter_61 : decode cX9_addCutter 61 = .ok (.putfield 65, 3) := by decide +kernel
theorem dX9_addCutter_64 : decode cX9_addCutter 64 = .ok (.aload_n 0, 1) := by decide +kernel
theorem dX9_addCutter_65 : decode cX9_addCutter 65 = .ok (.getfield 65, 3) := by decide +kernel
theorem dX9_addCutter_68 : decode cX9_addCutter 68 = .ok (.ifCond .le 5, 3) := by decide +kernel
theorem dX9_addCutter_71 : decode cX9_addCutter 71 = .ok (.iconst 0, 1) := by decide +kernel
theorem dX9_addCutter_72 : decode cX9_addCutter 72 = .ok (.ireturn, 1) := by decide +kernel
theorem dX9_addCutter_73 : decode cX9_addCutter 73 = .ok (.aload_n 0, 1) := by decide +kernel
theorem dX9_addCutter_74 : decode cX9_addCutter 74 = .ok (.getfield 7, 3) := by decide +kernel
theorem dX9_addCutter_77 : decode cX9_addCutter 77 = .ok (.aload_n 0, 1) := by decide +kernel
theorem dX9_addCutter_78 : decode cX9_addCutter 78 = .ok (.getfield 79, 3) := by decide +kernel
theorem dX9_addCutter_81 : decode cX9_addCutter 81 = .ok (.iload_n 1, 1) := by decide +kernel
theorem dX9_addCutter_82 : decode cX9_addCutter 82 = .ok (.iastore, 1) := by decide +kernel
theorem dX9_addCutter_83 : decode cX9_addCutter 83 = .ok (.aload_n 0, 1) := by decide +kernel
theorem dX9_addCutter_84 : decode cX9_addCutter 84 = .ok (.getfield 13, 3) := by decide +kernel
theorem dX9_addCutter_87 : decode cX9_addCutter 87 = .ok (.aload_n 0, 1) := by decide +kernel
theorem dX9_addCutter_88 : decode cX9_addCutter 88 = .ok (.getfield 79, 3) := by decide +kernel
theorem dX9_addCutter_91 : decode cX9_addCutter 91 = .ok (.iload_n 2, 1) := by decide +kernel
theorem dX9_addCutter_92 : decode cX9_addCutter 92 = .ok (.iastore, 1) := by decide +kernel
theorem dX9_addCutter_93 : decode cX9_addCutter 93 = .ok (.aload_n 0, 1) := by decide +kernel
theorem dX9_addCutter_94 : decode cX9_addCutter 94 = .ok (.getfield 16, 3) := by decide +kernel
theorem dX9_addCutter_97 : decode cX9_addCutter 97 = .ok (.aload_n 0, 1) := by decide +kernel
theorem dX9_addCutter_98 : decode cX9_addCutter 98 = .ok (.getfield 79, 3) := by decide +kernel
theorem dX9_addCutter_101 : decode cX9_addCutter 101 = .ok (.iload_n 3, 1) := by decide +kernel
theorem dX9_addCutter_102 : decode cX9_addCutter 102 = .ok (.iastore, 1) := by decide +kernel
theorem dX9_addCutter_103 : decode cX9_addCutter 103 = .ok (.aload_n 0, 1) := by decide +kernel
theorem dX9_addCutter_104 : decode cX9_addCutter 104 = .ok (.dup, 1) := by decide +kernel
theorem dX9_addCutter_105 : decode cX9_addCutter 105 = .ok (.getfield 79, 3) := by decide +kernel
theorem dX9_addCutter_108 : decode cX9_addCutter 108 = .ok (.iconst 1, 1) := by decide +kernel
theorem dX9_addCutter_109 : decode cX9_addCutter 109 = .ok (.iadd, 1) := by decide +kernel
theorem dX9_addCutter_110 : decode cX9_addCutter 110 = .ok (.putfield 79, 3) := by decide +kernel
theorem dX9_addCutter_113 : decode cX9_addCutter 113 = .ok (.aload_n 0, 1) := by decide +kernel
theorem dX9_addCutter_114 : decode cX9_addCutter 114 = .ok (.getfield 79, 3) := by decide +kernel
theorem dX9_addCutter_117 : decode cX9_addCutter 117 = .ok (.iconst 1, 1) := by decide +kernel
theorem dX9_addCutter_118 : decode cX9_addCutter 118 = .ok (.isub, 1) := by decide +kernel
theorem dX9_addCutter_119 : decode cX9_addCutter 119 = .ok (.ireturn, 1) := by decide +kernel
theorem dX9_cutter_0 : decode cX9_cutter 0 = .ok (.iconst (-1), 1) := by decide +kernel
theorem dX9_cutter_1 : decode cX9_cutter 1 = .ok (.istore_n 3, 1) := by decide +kernel
theorem dX9_cutter_2 : decode cX9_cutter 2 = .ok (.aload_n 0, 1) := by decide +kernel
theorem dX9_cutter_3 : decode cX9_cutter 3 = .ok (.getfield 79, 3) := by decide +kernel
theorem dX9_cutter_6 : decode cX9_cutter 6 = .ok (.iconst 1, 1) := by decide +kernel
theorem dX9_cutter_7 : decode cX9_cutter 7 = .ok (.isub, 1) := by decide +kernel
theorem dX9_cutter_8 : decode cX9_cutter 8 = .ok (.istore 4, 2) := by decide +kernel
theorem dX9_cutter_10 : decode cX9_cutter 10 = .ok (.iload 4, 2) := by decide +kernel
theorem dX9_cutter_12 : decode cX9_cutter 12 = .ok (.ifCond .lt 48, 3) := by decide +kernel
theorem dX9_cutter_15 : decode cX9_cutter 15 = .ok (.aload_n 0, 1) := by decide +kernel
theorem dX9_cutter_16 : decode cX9_cutter 16 = .ok (.getfield 7, 3) := by decide +kernel
theorem dX9_cutter_19 : decode cX9_cutter 19 = .ok (.iload 4, 2) := by decide +kernel
theorem dX9_cutter_21 : decode cX9_cutter 21 = .ok (.iaload, 1) := by decide +kernel
theorem dX9_cutter_22 : decode cX9_cutter 22 = .ok (.iload_n 1, 1) := by decide +kernel
theorem dX9_cutter_23 : decode cX9_cutter 23 = .ok (.if_icmp .ne 29, 3) := by decide +kernel
theorem dX9_cutter_26 : decode cX9_cutter 26 = .ok (.iload_n 2, 1) := by decide +kernel
theorem dX9_cutter_27 : decode cX9_cutter 27 = .ok (.aload_n 0, 1) := by decide +kernel
theorem dX9_cutter_28 : decode cX9_cutter 28 = .ok (.getfield 13, 3) := by decide +kernel
theorem dX9_cutter_31 : decode cX9_cutter 31 = .ok (.iload 4, 2) := by decide +kernel
theorem dX9_cutter_33 : decode cX9_cutter 33 = .ok (.iaload, 1) := by decide +kernel
theorem dX9_cutter_34 : decode cX9_cutter 34 = .ok (.aload_n 0, 1) := by decide +kernel
theorem dX9_cutter_35 : decode cX9_cutter 35 = .ok (.getfield 16, 3) := by decide +kernel
theorem dX9_cutter_38 : decode cX9_cutter 38 = .ok (.iload 4, 2) := by decide +kernel
theorem dX9_cutter_40 : decode cX9_cutter 40 = .ok (.iaload, 1) := by decide +kernel
theorem dX9_cutter_41 : decode cX9_cutter 41 = .ok (.invokestatic 72, 3) := by decide +kernel
theorem dX9_cutter_44 : decode cX9_cutter 44 = .ok (.ifCond .eq 8, 3) := by decide +kernel
theorem dX9_cutter_47 : decode cX9_cutter 47 = .ok (.iload 4, 2) := by decide +kernel
theorem dX9_cutter_49 : decode cX9_cutter 49 = .ok (.goto 4, 3) := by decide +kernel
theorem dX9_cutter_52 : decode cX9_cutter 52 = .ok (.iload_n 3, 1) := by decide +kernel
theorem dX9_cutter_53 : decode cX9_cutter 53 = .ok (.istore_n 3, 1) := by decide +kernel
theorem dX9_cutter_54 : decode cX9_cutter 54 = .ok (.iinc 4 (-1), 3) := by decide +kernel
theorem dX9_cutter_57 : decode cX9_cutter 57 = .ok (.goto (-47), 3) := by decide +kernel
theorem dX9_cutter_60 : decode cX9_cutter 60 = .ok (.iload_n 3, 1) := by decide +kernel
theorem dX9_cutter_61 : decode cX9_cutter 61 = .ok (.ireturn, 1) := by decide +kernel
theorem dX9_cutterFor_0 : decode cX9_cutterFor 0 = .ok (.aload_n 0, 1) := by decide +kernel
theorem dX9_cutterFor_1 : decode cX9_cutterFor 1 = .ok (.iload_n 1, 1) := by decide +kernel
theorem dX9_cutterFor_2 : decode cX9_cutterFor 2 = .ok (.iconst 1, 1) := by decide +kernel
theorem dX9_cutterFor_3 : decode cX9_cutterFor 3 = .ok (.iconst 4, 1) := by decide +kernel
theorem dX9_cutterFor_4 : decode cX9_cutterFor 4 = .ok (.invokestatic 72, 3) := by decide +kernel
theorem dX9_cutterFor_7 : decode cX9_cutterFor 7 = .ok (.ifCond .eq 18, 3) := by decide +kernel
theorem dX9_cutterFor_10 : decode cX9_cutterFor 10 = .ok (.iload_n 2, 1) := by decide +kernel
theorem dX9_cutterFor_11 : decode cX9_cutterFor 11 = .ok (.bipush 8, 2) := by decide +kernel
theorem dX9_cutterFor_13 : decode cX9_cutterFor 13 = .ok (.bipush 60, 2) := by decide +kernel
theorem dX9_cutterFor_15 : decode cX9_cutterFor 15 = .ok (.invokestatic 72, 3) := by decide +kernel
theorem dX9_cutterFor_18 : decode cX9_cutterFor 18 = .ok (.ifCond .eq 7, 3) := by decide +kernel
theorem dX9_cutterFor_21 : decode cX9_cutterFor 21 = .ok (.iconst 0, 1) := by decide +kernel
theorem dX9_cutterFor_22 : decode cX9_cutterFor 22 = .ok (.goto 4, 3) := by decide +kernel
theorem dX9_cutterFor_25 : decode cX9_cutterFor 25 = .ok (.iconst 1, 1) := by decide +kernel
theorem dX9_cutterFor_26 : decode cX9_cutterFor 26 = .ok (.putfield 65, 3) := by decide +kernel
theorem dX9_cutterFor_29 : decode cX9_cutterFor 29 = .ok (.aload_n 0, 1) := by decide +kernel
theorem dX9_cutterFor_30 : decode cX9_cutterFor 30 = .ok (.getfield 65, 3) := by decide +kernel
theorem dX9_cutterFor_33 : decode cX9_cutterFor 33 = .ok (.ifCond .le 7, 3) := by decide +kernel
theorem dX9_cutterFor_36 : decode cX9_cutterFor 36 = .ok (.iconst 0, 1) := by decide +kernel
theorem dX9_cutterFor_37 : decode cX9_cutterFor 37 = .ok (.goto 9, 3) := by decide +kernel
theorem dX9_cutterFor_40 : decode cX9_cutterFor 40 = .ok (.aload_n 0, 1) := by decide +kernel
theorem dX9_cutterFor_41 : decode cX9_cutterFor 41 = .ok (.iload_n 1, 1) := by decide +kernel
theorem dX9_cutterFor_42 : decode cX9_cutterFor 42 = .ok (.iload_n 2, 1) := by decide +kernel
theorem dX9_cutterFor_43 : decode cX9_cutterFor 43 = .ok (.invokevirtual 82, 3) := by decide +kernel
theorem dX9_cutterFor_46 : decode cX9_cutterFor 46 = .ok (.ireturn, 1) := by decide +kernel
theorem dX9_draftDistance_0 : decode cX9_draftDistance 0 = .ok (.iconst 0, 1) := by decide +kernel
theorem dX9_draftDistance_1 : decode cX9_draftDistance 1 = .ok (.istore_n 1, 1) := by decide +kernel
theorem dX9_draftDistance_2 : decode cX9_draftDistance 2 = .ok (.iconst 0, 1) := by decide +kernel
theorem dX9_draftDistance_3 : decode cX9_draftDistance 3 = .ok (.istore_n 2, 1) := by decide +kernel
theorem dX9_draftDistance_4 : decode cX9_draftDistance 4 = .ok (.iload_n 2, 1) := by decide +kernel
theorem dX9_draftDistance_5 : decode cX9_draftDistance 5 = .ok (.aload_n 0, 1) := by decide +kernel
theorem dX9_draftDistance_6 : decode cX9_draftDistance 6 = .ok (.getfield 86, 3) := by decide +kernel
theorem dX9_draftDistance_9 : decode cX9_draftDistance 9 = .ok (.if_icmp .ge 42, 3) := by decide +kernel
theorem dX9_draftDistance_12 : decode cX9_draftDistance 12 = .ok (.iload_n 1, 1) := by decide +kernel
theorem dX9_draftDistance_13 : decode cX9_draftDistance 13 = .ok (.aload_n 0, 1) := by decide +kernel
theorem dX9_draftDistance_14 : decode cX9_draftDistance 14 = .ok (.getfield 19, 3) := by decide +kernel
theorem dX9_draftDistance_17 : decode cX9_draftDistance 17 = .ok (.iconst 3, 1) := by decide +kernel
theorem dX9_draftDistance_18 : decode cX9_draftDistance 18 = .ok (.iload_n 2, 1) := by decide +kernel
theorem dX9_draftDistance_19 : decode cX9_draftDistance 19 = .ok (.imul, 1) := by decide +kernel
theorem dX9_draftDistance_20 : decode cX9_draftDistance 20 = .ok (.iaload, 1) := by decide +kernel
theorem dX9_draftDistance_21 : decode cX9_draftDistance 21 = .ok (.aload_n 0, 1) := by decide +kernel
theorem dX9_draftDistance_22 : decode cX9_draftDistance 22 = .ok (.getfield 19, 3) := by decide +kernel
theorem dX9_draftDistance_25 : decode cX9_draftDistance 25 = .ok (.iconst 3, 1) := by decide +kernel
theorem dX9_draftDistance_26 : decode cX9_draftDistance 26 = .ok (.iload_n 2, 1) := by decide +kernel
theorem dX9_draftDistance_27 : decode cX9_draftDistance 27 = .ok (.imul, 1) := by decide +kernel
theorem dX9_draftDistance_28 : decode cX9_draftDistance 28 = .ok (.iconst 1, 1) := by decide +kernel
theorem dX9_draftDistance_29 : decode cX9_draftDistance 29 = .ok (.iadd, 1) := by decide +kernel
theorem dX9_draftDistance_30 : decode cX9_draftDistance 30 = .ok (.iaload, 1) := by decide +kernel
theorem dX9_draftDistance_31 : decode cX9_draftDistance 31 = .ok (.aload_n 0, 1) := by decide +kernel
theorem dX9_draftDistance_32 : decode cX9_draftDistance 32 = .ok (.getfield 19, 3) := by decide +kernel
theorem dX9_draftDistance_35 : decode cX9_draftDistance 35 = .ok (.iconst 3, 1) := by decide +kernel
theorem dX9_draftDistance_36 : decode cX9_draftDistance 36 = .ok (.iload_n 2, 1) := by decide +kernel
theorem dX9_draftDistance_37 : decode cX9_draftDistance 37 = .ok (.imul, 1) := by decide +kernel
theorem dX9_draftDistance_38 : decode cX9_draftDistance 38 = .ok (.iconst 2, 1) := by decide +kernel
theorem dX9_draftDistance_39 : decode cX9_draftDistance 39 = .ok (.iadd, 1) := by decide +kernel
theorem dX9_draftDistance_40 : decode cX9_draftDistance 40 = .ok (.iaload, 1) := by decide +kernel
theorem dX9_draftDistance_41 : decode cX9_draftDistance 41 = .ok (.iadd, 1) := by decide +kernel
theorem dX9_draftDistance_42 : decode cX9_draftDistance 42 = .ok (.imul, 1) := by decide +kernel
theorem dX9_draftDistance_43 : decode cX9_draftDistance 43 = .ok (.iadd, 1) := by decide +kernel
theorem dX9_draftDistance_44 : decode cX9_draftDistance 44 = .ok (.istore_n 1, 1) := by decide +kernel
theorem dX9_draftDistance_45 : decode cX9_draftDistance 45 = .ok (.iinc 2 1, 3) := by decide +kernel
theorem dX9_draftDistance_48 : decode cX9_draftDistance 48 = .ok (.goto (-44), 3) := by decide +kernel
theorem dX9_draftDistance_51 : decode cX9_draftDistance 51 = .ok (.iload_n 1, 1) := by decide +kernel
theorem dX9_draftDistance_52 : decode cX9_draftDistance 52 = .ok (.ireturn, 1) := by decide +kernel
theorem dX9_stage_0 : decode cX9_stage 0 = .ok (.iload_n 1, 1) := by decide +kernel
theorem dX9_stage_1 : decode cX9_stage 1 = .ok (.iconst 1, 1) := by decide +kernel
theorem dX9_stage_2 : decode cX9_stage 2 = .ok (.iconst 4, 1) := by decide +kernel
theorem dX9_stage_3 : decode cX9_stage 3 = .ok (.invokestatic 72, 3) := by decide +kernel
theorem dX9_stage_6 : decode cX9_stage 6 = .ok (.ifCond .eq 29, 3) := by decide +kernel
theorem dX9_stage_9 : decode cX9_stage 9 = .ok (.iload_n 2, 1) := by decide +kernel
theorem dX9_stage_10 : decode cX9_stage 10 = .ok (.bipush 8, 2) := by decide +kernel
theorem dX9_stage_12 : decode cX9_stage 12 = .ok (.bipush 60, 2) := by decide +kernel
theorem dX9_stage_14 : decode cX9_stage 14 = .ok (.invokestatic 72, 3) := by decide +kernel
theorem dX9_stage_17 : decode cX9_stage 17 = .ok (.ifCond .eq 18, 3) := by decide +kernel
theorem dX9_stage_20 : decode cX9_stage 20 = .ok (.iload_n 3, 1) := by decide +kernel
theorem dX9_stage_21 : decode cX9_stage 21 = .ok (.bipush 8, 2) := by decide +kernel
theorem dX9_stage_23 : decode cX9_stage 23 = .ok (.bipush 60, 2) := by decide +kernel
theorem dX9_stage_25 : decode cX9_stage 25 = .ok (.invokestatic 72, 3) := by decide +kernel
theorem dX9_stage_28 : decode cX9_stage 28 = .ok (.ifCond .eq 7, 3) := by decide +kernel
theorem dX9_stage_31 : decode cX9_stage 31 = .ok (.iconst 1, 1) := by decide +kernel
theorem dX9_stage_32 : decode cX9_stage 32 = .ok (.goto 4, 3) := by decide +kernel
theorem dX9_stage_35 : decode cX9_stage 35 = .ok (.iconst 0, 1) := by decide +kernel
theorem dX9_stage_36 : decode cX9_stage 36 = .ok (.istore 4, 2) := by decide +kernel
theorem dX9_stage_38 : decode cX9_stage 38 = .ok (.aload_n 0, 1) := by decide +kernel
theorem dX9_stage_39 : decode cX9_stage 39 = .ok (.iload 4, 2) := by decide +kernel
theorem dX9_stage_41 : decode cX9_stage 41 = .ok (.ifCond .ne 7, 3) := by decide +kernel
theorem dX9_stage_44 : decode cX9_stage 44 = .ok (.iconst 1, 1) := by decide +kernel
theorem dX9_stage_45 : decode cX9_stage 45 = .ok (.goto 16, 3) := by decide +kernel
theorem dX9_stage_48 : decode cX9_stage 48 = .ok (.aload_n 0, 1) := by decide +kernel
theorem dX9_stage_49 : decode cX9_stage 49 = .ok (.getfield 86, 3) := by decide +kernel
theorem dX9_stage_52 : decode cX9_stage 52 = .ok (.iconst 4, 1) := by decide +kernel
theorem dX9_stage_53 : decode cX9_stage 53 = .ok (.if_icmp .ne 7, 3) := by decide +kernel
theorem dX9_stage_56 : decode cX9_stage 56 = .ok (.iconst 2, 1) := by decide +kernel
theorem dX9_stage_57 : decode cX9_stage 57 = .ok (.goto 4, 3) := by decide +kernel
theorem dX9_stage_60 : decode cX9_stage 60 = .ok (.iconst 0, 1) := by decide +kernel
theorem dX9_stage_61 : decode cX9_stage 61 = .ok (.putfield 65, 3) := by decide +kernel
theorem dX9_stage_64 : decode cX9_stage 64 = .ok (.aload_n 0, 1) := by decide +kernel
theorem dX9_stage_65 : decode cX9_stage 65 = .ok (.getfield 65, 3) := by decide +kernel
theorem dX9_stage_68 : decode cX9_stage 68 = .ok (.ifCond .le 5, 3) := by decide +kernel
theorem dX9_stage_71 : decode cX9_stage 71 = .ok (.iconst 0, 1) := by decide +kernel
theorem dX9_stage_72 : decode cX9_stage 72 = .ok (.ireturn, 1) := by decide +kernel
theorem dX9_stage_73 : decode cX9_stage 73 = .ok (.aload_n 0, 1) := by decide +kernel
theorem dX9_stage_74 : decode cX9_stage 74 = .ok (.getfield 19, 3) := by decide +kernel
theorem dX9_stage_77 : decode cX9_stage 77 = .ok (.iconst 3, 1) := by decide +kernel
theorem dX9_stage_78 : decode cX9_stage 78 = .ok (.aload_n 0, 1) := by decide +kernel
theorem dX9_stage_79 : decode cX9_stage 79 = .ok (.getfield 86, 3) := by decide +kernel
theorem dX9_stage_82 : decode cX9_stage 82 = .ok (.imul, 1) := by decide +kernel
theorem dX9_stage_83 : decode cX9_stage 83 = .ok (.iload_n 1, 1) := by decide +kernel
theorem dX9_stage_84 : decode cX9_stage 84 = .ok (.iastore, 1) := by decide +kernel
theorem dX9_stage_85 : decode cX9_stage 85 = .ok (.aload_n 0, 1) := by decide +kernel
theorem dX9_stage_86 : decode cX9_stage 86 = .ok (.getfield 19, 3) := by decide +kernel
theorem dX9_stage_89 : decode cX9_stage 89 = .ok (.iconst 3, 1) := by decide +kernel
theorem dX9_stage_90 : decode cX9_stage 90 = .ok (.aload_n 0, 1) := by decide +kernel
theorem dX9_stage_91 : decode cX9_stage 91 = .ok (.getfield 86, 3) := by decide +kernel
theorem dX9_stage_94 : decode cX9_stage 94 = .ok (.imul, 1) := by decide +kernel
theorem dX9_stage_95 : decode cX9_stage 95 = .ok (.iconst 1, 1) := by decide +kernel
theorem dX9_stage_96 : decode cX9_stage 96 = .ok (.iadd, 1) := by decide +kernel
theorem dX9_stage_97 : decode cX9_stage 97 = .ok (.iload_n 2, 1) := by decide +kernel
theorem dX9_stage_98 : decode cX9_stage 98 = .ok (.iastore, 1) := by decide +kernel
theorem dX9_stage_99 : decode cX9_stage 99 = .ok (.aload_n 0, 1) := by decide +kernel
theorem dX9_stage_100 : decode cX9_stage 100 = .ok (.getfield 19, 3) := by decide +kernel
theorem dX9_stage_103 : decode cX9_stage 103 = .ok (.iconst 3, 1) := by decide +kernel
theorem dX9_stage_104 : decode cX9_stage 104 = .ok (.aload_n 0, 1) := by decide +kernel
theorem dX9_stage_105 : decode cX9_stage 105 = .ok (.getfield 86, 3) := by decide +kernel
theorem dX9_stage_108 : decode cX9_stage 108 = .ok (.imul, 1) := by decide +kernel
theorem dX9_stage_109 : decode cX9_stage 109 = .ok (.iconst 2, 1) := by decide +kernel
theorem dX9_stage_110 : decode cX9_stage 110 = .ok (.iadd, 1) := by decide +kernel
theorem dX9_stage_111 : decode cX9_stage 111 = .ok (.iload_n 3, 1) := by decide +kernel
theorem dX9_stage_112 : decode cX9_stage 112 = .ok (.iastore, 1) := by decide +kernel
theorem dX9_stage_113 : decode cX9_stage 113 = .ok (.aload_n 0, 1) := by decide +kernel
theorem dX9_stage_114 : decode cX9_stage 114 = .ok (.dup, 1) := by decide +kernel
theorem dX9_stage_115 : decode cX9_stage 115 = .ok (.getfield 86, 3) := by decide +kernel
theorem dX9_stage_118 : decode cX9_stage 118 = .ok (.iconst 1, 1) := by decide +kernel
theorem dX9_stage_119 : decode cX9_stage 119 = .ok (.iadd, 1) := by decide +kernel
theorem dX9_stage_120 : decode cX9_stage 120 = .ok (.putfield 86, 3) := by decide +kernel
theorem dX9_stage_123 : decode cX9_stage 123 = .ok (.aload_n 0, 1) := by decide +kernel
theorem dX9_stage_124 : decode cX9_stage 124 = .ok (.invokevirtual 89, 3) := by decide +kernel
theorem dX9_stage_127 : decode cX9_stage 127 = .ok (.ireturn, 1) := by decide +kernel
theorem dX9_scrap_0 : decode cX9_scrap 0 = .ok (.aload_n 0, 1) := by decide +kernel
theorem dX9_scrap_1 : decode cX9_scrap 1 = .ok (.iconst 0, 1) := by decide +kernel
theorem dX9_scrap_2 : decode cX9_scrap 2 = .ok (.putfield 65, 3) := by decide +kernel
theorem dX9_scrap_5 : decode cX9_scrap 5 = .ok (.aload_n 0, 1) := by decide +kernel
theorem dX9_scrap_6 : decode cX9_scrap 6 = .ok (.getfield 86, 3) := by decide +kernel
theorem dX9_scrap_9 : decode cX9_scrap 9 = .ok (.istore_n 1, 1) := by decide +kernel
theorem dX9_scrap_10 : decode cX9_scrap 10 = .ok (.aload_n 0, 1) := by decide +kernel
theorem dX9_scrap_11 : decode cX9_scrap 11 = .ok (.iconst 0, 1) := by decide +kernel
theorem dX9_scrap_12 : decode cX9_scrap 12 = .ok (.putfield 86, 3) := by decide +kernel
theorem dX9_scrap_15 : decode cX9_scrap 15 = .ok (.iload_n 1, 1) := by decide +kernel
theorem dX9_scrap_16 : decode cX9_scrap 16 = .ok (.ireturn, 1) := by decide +kernel
theorem dX9_make_0 : decode cX9_make 0 = .ok (.aload_n 0, 1) := by decide +kernel
theorem dX9_make_1 : decode cX9_make 1 = .ok (.getfield 86, 3) := by decide +kernel
theorem dX9_make_4 : decode cX9_make 4 = .ok (.ifCond .le 24, 3) := by decide +kernel
theorem dX9_make_7 : decode cX9_make 7 = .ok (.iload_n 1, 1) := by decide +kernel
theorem dX9_make_8 : decode cX9_make 8 = .ok (.aload_n 0, 1) := by decide +kernel
theorem dX9_make_9 : decode cX9_make 9 = .ok (.invokevirtual 89, 3) := by decide +kernel
theorem dX9_make_12 : decode cX9_make 12 = .ok (.if_icmp .ne 16, 3) := by decide +kernel
theorem dX9_make_15 : decode cX9_make 15 = .ok (.aload_n 0, 1) := by decide +kernel
theorem dX9_make_16 : decode cX9_make 16 = .ok (.getfield 69, 3) := by decide +kernel
theorem dX9_make_19 : decode cX9_make 19 = .ok (.bipush 8, 2) := by decide +kernel
theorem dX9_make_21 : decode cX9_make 21 = .ok (.if_icmp .ge 7, 3) := by decide +kernel
theorem dX9_make_24 : decode cX9_make 24 = .ok (.iconst 1, 1) := by decide +kernel
theorem dX9_make_25 : decode cX9_make 25 = .ok (.goto 4, 3) := by decide +kernel
theorem dX9_make_28 : decode cX9_make 28 = .ok (.iconst 0, 1) := by decide +kernel
theorem dX9_make_29 : decode cX9_make 29 = .ok (.istore_n 2, 1) := by decide +kernel
theorem dX9_make_30 : decode cX9_make 30 = .ok (.iconst 0, 1) := by decide +kernel
theorem dX9_make_31 : decode cX9_make 31 = .ok (.istore_n 3, 1) := by decide +kernel
theorem dX9_make_32 : decode cX9_make 32 = .ok (.iload_n 3, 1) := by decide +kernel
theorem dX9_make_33 : decode cX9_make 33 = .ok (.aload_n 0, 1) := by decide +kernel
theorem dX9_make_34 : decode cX9_make 34 = .ok (.getfield 86, 3) := by decide +kernel
theorem dX9_make_37 : decode cX9_make 37 = .ok (.if_icmp .ge 71, 3) := by decide +kernel
theorem dX9_make_40 : decode cX9_make 40 = .ok (.iload_n 2, 1) := by decide +kernel
theorem dX9_make_41 : decode cX9_make 41 = .ok (.ifCond .eq 59, 3) := by decide +kernel
theorem dX9_make_44 : decode cX9_make 44 = .ok (.aload_n 0, 1) := by decide +kernel
theorem dX9_make_45 : decode cX9_make 45 = .ok (.aload_n 0, 1) := by decide +kernel
theorem dX9_make_46 : decode cX9_make 46 = .ok (.getfield 19, 3) := by decide +kernel
theorem dX9_make_49 : decode cX9_make 49 = .ok (.iconst 3, 1) := by decide +kernel
theorem dX9_make_50 : decode cX9_make 50 = .ok (.iload_n 3, 1) := by decide +kernel
theorem dX9_make_51 : decode cX9_make 51 = .ok (.imul, 1) := by decide +kernel
theorem dX9_make_52 : decode cX9_make 52 = .ok (.iaload, 1) := by decide +kernel
theorem dX9_make_53 : decode cX9_make 53 = .ok (.aload_n 0, 1) := by decide +kernel
theorem dX9_make_54 : decode cX9_make 54 = .ok (.getfield 19, 3) := by decide +kernel
theorem dX9_make_57 : decode cX9_make 57 = .ok (.iconst 3, 1) := by decide +kernel
theorem dX9_make_58 : decode cX9_make 58 = .ok (.iload_n 3, 1) := by decide +kernel
theorem dX9_make_59 : decode cX9_make 59 = .ok (.imul, 1) := by decide +kernel
theorem dX9_make_60 : decode cX9_make 60 = .ok (.iconst 1, 1) := by decide +kernel
theorem dX9_make_61 : decode cX9_make 61 = .ok (.iadd, 1) := by decide +kernel
theorem dX9_make_62 : decode cX9_make 62 = .ok (.iaload, 1) := by decide +kernel
theorem dX9_make_63 : decode cX9_make 63 = .ok (.invokevirtual 82, 3) := by decide +kernel
theorem dX9_make_66 : decode cX9_make 66 = .ok (.iconst (-1), 1) := by decide +kernel
theorem dX9_make_67 : decode cX9_make 67 = .ok (.if_icmp .eq 33, 3) := by decide +kernel
theorem dX9_make_70 : decode cX9_make 70 = .ok (.aload_n 0, 1) := by decide +kernel
theorem dX9_make_71 : decode cX9_make 71 = .ok (.aload_n 0, 1) := by decide +kernel
theorem dX9_make_72 : decode cX9_make 72 = .ok (.getfield 19, 3) := by decide +kernel
theorem dX9_make_75 : decode cX9_make 75 = .ok (.iconst 3, 1) := by decide +kernel
theorem dX9_make_76 : decode cX9_make 76 = .ok (.iload_n 3, 1) := by decide +kernel
theorem dX9_make_77 : decode cX9_make 77 = .ok (.imul, 1) := by decide +kernel
theorem dX9_make_78 : decode cX9_make 78 = .ok (.iaload, 1) := by decide +kernel
theorem dX9_make_79 : decode cX9_make 79 = .ok (.aload_n 0, 1) := by decide +kernel
theorem dX9_make_80 : decode cX9_make 80 = .ok (.getfield 19, 3) := by decide +kernel
theorem dX9_make_83 : decode cX9_make 83 = .ok (.iconst 3, 1) := by decide +kernel
theorem dX9_make_84 : decode cX9_make 84 = .ok (.iload_n 3, 1) := by decide +kernel
theorem dX9_make_85 : decode cX9_make 85 = .ok (.imul, 1) := by decide +kernel
theorem dX9_make_86 : decode cX9_make 86 = .ok (.iconst 2, 1) := by decide +kernel
theorem dX9_make_87 : decode cX9_make 87 = .ok (.iadd, 1) := by decide +kernel
theorem dX9_make_88 : decode cX9_make 88 = .ok (.iaload, 1) := by decide +kernel
theorem dX9_make_89 : decode cX9_make 89 = .ok (.invokevirtual 82, 3) := by decide +kernel
theorem dX9_make_92 : decode cX9_make 92 = .ok (.iconst (-1), 1) := by decide +kernel
theorem dX9_make_93 : decode cX9_make 93 = .ok (.if_icmp .eq 7, 3) := by decide +kernel
theorem dX9_make_96 : decode cX9_make 96 = .ok (.iconst 1, 1) := by decide +kernel
theorem dX9_make_97 : decode cX9_make 97 = .ok (.goto 4, 3) := by decide +kernel
theorem dX9_make_100 : decode cX9_make 100 = .ok (.iconst 0, 1) := by decide +kernel
theorem dX9_make_101 : decode cX9_make 101 = .ok (.istore_n 2, 1) := by decide +kernel
theorem dX9_make_102 : decode cX9_make 102 = .ok (.iinc 3 1, 3) := by decide +kernel
theorem dX9_make_105 : decode cX9_make 105 = .ok (.goto (-73), 3) := by decide +kernel
theorem dX9_make_108 : decode cX9_make 108 = .ok (.aload_n 0, 1) := by decide +kernel
theorem dX9_make_109 : decode cX9_make 109 = .ok (.iload_n 2, 1) := by decide +kernel
theorem dX9_make_110 : decode cX9_make 110 = .ok (.ifCond .eq 7, 3) := by decide +kernel
theorem dX9_make_113 : decode cX9_make 113 = .ok (.iconst 0, 1) := by decide +kernel
theorem dX9_make_114 : decode cX9_make 114 = .ok (.goto 4, 3) := by decide +kernel
theorem dX9_make_117 : decode cX9_make 117 = .ok (.iconst 1, 1) := by decide +kernel
theorem dX9_make_118 : decode cX9_make 118 = .ok (.putfield 65, 3) := by decide +kernel
theorem dX9_make_121 : decode cX9_make 121 = .ok (.aload_n 0, 1) := by decide +kernel
theorem dX9_make_122 : decode cX9_make 122 = .ok (.getfield 65, 3) := by decide +kernel
theorem dX9_make_125 : decode cX9_make 125 = .ok (.ifCond .le 5, 3) := by decide +kernel
theorem dX9_make_128 : decode cX9_make 128 = .ok (.iconst 0, 1) := by decide +kernel
theorem dX9_make_129 : decode cX9_make 129 = .ok (.ireturn, 1) := by decide +kernel
theorem dX9_make_130 : decode cX9_make 130 = .ok (.iconst 0, 1) := by decide +kernel
theorem dX9_make_131 : decode cX9_make 131 = .ok (.istore_n 3, 1) := by decide +kernel
theorem dX9_make_132 : decode cX9_make 132 = .ok (.iload_n 3, 1) := by decide +kernel
theorem dX9_make_133 : decode cX9_make 133 = .ok (.iconst 3, 1) := by decide +kernel
theorem dX9_make_134 : decode cX9_make 134 = .ok (.aload_n 0, 1) := by decide +kernel
theorem dX9_make_135 : decode cX9_make 135 = .ok (.getfield 86, 3) := by decide +kernel
theorem dX9_make_138 : decode cX9_make 138 = .ok (.imul, 1) := by decide +kernel
theorem dX9_make_139 : decode cX9_make 139 = .ok (.if_icmp .ge 29, 3) := by decide +kernel
theorem dX9_make_142 : decode cX9_make 142 = .ok (.aload_n 0, 1) := by decide +kernel
theorem dX9_make_143 : decode cX9_make 143 = .ok (.getfield 25, 3) := by decide +kernel
theorem dX9_make_146 : decode cX9_make 146 = .ok (.bipush 12, 2) := by decide +kernel
theorem dX9_make_148 : decode cX9_make 148 = .ok (.aload_n 0, 1) := by decide +kernel
theorem dX9_make_149 : decode cX9_make 149 = .ok (.getfield 69, 3) := by decide +kernel
theorem dX9_make_152 : decode cX9_make 152 = .ok (.imul, 1) := by decide +kernel
theorem dX9_make_153 : decode cX9_make 153 = .ok (.iload_n 3, 1) := by decide +kernel
theorem dX9_make_154 : decode cX9_make 154 = .ok (.iadd, 1) := by decide +kernel
theorem dX9_make_155 : decode cX9_make 155 = .ok (.aload_n 0, 1) := by decide +kernel
theorem dX9_make_156 : decode cX9_make 156 = .ok (.getfield 19, 3) := by decide +kernel
theorem dX9_make_159 : decode cX9_make 159 = .ok (.iload_n 3, 1) := by decide +kernel
theorem dX9_make_160 : decode cX9_make 160 = .ok (.iaload, 1) := by decide +kernel
theorem dX9_make_161 : decode cX9_make 161 = .ok (.iastore, 1) := by decide +kernel
theorem dX9_make_162 : decode cX9_make 162 = .ok (.iinc 3 1, 3) := by decide +kernel
theorem dX9_make_165 : decode cX9_make 165 = .ok (.goto (-33), 3) := by decide +kernel
theorem dX9_make_168 : decode cX9_make 168 = .ok (.aload_n 0, 1) := by decide +kernel
theorem dX9_make_169 : decode cX9_make 169 = .ok (.getfield 22, 3) := by decide +kernel
theorem dX9_make_172 : decode cX9_make 172 = .ok (.aload_n 0, 1) := by decide +kernel
theorem dX9_make_173 : decode cX9_make 173 = .ok (.getfield 69, 3) := by decide +kernel
theorem dX9_make_176 : decode cX9_make 176 = .ok (.aload_n 0, 1) := by decide +kernel
theorem dX9_make_177 : decode cX9_make 177 = .ok (.getfield 86, 3) := by decide +kernel
theorem dX9_make_180 : decode cX9_make 180 = .ok (.iastore, 1) := by decide +kernel
theorem dX9_make_181 : decode cX9_make 181 = .ok (.aload_n 0, 1) := by decide +kernel
theorem dX9_make_182 : decode cX9_make 182 = .ok (.iconst 0, 1) := by decide +kernel
theorem dX9_make_183 : decode cX9_make 183 = .ok (.putfield 86, 3) := by decide +kernel
theorem dX9_make_186 : decode cX9_make 186 = .ok (.aload_n 0, 1) := by decide +kernel
theorem dX9_make_187 : decode cX9_make 187 = .ok (.dup, 1) := by decide +kernel
theorem dX9_make_188 : decode cX9_make 188 = .ok (.getfield 69, 3) := by decide +kernel
theorem dX9_make_191 : decode cX9_make 191 = .ok (.iconst 1, 1) := by decide +kernel
theorem dX9_make_192 : decode cX9_make 192 = .ok (.iadd, 1) := by decide +kernel
theorem dX9_make_193 : decode cX9_make 193 = .ok (.putfield 69, 3) := by decide +kernel
theorem dX9_make_196 : decode cX9_make 196 = .ok (.aload_n 0, 1) := by decide +kernel
theorem dX9_make_197 : decode cX9_make 197 = .ok (.getfield 69, 3) := by decide +kernel
theorem dX9_make_200 : decode cX9_make 200 = .ok (.iconst 1, 1) := by decide +kernel
theorem dX9_make_201 : decode cX9_make 201 = .ok (.isub, 1) := by decide +kernel
theorem dX9_make_202 : decode cX9_make 202 = .ok (.ireturn, 1) := by decide +kernel
theorem dX9_product_0 : decode cX9_product 0 = .ok (.iconst 1, 1) := by decide +kernel
theorem dX9_product_1 : decode cX9_product 1 = .ok (.istore_n 3, 1) := by decide +kernel
theorem dX9_product_2 : decode cX9_product 2 = .ok (.iconst 0, 1) := by decide +kernel
theorem dX9_product_3 : decode cX9_product 3 = .ok (.istore 4, 2) := by decide +kernel
theorem dX9_product_5 : decode cX9_product 5 = .ok (.iload 4, 2) := by decide +kernel
theorem dX9_product_7 : decode cX9_product 7 = .ok (.aload_n 0, 1) := by decide +kernel
theorem dX9_product_8 : decode cX9_product 8 = .ok (.getfield 22, 3) := by decide +kernel
theorem dX9_product_11 : decode cX9_product 11 = .ok (.iload_n 1, 1) := by decide +kernel
theorem dX9_product_12 : decode cX9_product 12 = .ok (.iaload, 1) := by decide +kernel
theorem dX9_product_13 : decode cX9_product 13 = .ok (.if_icmp .ge 28, 3) := by decide +kernel
theorem dX9_product_16 : decode cX9_product 16 = .ok (.iload_n 3, 1) := by decide +kernel
theorem dX9_product_17 : decode cX9_product 17 = .ok (.aload_n 0, 1) := by decide +kernel
theorem dX9_product_18 : decode cX9_product 18 = .ok (.getfield 25, 3) := by decide +kernel
theorem dX9_product_21 : decode cX9_product 21 = .ok (.bipush 12, 2) := by decide +kernel
theorem dX9_product_23 : decode cX9_product 23 = .ok (.iload_n 1, 1) := by decide +kernel
theorem dX9_product_24 : decode cX9_product 24 = .ok (.imul, 1) := by decide +kernel
theorem dX9_product_25 : decode cX9_product 25 = .ok (.iconst 3, 1) := by decide +kernel
theorem dX9_product_26 : decode cX9_product 26 = .ok (.iload 4, 2) := by decide +kernel
theorem dX9_product_28 : decode cX9_product 28 = .ok (.imul, 1) := by decide +kernel
theorem dX9_product_29 : decode cX9_product 29 = .ok (.iadd, 1) := by decide +kernel
theorem dX9_product_30 : decode cX9_product 30 = .ok (.iload_n 2, 1) := by decide +kernel
theorem dX9_product_31 : decode cX9_product 31 = .ok (.iadd, 1) := by decide +kernel
theorem dX9_product_32 : decode cX9_product 32 = .ok (.iaload, 1) := by decide +kernel
theorem dX9_product_33 : decode cX9_product 33 = .ok (.imul, 1) := by decide +kernel
theorem dX9_product_34 : decode cX9_product 34 = .ok (.istore_n 3, 1) := by decide +kernel
theorem dX9_product_35 : decode cX9_product 35 = .ok (.iinc 4 1, 3) := by decide +kernel
theorem dX9_product_38 : decode cX9_product 38 = .ok (.goto (-33), 3) := by decide +kernel
theorem dX9_product_41 : decode cX9_product 41 = .ok (.iload_n 3, 1) := by decide +kernel
theorem dX9_product_42 : decode cX9_product 42 = .ok (.ireturn, 1) := by decide +kernel
theorem dX9_common_0 : decode cX9_common 0 = .ok (.iload_n 0, 1) := by decide +kernel
theorem dX9_common_1 : decode cX9_common 1 = .ok (.istore_n 2, 1) := by decide +kernel
theorem dX9_common_2 : decode cX9_common 2 = .ok (.iload_n 1, 1) := by decide +kernel
theorem dX9_common_3 : decode cX9_common 3 = .ok (.istore_n 3, 1) := by decide +kernel
theorem dX9_common_4 : decode cX9_common 4 = .ok (.iload_n 3, 1) := by decide +kernel
theorem dX9_common_5 : decode cX9_common 5 = .ok (.ifCond .le 16, 3) := by decide +kernel
theorem dX9_common_8 : decode cX9_common 8 = .ok (.iload_n 2, 1) := by decide +kernel
theorem dX9_common_9 : decode cX9_common 9 = .ok (.iload_n 3, 1) := by decide +kernel
theorem dX9_common_10 : decode cX9_common 10 = .ok (.irem, 1) := by decide +kernel
theorem dX9_common_11 : decode cX9_common 11 = .ok (.istore 4, 2) := by decide +kernel
theorem dX9_common_13 : decode cX9_common 13 = .ok (.iload_n 3, 1) := by decide +kernel
theorem dX9_common_14 : decode cX9_common 14 = .ok (.istore_n 2, 1) := by decide +kernel
theorem dX9_common_15 : decode cX9_common 15 = .ok (.iload 4, 2) := by decide +kernel
theorem dX9_common_17 : decode cX9_common 17 = .ok (.istore_n 3, 1) := by decide +kernel
theorem dX9_common_18 : decode cX9_common 18 = .ok (.goto (-14), 3) := by decide +kernel
theorem dX9_common_21 : decode cX9_common 21 = .ok (.iload_n 2, 1) := by decide +kernel
theorem dX9_common_22 : decode cX9_common 22 = .ok (.ireturn, 1) := by decide +kernel
theorem dX9_numerator_0 : decode cX9_numerator 0 = .ok (.aload_n 0, 1) := by decide +kernel
theorem dX9_numerator_1 : decode cX9_numerator 1 = .ok (.iload_n 1, 1) := by decide +kernel
theorem dX9_numerator_2 : decode cX9_numerator 2 = .ok (.invokevirtual 93, 3) := by decide +kernel
theorem dX9_numerator_5 : decode cX9_numerator 5 = .ok (.ifCond .eq 28, 3) := by decide +kernel
theorem dX9_numerator_8 : decode cX9_numerator 8 = .ok (.aload_n 0, 1) := by decide +kernel
theorem dX9_numerator_9 : decode cX9_numerator 9 = .ok (.iload_n 1, 1) := by decide +kernel
theorem dX9_numerator_10 : decode cX9_numerator 10 = .ok (.iconst 2, 1) := by decide +kernel
theorem dX9_numerator_11 : decode cX9_numerator 11 = .ok (.invokevirtual 97, 3) := by decide +kernel
theorem dX9_numerator_14 : decode cX9_numerator 14 = .ok (.aload_n 0, 1) := by decide +kernel
theorem dX9_numerator_15 : decode cX9_numerator 15 = .ok (.iload_n 1, 1) := by decide +kernel
theorem dX9_numerator_16 : decode cX9_numerator 16 = .ok (.iconst 2, 1) := by decide +kernel
theorem dX9_numerator_17 : decode cX9_numerator 17 = .ok (.invokevirtual 97, 3) := by decide +kernel
theorem dX9_numerator_20 : decode cX9_numerator 20 = .ok (.aload_n 0, 1) := by decide +kernel
theorem dX9_numerator_21 : decode cX9_numerator 21 = .ok (.iload_n 1, 1) := by decide +kernel
theorem dX9_numerator_22 : decode cX9_numerator 22 = .ok (.iconst 1, 1) := by decide +kernel
theorem dX9_numerator_23 : decode cX9_numerator 23 = .ok (.invokevirtual 97, 3) := by decide +kernel
theorem dX9_numerator_26 : decode cX9_numerator 26 = .ok (.invokestatic 100, 3) := by decide +kernel
theorem dX9_numerator_29 : decode cX9_numerator 29 = .ok (.idiv, 1) := by decide +kernel
theorem dX9_numerator_30 : decode cX9_numerator 30 = .ok (.goto 4, 3) := by decide +kernel
theorem dX9_numerator_33 : decode cX9_numerator 33 = .ok (.iconst 0, 1) := by decide +kernel
theorem dX9_numerator_34 : decode cX9_numerator 34 = .ok (.ireturn, 1) := by decide +kernel
theorem dX9_denominator_0 : decode cX9_denominator 0 = .ok (.aload_n 0, 1) := by decide +kernel
theorem dX9_denominator_1 : decode cX9_denominator 1 = .ok (.iload_n 1, 1) := by decide +kernel
theorem dX9_denominator_2 : decode cX9_denominator 2 = .ok (.invokevirtual 93, 3) := by decide +kernel
theorem dX9_denominator_5 : decode cX9_denominator 5 = .ok (.ifCond .eq 28, 3) := by decide +kernel
theorem dX9_denominator_8 : decode cX9_denominator 8 = .ok (.aload_n 0, 1) := by decide +kernel
theorem dX9_denominator_9 : decode cX9_denominator 9 = .ok (.iload_n 1, 1) := by decide +kernel
theorem dX9_denominator_10 : decode cX9_denominator 10 = .ok (.iconst 1, 1) := by decide +kernel
theorem dX9_denominator_11 : decode cX9_denominator 11 = .ok (.invokevirtual 97, 3) := by decide +kernel
theorem dX9_denominator_14 : decode cX9_denominator 14 = .ok (.aload_n 0, 1) := by decide +kernel
theorem dX9_denominator_15 : decode cX9_denominator 15 = .ok (.iload_n 1, 1) := by decide +kernel
theorem dX9_denominator_16 : decode cX9_denominator 16 = .ok (.iconst 2, 1) := by decide +kernel
theorem dX9_denominator_17 : decode cX9_denominator 17 = .ok (.invokevirtual 97, 3) := by decide +kernel
theorem dX9_denominator_20 : decode cX9_denominator 20 = .ok (.aload_n 0, 1) := by decide +kernel
theorem dX9_denominator_21 : decode cX9_denominator 21 = .ok (.iload_n 1, 1) := by decide +kernel
theorem dX9_denominator_22 : decode cX9_denominator 22 = .ok (.iconst 1, 1) := by decide +kernel
theorem dX9_denominator_23 : decode cX9_denominator 23 = .ok (.invokevirtual 97, 3) := by decide +kernel
theorem dX9_denominator_26 : decode cX9_denominator 26 = .ok (.invokestatic 100, 3) := by decide +kernel
theorem dX9_denominator_29 : decode cX9_denominator 29 = .ok (.idiv, 1) := by decide +kernel
theorem dX9_denominator_30 : decode cX9_denominator 30 = .ok (.goto 4, 3) := by decide +kernel
theorem dX9_denominator_33 : decode cX9_denominator 33 = .ok (.iconst 0, 1) := by decide +kernel
theorem dX9_denominator_34 : decode cX9_denominator 34 = .ok (.ireturn, 1) := by decide +kernel
theorem dX9_turned_0 : decode cX9_turned 0 = .ok (.aload_n 0, 1) := by decide +kernel
theorem dX9_turned_1 : decode cX9_turned 1 = .ok (.aload_n 0, 1) := by decide +kernel
theorem dX9_turned_2 : decode cX9_turned 2 = .ok (.iload_n 1, 1) := by decide +kernel
theorem dX9_turned_3 : decode cX9_turned 3 = .ok (.invokevirtual 93, 3) := by decide +kernel
theorem dX9_turned_6 : decode cX9_turned 6 = .ok (.ifCond .ne 7, 3) := by decide +kernel
theorem dX9_turned_9 : decode cX9_turned 9 = .ok (.iconst 1, 1) := by decide +kernel
theorem dX9_turned_10 : decode cX9_turned 10 = .ok (.goto 18, 3) := by decide +kernel
theorem dX9_turned_13 : decode cX9_turned 13 = .ok (.iload_n 2, 1) := by decide +kernel
theorem dX9_turned_14 : decode cX9_turned 14 = .ok (.iconst 0, 1) := by decide +kernel
theorem dX9_turned_15 : decode cX9_turned 15 = .ok (.ldc 103, 2) := by decide +kernel
theorem dX9_turned_17 : decode cX9_turned 17 = .ok (.invokestatic 72, 3) := by decide +kernel
theorem dX9_turned_20 : decode cX9_turned 20 = .ok (.ifCond .eq 7, 3) := by decide +kernel
theorem dX9_turned_23 : decode cX9_turned 23 = .ok (.iconst 0, 1) := by decide +kernel
theorem dX9_turned_24 : decode cX9_turned 24 = .ok (.goto 4, 3) := by decide +kernel
theorem dX9_turned_27 : decode cX9_turned 27 = .ok (.iconst 2, 1) := by decide +kernel
theorem dX9_turned_28 : decode cX9_turned 28 = .ok (.putfield 65, 3) := by decide +kernel
theorem dX9_turned_31 : decode cX9_turned 31 = .ok (.aload_n 0, 1) := by decide +kernel
theorem dX9_turned_32 : decode cX9_turned 32 = .ok (.getfield 65, 3) := by decide +kernel
theorem dX9_turned_35 : decode cX9_turned 35 = .ok (.ifCond .le 7, 3) := by decide +kernel
theorem dX9_turned_38 : decode cX9_turned 38 = .ok (.iconst 0, 1) := by decide +kernel
theorem dX9_turned_39 : decode cX9_turned 39 = .ok (.goto 22, 3) := by decide +kernel
theorem dX9_turned_42 : decode cX9_turned 42 = .ok (.iload_n 2, 1) := by decide +kernel
theorem dX9_turned_43 : decode cX9_turned 43 = .ok (.i2l, 1) := by decide +kernel
theorem dX9_turned_44 : decode cX9_turned 44 = .ok (.aload_n 0, 1) := by decide +kernel
theorem dX9_turned_45 : decode cX9_turned 45 = .ok (.iload_n 1, 1) := by decide +kernel
theorem dX9_turned_46 : decode cX9_turned 46 = .ok (.iconst 1, 1) := by decide +kernel
theorem dX9_turned_47 : decode cX9_turned 47 = .ok (.invokevirtual 97, 3) := by decide +kernel
theorem dX9_turned_50 : decode cX9_turned 50 = .ok (.i2l, 1) := by decide +kernel
theorem dX9_turned_51 : decode cX9_turned 51 = .ok (.lmul, 1) := by decide +kernel
theorem dX9_turned_52 : decode cX9_turned 52 = .ok (.aload_n 0, 1) := by decide +kernel
theorem dX9_turned_53 : decode cX9_turned 53 = .ok (.iload_n 1, 1) := by decide +kernel
theorem dX9_turned_54 : decode cX9_turned 54 = .ok (.iconst 2, 1) := by decide +kernel
theorem dX9_turned_55 : decode cX9_turned 55 = .ok (.invokevirtual 97, 3) := by decide +kernel
theorem dX9_turned_58 : decode cX9_turned 58 = .ok (.i2l, 1) := by decide +kernel
theorem dX9_turned_59 : decode cX9_turned 59 = .ok (.ldiv, 1) := by decide +kernel
theorem dX9_turned_60 : decode cX9_turned 60 = .ok (.l2i, 1) := by decide +kernel
theorem dX9_turned_61 : decode cX9_turned 61 = .ok (.ireturn, 1) := by decide +kernel
theorem dX9_turnedByWalk_0 : decode cX9_turnedByWalk 0 = .ok (.aload_n 0, 1) := by decide +kernel
theorem dX9_turnedByWalk_1 : decode cX9_turnedByWalk 1 = .ok (.iload_n 1, 1) := by decide +kernel
theorem dX9_turnedByWalk_2 : decode cX9_turnedByWalk 2 = .ok (.iload_n 2, 1) := by decide +kernel
theorem dX9_turnedByWalk_3 : decode cX9_turnedByWalk 3 = .ok (.invokevirtual 104, 3) := by decide +kernel
theorem dX9_turnedByWalk_6 : decode cX9_turnedByWalk 6 = .ok (.ireturn, 1) := by decide +kernel
theorem dX9_waits_0 : decode cX9_waits 0 = .ok (.aload_n 0, 1) := by decide +kernel
theorem dX9_waits_1 : decode cX9_waits 1 = .ok (.getfield 44, 3) := by decide +kernel
theorem dX9_waits_4 : decode cX9_waits 4 = .ok (.aload_n 0, 1) := by decide +kernel
theorem dX9_waits_5 : decode cX9_waits 5 = .ok (.getfield 107, 3) := by decide +kernel
theorem dX9_waits_8 : decode cX9_waits 8 = .ok (.iload_n 1, 1) := by decide +kernel
theorem dX9_waits_9 : decode cX9_waits 9 = .ok (.iastore, 1) := by decide +kernel
theorem dX9_waits_10 : decode cX9_waits 10 = .ok (.aload_n 0, 1) := by decide +kernel
theorem dX9_waits_11 : decode cX9_waits 11 = .ok (.getfield 47, 3) := by decide +kernel
theorem dX9_waits_14 : decode cX9_waits 14 = .ok (.aload_n 0, 1) := by decide +kernel
theorem dX9_waits_15 : decode cX9_waits 15 = .ok (.getfield 107, 3) := by decide +kernel
theorem dX9_waits_18 : decode cX9_waits 18 = .ok (.aload_n 0, 1) := by decide +kernel
theorem dX9_waits_19 : decode cX9_waits 19 = .ok (.iload_n 2, 1) := by decide +kernel
theorem dX9_waits_20 : decode cX9_waits 20 = .ok (.iload_n 3, 1) := by decide +kernel
theorem dX9_waits_21 : decode cX9_waits 21 = .ok (.invokevirtual 82, 3) := by decide +kernel
theorem dX9_waits_24 : decode cX9_waits 24 = .ok (.iastore, 1) := by decide +kernel
theorem dX9_waits_25 : decode cX9_waits 25 = .ok (.aload_n 0, 1) := by decide +kernel
theorem dX9_waits_26 : decode cX9_waits 26 = .ok (.getfield 50, 3) := by decide +kernel
theorem dX9_waits_29 : decode cX9_waits 29 = .ok (.aload_n 0, 1) := by decide +kernel
theorem dX9_waits_30 : decode cX9_waits 30 = .ok (.getfield 107, 3) := by decide +kernel
theorem dX9_waits_33 : decode cX9_waits 33 = .ok (.iload_n 3, 1) := by decide +kernel
theorem dX9_waits_34 : decode cX9_waits 34 = .ok (.iastore, 1) := by decide +kernel
theorem dX9_waits_35 : decode cX9_waits 35 = .ok (.aload_n 0, 1) := by decide +kernel
theorem dX9_waits_36 : decode cX9_waits 36 = .ok (.getfield 53, 3) := by decide +kernel
theorem dX9_waits_39 : decode cX9_waits 39 = .ok (.aload_n 0, 1) := by decide +kernel
theorem dX9_waits_40 : decode cX9_waits 40 = .ok (.getfield 107, 3) := by decide +kernel
theorem dX9_waits_43 : decode cX9_waits 43 = .ok (.iconst (-1), 1) := by decide +kernel
theorem dX9_waits_44 : decode cX9_waits 44 = .ok (.iastore, 1) := by decide +kernel
theorem dX9_waits_45 : decode cX9_waits 45 = .ok (.aload_n 0, 1) := by decide +kernel
theorem dX9_waits_46 : decode cX9_waits 46 = .ok (.dup, 1) := by decide +kernel
theorem dX9_waits_47 : decode cX9_waits 47 = .ok (.getfield 107, 3) := by decide +kernel
theorem dX9_waits_50 : decode cX9_waits 50 = .ok (.iconst 1, 1) := by decide +kernel
theorem dX9_waits_51 : decode cX9_waits 51 = .ok (.iadd, 1) := by decide +kernel
theorem dX9_waits_52 : decode cX9_waits 52 = .ok (.putfield 107, 3) := by decide +kernel
theorem dX9_waits_55 : decode cX9_waits 55 = .ok (.return_, 1) := by decide +kernel
theorem dX9_order_0 : decode cX9_order 0 = .ok (.aload_n 0, 1) := by decide +kernel
theorem dX9_order_1 : decode cX9_order 1 = .ok (.aload_n 0, 1) := by decide +kernel
theorem dX9_order_2 : decode cX9_order 2 = .ok (.iload_n 1, 1) := by decide +kernel
theorem dX9_order_3 : decode cX9_order 3 = .ok (.invokevirtual 93, 3) := by decide +kernel
theorem dX9_order_6 : decode cX9_order 6 = .ok (.ifCond .ne 7, 3) := by decide +kernel
theorem dX9_order_9 : decode cX9_order 9 = .ok (.iconst 1, 1) := by decide +kernel
theorem dX9_order_10 : decode cX9_order 10 = .ok (.goto 17, 3) := by decide +kernel
theorem dX9_order_13 : decode cX9_order 13 = .ok (.aload_n 0, 1) := by decide +kernel
theorem dX9_order_14 : decode cX9_order 14 = .ok (.getfield 76, 3) := by decide +kernel
theorem dX9_order_17 : decode cX9_order 17 = .ok (.bipush 12, 2) := by decide +kernel
theorem dX9_order_19 : decode cX9_order 19 = .ok (.if_icmp .ne 7, 3) := by decide +kernel
theorem dX9_order_22 : decode cX9_order 22 = .ok (.iconst 2, 1) := by decide +kernel
theorem dX9_order_23 : decode cX9_order 23 = .ok (.goto 4, 3) := by decide +kernel
theorem dX9_order_26 : decode cX9_order 26 = .ok (.iconst 0, 1) := by decide +kernel
theorem dX9_order_27 : decode cX9_order 27 = .ok (.putfield 65, 3) := by decide +kernel
theorem dX9_order_30 : decode cX9_order 30 = .ok (.aload_n 0, 1) := by decide +kernel
theorem dX9_order_31 : decode cX9_order 31 = .ok (.getfield 65, 3) := by decide +kernel
theorem dX9_order_34 : decode cX9_order 34 = .ok (.ifCond .le 5, 3) := by decide +kernel
theorem dX9_order_37 : decode cX9_order 37 = .ok (.iconst 0, 1) := by decide +kernel
theorem dX9_order_38 : decode cX9_order 38 = .ok (.ireturn, 1) := by decide +kernel
theorem dX9_order_39 : decode cX9_order 39 = .ok (.iconst 0, 1) := by decide +kernel
theorem dX9_order_40 : decode cX9_order 40 = .ok (.istore_n 2, 1) := by decide +kernel
theorem dX9_order_41 : decode cX9_order 41 = .ok (.iload_n 2, 1) := by decide +kernel
theorem dX9_order_42 : decode cX9_order 42 = .ok (.aload_n 0, 1) := by decide +kernel
theorem dX9_order_43 : decode cX9_order 43 = .ok (.getfield 22, 3) := by decide +kernel
theorem dX9_order_46 : decode cX9_order 46 = .ok (.iload_n 1, 1) := by decide +kernel
theorem dX9_order_47 : decode cX9_order 47 = .ok (.iaload, 1) := by decide +kernel
theorem dX9_order_48 : decode cX9_order 48 = .ok (.if_icmp .ge 62, 3) := by decide +kernel
theorem dX9_order_51 : decode cX9_order 51 = .ok (.bipush 12, 2) := by decide +kernel
theorem dX9_order_53 : decode cX9_order 53 = .ok (.iload_n 1, 1) := by decide +kernel
theorem dX9_order_54 : decode cX9_order 54 = .ok (.imul, 1) := by decide +kernel
theorem dX9_order_55 : decode cX9_order 55 = .ok (.iconst 3, 1) := by decide +kernel
theorem dX9_order_56 : decode cX9_order 56 = .ok (.iload_n 2, 1) := by decide +kernel
theorem dX9_order_57 : decode cX9_order 57 = .ok (.imul, 1) := by decide +kernel
theorem dX9_order_58 : decode cX9_order 58 = .ok (.iadd, 1) := by decide +kernel
theorem dX9_order_59 : decode cX9_order 59 = .ok (.istore_n 3, 1) := by decide +kernel
theorem dX9_order_60 : decode cX9_order 60 = .ok (.aload_n 0, 1) := by decide +kernel
theorem dX9_order_61 : decode cX9_order 61 = .ok (.aload_n 0, 1) := by decide +kernel
theorem dX9_order_62 : decode cX9_order 62 = .ok (.getfield 76, 3) := by decide +kernel
theorem dX9_order_65 : decode cX9_order 65 = .ok (.aload_n 0, 1) := by decide +kernel
theorem dX9_order_66 : decode cX9_order 66 = .ok (.getfield 25, 3) := by decide +kernel
theorem dX9_order_69 : decode cX9_order 69 = .ok (.iload_n 3, 1) := by decide +kernel
theorem dX9_order_70 : decode cX9_order 70 = .ok (.iaload, 1) := by decide +kernel
theorem dX9_order_71 : decode cX9_order 71 = .ok (.aload_n 0, 1) := by decide +kernel
theorem dX9_order_72 : decode cX9_order 72 = .ok (.getfield 25, 3) := by decide +kernel
theorem dX9_order_75 : decode cX9_order 75 = .ok (.iload_n 3, 1) := by decide +kernel
theorem dX9_order_76 : decode cX9_order 76 = .ok (.iconst 1, 1) := by decide +kernel
theorem dX9_order_77 : decode cX9_order 77 = .ok (.iadd, 1) := by decide +kernel
theorem dX9_order_78 : decode cX9_order 78 = .ok (.iaload, 1) := by decide +kernel
theorem dX9_order_79 : decode cX9_order 79 = .ok (.invokevirtual 110, 3) := by decide +kernel
theorem dX9_order_82 : decode cX9_order 82 = .ok (.aload_n 0, 1) := by decide +kernel
theorem dX9_order_83 : decode cX9_order 83 = .ok (.aload_n 0, 1) := by decide +kernel
theorem dX9_order_84 : decode cX9_order 84 = .ok (.getfield 76, 3) := by decide +kernel
theorem dX9_order_87 : decode cX9_order 87 = .ok (.aload_n 0, 1) := by decide +kernel
theorem dX9_order_88 : decode cX9_order 88 = .ok (.getfield 25, 3) := by decide +kernel
theorem dX9_order_91 : decode cX9_order 91 = .ok (.iload_n 3, 1) := by decide +kernel
theorem dX9_order_92 : decode cX9_order 92 = .ok (.iaload, 1) := by decide +kernel
theorem dX9_order_93 : decode cX9_order 93 = .ok (.aload_n 0, 1) := by decide +kernel
theorem dX9_order_94 : decode cX9_order 94 = .ok (.getfield 25, 3) := by decide +kernel
theorem dX9_order_97 : decode cX9_order 97 = .ok (.iload_n 3, 1) := by decide +kernel
theorem dX9_order_98 : decode cX9_order 98 = .ok (.iconst 2, 1) := by decide +kernel
theorem dX9_order_99 : decode cX9_order 99 = .ok (.iadd, 1) := by decide +kernel
theorem dX9_order_100 : decode cX9_order 100 = .ok (.iaload, 1) := by decide +kernel
theorem dX9_order_101 : decode cX9_order 101 = .ok (.invokevirtual 110, 3) := by decide +kernel
theorem dX9_order_104 : decode cX9_order 104 = .ok (.iinc 2 1, 3) := by decide +kernel
theorem dX9_order_107 : decode cX9_order 107 = .ok (.goto (-66), 3) := by decide +kernel
theorem dX9_order_110 : decode cX9_order 110 = .ok (.aload_n 0, 1) := by decide +kernel
theorem dX9_order_111 : decode cX9_order 111 = .ok (.getfield 31, 3) := by decide +kernel
theorem dX9_order_114 : decode cX9_order 114 = .ok (.aload_n 0, 1) := by decide +kernel
theorem dX9_order_115 : decode cX9_order 115 = .ok (.getfield 76, 3) := by decide +kernel
theorem dX9_order_118 : decode cX9_order 118 = .ok (.iload_n 1, 1) := by decide +kernel
theorem dX9_order_119 : decode cX9_order 119 = .ok (.iastore, 1) := by decide +kernel
theorem dX9_order_120 : decode cX9_order 120 = .ok (.aload_n 0, 1) := by decide +kernel
theorem dX9_order_121 : decode cX9_order 121 = .ok (.getfield 34, 3) := by decide +kernel
theorem dX9_order_124 : decode cX9_order 124 = .ok (.aload_n 0, 1) := by decide +kernel
theorem dX9_order_125 : decode cX9_order 125 = .ok (.getfield 76, 3) := by decide +kernel
theorem dX9_order_128 : decode cX9_order 128 = .ok (.iconst (-1), 1) := by decide +kernel
theorem dX9_order_129 : decode cX9_order 129 = .ok (.iastore, 1) := by decide +kernel
theorem dX9_order_130 : decode cX9_order 130 = .ok (.aload_n 0, 1) := by decide +kernel
theorem dX9_order_131 : decode cX9_order 131 = .ok (.dup, 1) := by decide +kernel
theorem dX9_order_132 : decode cX9_order 132 = .ok (.getfield 76, 3) := by decide +kernel
theorem dX9_order_135 : decode cX9_order 135 = .ok (.iconst 1, 1) := by decide +kernel
theorem dX9_order_136 : decode cX9_order 136 = .ok (.iadd, 1) := by decide +kernel
theorem dX9_order_137 : decode cX9_order 137 = .ok (.putfield 76, 3) := by decide +kernel
theorem dX9_order_140 : decode cX9_order 140 = .ok (.aload_n 0, 1) := by decide +kernel
theorem dX9_order_141 : decode cX9_order 141 = .ok (.getfield 76, 3) := by decide +kernel
theorem dX9_order_144 : decode cX9_order 144 = .ok (.iconst 1, 1) := by decide +kernel
theorem dX9_order_145 : decode cX9_order 145 = .ok (.isub, 1) := by decide +kernel
theorem dX9_order_146 : decode cX9_order 146 = .ok (.ireturn, 1) := by decide +kernel
theorem dX9_isOn_0 : decode cX9_isOn 0 = .ok (.iconst 0, 1) := by decide +kernel
theorem dX9_isOn_1 : decode cX9_isOn 1 = .ok (.istore_n 2, 1) := by decide +kernel
theorem dX9_isOn_2 : decode cX9_isOn 2 = .ok (.iconst 0, 1) := by decide +kernel
end
section
theorem dX9_isOn_3 : decode cX9_isOn 3 = .ok (.istore_n 3, 1) := by decide +kernel
theorem dX9_isOn_4 : decode cX9_isOn 4 = .ok (.iload_n 3, 1) := by decide +kernel
theorem dX9_isOn_5 : decode cX9_isOn 5 = .ok (.iconst 3, 1) := by decide +kernel
theorem dX9_isOn_6 : decode cX9_isOn 6 = .ok (.if_icmp .ge 29, 3) := by decide +kernel
theorem dX9_isOn_9 : decode cX9_isOn 9 = .ok (.iload_n 2, 1) := by decide +kernel
theorem dX9_isOn_10 : decode cX9_isOn 10 = .ok (.ifCond .ne 13, 3) := by decide +kernel
theorem dX9_isOn_13 : decode cX9_isOn 13 = .ok (.aload_n 0, 1) := by decide +kernel
theorem dX9_isOn_14 : decode cX9_isOn 14 = .ok (.getfield 56, 3) := by decide +kernel
theorem dX9_isOn_17 : decode cX9_isOn 17 = .ok (.iload_n 3, 1) := by decide +kernel
theorem dX9_isOn_18 : decode cX9_isOn 18 = .ok (.iaload, 1) := by decide +kernel
theorem dX9_isOn_19 : decode cX9_isOn 19 = .ok (.iload_n 1, 1) := by decide +kernel
theorem dX9_isOn_20 : decode cX9_isOn 20 = .ok (.if_icmp .ne 7, 3) := by decide +kernel
theorem dX9_isOn_23 : decode cX9_isOn 23 = .ok (.iconst 1, 1) := by decide +kernel
theorem dX9_isOn_24 : decode cX9_isOn 24 = .ok (.goto 4, 3) := by decide +kernel
theorem dX9_isOn_27 : decode cX9_isOn 27 = .ok (.iconst 0, 1) := by decide +kernel
theorem dX9_isOn_28 : decode cX9_isOn 28 = .ok (.istore_n 2, 1) := by decide +kernel
theorem dX9_isOn_29 : decode cX9_isOn 29 = .ok (.iinc 3 1, 3) := by decide +kernel
theorem dX9_isOn_32 : decode cX9_isOn 32 = .ok (.goto (-28), 3) := by decide +kernel
theorem dX9_isOn_35 : decode cX9_isOn 35 = .ok (.iload_n 2, 1) := by decide +kernel
theorem dX9_isOn_36 : decode cX9_isOn 36 = .ok (.ireturn, 1) := by decide +kernel
theorem dX9_first_0 : decode cX9_first 0 = .ok (.iconst (-1), 1) := by decide +kernel
theorem dX9_first_1 : decode cX9_first 1 = .ok (.istore_n 3, 1) := by decide +kernel
theorem dX9_first_2 : decode cX9_first 2 = .ok (.aload_n 0, 1) := by decide +kernel
theorem dX9_first_3 : decode cX9_first 3 = .ok (.getfield 107, 3) := by decide +kernel
theorem dX9_first_6 : decode cX9_first 6 = .ok (.iconst 1, 1) := by decide +kernel
theorem dX9_first_7 : decode cX9_first 7 = .ok (.isub, 1) := by decide +kernel
theorem dX9_first_8 : decode cX9_first 8 = .ok (.istore 4, 2) := by decide +kernel
theorem dX9_first_10 : decode cX9_first 10 = .ok (.iload 4, 2) := by decide +kernel
theorem dX9_first_12 : decode cX9_first 12 = .ok (.ifCond .lt 81, 3) := by decide +kernel
theorem dX9_first_15 : decode cX9_first 15 = .ok (.iload_n 2, 1) := by decide +kernel
theorem dX9_first_16 : decode cX9_first 16 = .ok (.ifCond .eq 27, 3) := by decide +kernel
theorem dX9_first_19 : decode cX9_first 19 = .ok (.aload_n 0, 1) := by decide +kernel
theorem dX9_first_20 : decode cX9_first 20 = .ok (.getfield 47, 3) := by decide +kernel
theorem dX9_first_23 : decode cX9_first 23 = .ok (.iload 4, 2) := by decide +kernel
theorem dX9_first_25 : decode cX9_first 25 = .ok (.iaload, 1) := by decide +kernel
theorem dX9_first_26 : decode cX9_first 26 = .ok (.aload_n 0, 1) := by decide +kernel
theorem dX9_first_27 : decode cX9_first 27 = .ok (.getfield 56, 3) := by decide +kernel
theorem dX9_first_30 : decode cX9_first 30 = .ok (.iload_n 1, 1) := by decide +kernel
theorem dX9_first_31 : decode cX9_first 31 = .ok (.iaload, 1) := by decide +kernel
theorem dX9_first_32 : decode cX9_first 32 = .ok (.if_icmp .ne 7, 3) := by decide +kernel
theorem dX9_first_35 : decode cX9_first 35 = .ok (.iconst 1, 1) := by decide +kernel
theorem dX9_first_36 : decode cX9_first 36 = .ok (.goto 26, 3) := by decide +kernel
theorem dX9_first_39 : decode cX9_first 39 = .ok (.iconst 0, 1) := by decide +kernel
theorem dX9_first_40 : decode cX9_first 40 = .ok (.goto 22, 3) := by decide +kernel
theorem dX9_first_43 : decode cX9_first 43 = .ok (.aload_n 0, 1) := by decide +kernel
theorem dX9_first_44 : decode cX9_first 44 = .ok (.aload_n 0, 1) := by decide +kernel
theorem dX9_first_45 : decode cX9_first 45 = .ok (.getfield 47, 3) := by decide +kernel
theorem dX9_first_48 : decode cX9_first 48 = .ok (.iload 4, 2) := by decide +kernel
theorem dX9_first_50 : decode cX9_first 50 = .ok (.iaload, 1) := by decide +kernel
theorem dX9_first_51 : decode cX9_first 51 = .ok (.invokevirtual 114, 3) := by decide +kernel
theorem dX9_first_54 : decode cX9_first 54 = .ok (.ifCond .ne 7, 3) := by decide +kernel
theorem dX9_first_57 : decode cX9_first 57 = .ok (.iconst 1, 1) := by decide +kernel
theorem dX9_first_58 : decode cX9_first 58 = .ok (.goto 4, 3) := by decide +kernel
theorem dX9_first_61 : decode cX9_first 61 = .ok (.iconst 0, 1) := by decide +kernel
theorem dX9_first_62 : decode cX9_first 62 = .ok (.istore 5, 2) := by decide +kernel
theorem dX9_first_64 : decode cX9_first 64 = .ok (.aload_n 0, 1) := by decide +kernel
theorem dX9_first_65 : decode cX9_first 65 = .ok (.getfield 53, 3) := by decide +kernel
theorem dX9_first_68 : decode cX9_first 68 = .ok (.iload 4, 2) := by decide +kernel
theorem dX9_first_70 : decode cX9_first 70 = .ok (.iaload, 1) := by decide +kernel
theorem dX9_first_71 : decode cX9_first 71 = .ok (.iconst (-1), 1) := by decide +kernel
theorem dX9_first_72 : decode cX9_first 72 = .ok (.if_icmp .ne 13, 3) := by decide +kernel
theorem dX9_first_75 : decode cX9_first 75 = .ok (.iload 5, 2) := by decide +kernel
theorem dX9_first_77 : decode cX9_first 77 = .ok (.ifCond .eq 8, 3) := by decide +kernel
theorem dX9_first_80 : decode cX9_first 80 = .ok (.iload 4, 2) := by decide +kernel
theorem dX9_first_82 : decode cX9_first 82 = .ok (.goto 4, 3) := by decide +kernel
theorem dX9_first_85 : decode cX9_first 85 = .ok (.iload_n 3, 1) := by decide +kernel
theorem dX9_first_86 : decode cX9_first 86 = .ok (.istore_n 3, 1) := by decide +kernel
theorem dX9_first_87 : decode cX9_first 87 = .ok (.iinc 4 (-1), 3) := by decide +kernel
theorem dX9_first_90 : decode cX9_first 90 = .ok (.goto (-80), 3) := by decide +kernel
theorem dX9_first_93 : decode cX9_first 93 = .ok (.iload_n 3, 1) := by decide +kernel
theorem dX9_first_94 : decode cX9_first 94 = .ok (.ireturn, 1) := by decide +kernel
theorem dX9_toCut_0 : decode cX9_toCut 0 = .ok (.iconst 0, 1) := by decide +kernel
theorem dX9_toCut_1 : decode cX9_toCut 1 = .ok (.istore_n 2, 1) := by decide +kernel
theorem dX9_toCut_2 : decode cX9_toCut 2 = .ok (.iconst 0, 1) := by decide +kernel
theorem dX9_toCut_3 : decode cX9_toCut 3 = .ok (.istore_n 3, 1) := by decide +kernel
theorem dX9_toCut_4 : decode cX9_toCut 4 = .ok (.iload_n 3, 1) := by decide +kernel
theorem dX9_toCut_5 : decode cX9_toCut 5 = .ok (.aload_n 0, 1) := by decide +kernel
theorem dX9_toCut_6 : decode cX9_toCut 6 = .ok (.getfield 107, 3) := by decide +kernel
theorem dX9_toCut_9 : decode cX9_toCut 9 = .ok (.if_icmp .ge 38, 3) := by decide +kernel
theorem dX9_toCut_12 : decode cX9_toCut 12 = .ok (.iload_n 2, 1) := by decide +kernel
theorem dX9_toCut_13 : decode cX9_toCut 13 = .ok (.aload_n 0, 1) := by decide +kernel
theorem dX9_toCut_14 : decode cX9_toCut 14 = .ok (.getfield 44, 3) := by decide +kernel
theorem dX9_toCut_17 : decode cX9_toCut 17 = .ok (.iload_n 3, 1) := by decide +kernel
theorem dX9_toCut_18 : decode cX9_toCut 18 = .ok (.iaload, 1) := by decide +kernel
theorem dX9_toCut_19 : decode cX9_toCut 19 = .ok (.iload_n 1, 1) := by decide +kernel
theorem dX9_toCut_20 : decode cX9_toCut 20 = .ok (.if_icmp .ne 18, 3) := by decide +kernel
theorem dX9_toCut_23 : decode cX9_toCut 23 = .ok (.aload_n 0, 1) := by decide +kernel
theorem dX9_toCut_24 : decode cX9_toCut 24 = .ok (.getfield 53, 3) := by decide +kernel
theorem dX9_toCut_27 : decode cX9_toCut 27 = .ok (.iload_n 3, 1) := by decide +kernel
theorem dX9_toCut_28 : decode cX9_toCut 28 = .ok (.iaload, 1) := by decide +kernel
theorem dX9_toCut_29 : decode cX9_toCut 29 = .ok (.bipush (-2), 2) := by decide +kernel
theorem dX9_toCut_31 : decode cX9_toCut 31 = .ok (.if_icmp .eq 7, 3) := by decide +kernel
theorem dX9_toCut_34 : decode cX9_toCut 34 = .ok (.iconst 1, 1) := by decide +kernel
theorem dX9_toCut_35 : decode cX9_toCut 35 = .ok (.goto 4, 3) := by decide +kernel
theorem dX9_toCut_38 : decode cX9_toCut 38 = .ok (.iconst 0, 1) := by decide +kernel
theorem dX9_toCut_39 : decode cX9_toCut 39 = .ok (.iadd, 1) := by decide +kernel
theorem dX9_toCut_40 : decode cX9_toCut 40 = .ok (.istore_n 2, 1) := by decide +kernel
theorem dX9_toCut_41 : decode cX9_toCut 41 = .ok (.iinc 3 1, 3) := by decide +kernel
theorem dX9_toCut_44 : decode cX9_toCut 44 = .ok (.goto (-40), 3) := by decide +kernel
theorem dX9_toCut_47 : decode cX9_toCut 47 = .ok (.iload_n 2, 1) := by decide +kernel
theorem dX9_toCut_48 : decode cX9_toCut 48 = .ok (.ireturn, 1) := by decide +kernel
theorem dX9_takes_0 : decode cX9_takes 0 = .ok (.aload_n 0, 1) := by decide +kernel
theorem dX9_takes_1 : decode cX9_takes 1 = .ok (.iload_n 1, 1) := by decide +kernel
theorem dX9_takes_2 : decode cX9_takes 2 = .ok (.iconst 1, 1) := by decide +kernel
theorem dX9_takes_3 : decode cX9_takes 3 = .ok (.invokevirtual 117, 3) := by decide +kernel
theorem dX9_takes_6 : decode cX9_takes 6 = .ok (.istore_n 2, 1) := by decide +kernel
theorem dX9_takes_7 : decode cX9_takes 7 = .ok (.iload_n 2, 1) := by decide +kernel
theorem dX9_takes_8 : decode cX9_takes 8 = .ok (.iconst (-1), 1) := by decide +kernel
theorem dX9_takes_9 : decode cX9_takes 9 = .ok (.if_icmp .ne 12, 3) := by decide +kernel
theorem dX9_takes_12 : decode cX9_takes 12 = .ok (.aload_n 0, 1) := by decide +kernel
theorem dX9_takes_13 : decode cX9_takes 13 = .ok (.iload_n 1, 1) := by decide +kernel
theorem dX9_takes_14 : decode cX9_takes 14 = .ok (.iconst 0, 1) := by decide +kernel
theorem dX9_takes_15 : decode cX9_takes 15 = .ok (.invokevirtual 117, 3) := by decide +kernel
theorem dX9_takes_18 : decode cX9_takes 18 = .ok (.goto 4, 3) := by decide +kernel
theorem dX9_takes_21 : decode cX9_takes 21 = .ok (.iload_n 2, 1) := by decide +kernel
theorem dX9_takes_22 : decode cX9_takes 22 = .ok (.istore_n 3, 1) := by decide +kernel
theorem dX9_takes_23 : decode cX9_takes 23 = .ok (.iload_n 3, 1) := by decide +kernel
theorem dX9_takes_24 : decode cX9_takes 24 = .ok (.iconst (-1), 1) := by decide +kernel
theorem dX9_takes_25 : decode cX9_takes 25 = .ok (.if_icmp .eq 52, 3) := by decide +kernel
theorem dX9_takes_28 : decode cX9_takes 28 = .ok (.aload_n 0, 1) := by decide +kernel
theorem dX9_takes_29 : decode cX9_takes 29 = .ok (.getfield 56, 3) := by decide +kernel
theorem dX9_takes_32 : decode cX9_takes 32 = .ok (.iload_n 1, 1) := by decide +kernel
theorem dX9_takes_33 : decode cX9_takes 33 = .ok (.aload_n 0, 1) := by decide +kernel
theorem dX9_takes_34 : decode cX9_takes 34 = .ok (.getfield 47, 3) := by decide +kernel
theorem dX9_takes_37 : decode cX9_takes 37 = .ok (.iload_n 3, 1) := by decide +kernel
theorem dX9_takes_38 : decode cX9_takes 38 = .ok (.iaload, 1) := by decide +kernel
theorem dX9_takes_39 : decode cX9_takes 39 = .ok (.iastore, 1) := by decide +kernel
theorem dX9_takes_40 : decode cX9_takes 40 = .ok (.aload_n 0, 1) := by decide +kernel
theorem dX9_takes_41 : decode cX9_takes 41 = .ok (.getfield 59, 3) := by decide +kernel
theorem dX9_takes_44 : decode cX9_takes 44 = .ok (.iload_n 1, 1) := by decide +kernel
theorem dX9_takes_45 : decode cX9_takes 45 = .ok (.iload_n 3, 1) := by decide +kernel
theorem dX9_takes_46 : decode cX9_takes 46 = .ok (.iastore, 1) := by decide +kernel
theorem dX9_takes_47 : decode cX9_takes 47 = .ok (.aload_n 0, 1) := by decide +kernel
theorem dX9_takes_48 : decode cX9_takes 48 = .ok (.getfield 62, 3) := by decide +kernel
theorem dX9_takes_51 : decode cX9_takes 51 = .ok (.iload_n 1, 1) := by decide +kernel
theorem dX9_takes_52 : decode cX9_takes 52 = .ok (.aload_n 0, 1) := by decide +kernel
theorem dX9_takes_53 : decode cX9_takes 53 = .ok (.getfield 50, 3) := by decide +kernel
theorem dX9_takes_56 : decode cX9_takes 56 = .ok (.iload_n 3, 1) := by decide +kernel
theorem dX9_takes_57 : decode cX9_takes 57 = .ok (.iaload, 1) := by decide +kernel
theorem dX9_takes_58 : decode cX9_takes 58 = .ok (.iload_n 2, 1) := by decide +kernel
theorem dX9_takes_59 : decode cX9_takes 59 = .ok (.iconst (-1), 1) := by decide +kernel
theorem dX9_takes_60 : decode cX9_takes 60 = .ok (.if_icmp .ne 7, 3) := by decide +kernel
theorem dX9_takes_63 : decode cX9_takes 63 = .ok (.iconst 3, 1) := by decide +kernel
theorem dX9_takes_64 : decode cX9_takes 64 = .ok (.goto 4, 3) := by decide +kernel
theorem dX9_takes_67 : decode cX9_takes 67 = .ok (.iconst 0, 1) := by decide +kernel
theorem dX9_takes_68 : decode cX9_takes 68 = .ok (.iadd, 1) := by decide +kernel
theorem dX9_takes_69 : decode cX9_takes 69 = .ok (.iastore, 1) := by decide +kernel
theorem dX9_takes_70 : decode cX9_takes 70 = .ok (.aload_n 0, 1) := by decide +kernel
theorem dX9_takes_71 : decode cX9_takes 71 = .ok (.getfield 53, 3) := by decide +kernel
theorem dX9_takes_74 : decode cX9_takes 74 = .ok (.iload_n 3, 1) := by decide +kernel
theorem dX9_takes_75 : decode cX9_takes 75 = .ok (.iload_n 1, 1) := by decide +kernel
theorem dX9_takes_76 : decode cX9_takes 76 = .ok (.iastore, 1) := by decide +kernel
theorem dX9_takes_77 : decode cX9_takes 77 = .ok (.return_, 1) := by decide +kernel
theorem dX9_tick_0 : decode cX9_tick 0 = .ok (.iconst 0, 1) := by decide +kernel
theorem dX9_tick_1 : decode cX9_tick 1 = .ok (.istore_n 1, 1) := by decide +kernel
theorem dX9_tick_2 : decode cX9_tick 2 = .ok (.aload_n 0, 1) := by decide +kernel
theorem dX9_tick_3 : decode cX9_tick 3 = .ok (.dup, 1) := by decide +kernel
theorem dX9_tick_4 : decode cX9_tick 4 = .ok (.getfield 121, 3) := by decide +kernel
theorem dX9_tick_7 : decode cX9_tick 7 = .ok (.iconst 1, 1) := by decide +kernel
theorem dX9_tick_8 : decode cX9_tick 8 = .ok (.iadd, 1) := by decide +kernel
theorem dX9_tick_9 : decode cX9_tick 9 = .ok (.putfield 121, 3) := by decide +kernel
theorem dX9_tick_12 : decode cX9_tick 12 = .ok (.iconst 0, 1) := by decide +kernel
theorem dX9_tick_13 : decode cX9_tick 13 = .ok (.istore_n 2, 1) := by decide +kernel
theorem dX9_tick_14 : decode cX9_tick 14 = .ok (.iload_n 2, 1) := by decide +kernel
theorem dX9_tick_15 : decode cX9_tick 15 = .ok (.iconst 3, 1) := by decide +kernel
theorem dX9_tick_16 : decode cX9_tick 16 = .ok (.if_icmp .ge 24, 3) := by decide +kernel
theorem dX9_tick_19 : decode cX9_tick 19 = .ok (.aload_n 0, 1) := by decide +kernel
theorem dX9_tick_20 : decode cX9_tick 20 = .ok (.getfield 59, 3) := by decide +kernel
theorem dX9_tick_23 : decode cX9_tick 23 = .ok (.iload_n 2, 1) := by decide +kernel
theorem dX9_tick_24 : decode cX9_tick 24 = .ok (.iaload, 1) := by decide +kernel
theorem dX9_tick_25 : decode cX9_tick 25 = .ok (.iconst (-1), 1) := by decide +kernel
theorem dX9_tick_26 : decode cX9_tick 26 = .ok (.if_icmp .ne 8, 3) := by decide +kernel
theorem dX9_tick_29 : decode cX9_tick 29 = .ok (.aload_n 0, 1) := by decide +kernel
theorem dX9_tick_30 : decode cX9_tick 30 = .ok (.iload_n 2, 1) := by decide +kernel
theorem dX9_tick_31 : decode cX9_tick 31 = .ok (.invokevirtual 124, 3) := by decide +kernel
theorem dX9_tick_34 : decode cX9_tick 34 = .ok (.iinc 2 1, 3) := by decide +kernel
theorem dX9_tick_37 : decode cX9_tick 37 = .ok (.goto (-23), 3) := by decide +kernel
theorem dX9_tick_40 : decode cX9_tick 40 = .ok (.iconst 0, 1) := by decide +kernel
theorem dX9_tick_41 : decode cX9_tick 41 = .ok (.istore_n 2, 1) := by decide +kernel
theorem dX9_tick_42 : decode cX9_tick 42 = .ok (.iload_n 2, 1) := by decide +kernel
theorem dX9_tick_43 : decode cX9_tick 43 = .ok (.iconst 3, 1) := by decide +kernel
theorem dX9_tick_44 : decode cX9_tick 44 = .ok (.if_icmp .ge 95, 3) := by decide +kernel
theorem dX9_tick_47 : decode cX9_tick 47 = .ok (.aload_n 0, 1) := by decide +kernel
theorem dX9_tick_48 : decode cX9_tick 48 = .ok (.getfield 59, 3) := by decide +kernel
theorem dX9_tick_51 : decode cX9_tick 51 = .ok (.iload_n 2, 1) := by decide +kernel
theorem dX9_tick_52 : decode cX9_tick 52 = .ok (.iaload, 1) := by decide +kernel
theorem dX9_tick_53 : decode cX9_tick 53 = .ok (.iconst (-1), 1) := by decide +kernel
theorem dX9_tick_54 : decode cX9_tick 54 = .ok (.if_icmp .eq 79, 3) := by decide +kernel
theorem dX9_tick_57 : decode cX9_tick 57 = .ok (.aload_n 0, 1) := by decide +kernel
theorem dX9_tick_58 : decode cX9_tick 58 = .ok (.getfield 62, 3) := by decide +kernel
theorem dX9_tick_61 : decode cX9_tick 61 = .ok (.iload_n 2, 1) := by decide +kernel
theorem dX9_tick_62 : decode cX9_tick 62 = .ok (.dup2, 1) := by decide +kernel
theorem dX9_tick_63 : decode cX9_tick 63 = .ok (.iaload, 1) := by decide +kernel
theorem dX9_tick_64 : decode cX9_tick 64 = .ok (.iconst 1, 1) := by decide +kernel
theorem dX9_tick_65 : decode cX9_tick 65 = .ok (.isub, 1) := by decide +kernel
theorem dX9_tick_66 : decode cX9_tick 66 = .ok (.iastore, 1) := by decide +kernel
theorem dX9_tick_67 : decode cX9_tick 67 = .ok (.aload_n 0, 1) := by decide +kernel
theorem dX9_tick_68 : decode cX9_tick 68 = .ok (.getfield 62, 3) := by decide +kernel
theorem dX9_tick_71 : decode cX9_tick 71 = .ok (.iload_n 2, 1) := by decide +kernel
theorem dX9_tick_72 : decode cX9_tick 72 = .ok (.iaload, 1) := by decide +kernel
theorem dX9_tick_73 : decode cX9_tick 73 = .ok (.ifCond .ne 60, 3) := by decide +kernel
theorem dX9_tick_76 : decode cX9_tick 76 = .ok (.aload_n 0, 1) := by decide +kernel
theorem dX9_tick_77 : decode cX9_tick 77 = .ok (.getfield 59, 3) := by decide +kernel
theorem dX9_tick_80 : decode cX9_tick 80 = .ok (.iload_n 2, 1) := by decide +kernel
theorem dX9_tick_81 : decode cX9_tick 81 = .ok (.iaload, 1) := by decide +kernel
theorem dX9_tick_82 : decode cX9_tick 82 = .ok (.istore_n 3, 1) := by decide +kernel
theorem dX9_tick_83 : decode cX9_tick 83 = .ok (.aload_n 0, 1) := by decide +kernel
theorem dX9_tick_84 : decode cX9_tick 84 = .ok (.getfield 53, 3) := by decide +kernel
theorem dX9_tick_87 : decode cX9_tick 87 = .ok (.iload_n 3, 1) := by decide +kernel
theorem dX9_tick_88 : decode cX9_tick 88 = .ok (.bipush (-2), 2) := by decide +kernel
theorem dX9_tick_90 : decode cX9_tick 90 = .ok (.iastore, 1) := by decide +kernel
theorem dX9_tick_91 : decode cX9_tick 91 = .ok (.aload_n 0, 1) := by decide +kernel
theorem dX9_tick_92 : decode cX9_tick 92 = .ok (.getfield 59, 3) := by decide +kernel
theorem dX9_tick_95 : decode cX9_tick 95 = .ok (.iload_n 2, 1) := by decide +kernel
theorem dX9_tick_96 : decode cX9_tick 96 = .ok (.iconst (-1), 1) := by decide +kernel
theorem dX9_tick_97 : decode cX9_tick 97 = .ok (.iastore, 1) := by decide +kernel
theorem dX9_tick_98 : decode cX9_tick 98 = .ok (.iinc 1 1, 3) := by decide +kernel
theorem dX9_tick_101 : decode cX9_tick 101 = .ok (.aload_n 0, 1) := by decide +kernel
theorem dX9_tick_102 : decode cX9_tick 102 = .ok (.getfield 34, 3) := by decide +kernel
theorem dX9_tick_105 : decode cX9_tick 105 = .ok (.aload_n 0, 1) := by decide +kernel
theorem dX9_tick_106 : decode cX9_tick 106 = .ok (.getfield 44, 3) := by decide +kernel
theorem dX9_tick_109 : decode cX9_tick 109 = .ok (.iload_n 3, 1) := by decide +kernel
theorem dX9_tick_110 : decode cX9_tick 110 = .ok (.iaload, 1) := by decide +kernel
theorem dX9_tick_111 : decode cX9_tick 111 = .ok (.aload_n 0, 1) := by decide +kernel
theorem dX9_tick_112 : decode cX9_tick 112 = .ok (.aload_n 0, 1) := by decide +kernel
theorem dX9_tick_113 : decode cX9_tick 113 = .ok (.getfield 44, 3) := by decide +kernel
theorem dX9_tick_116 : decode cX9_tick 116 = .ok (.iload_n 3, 1) := by decide +kernel
theorem dX9_tick_117 : decode cX9_tick 117 = .ok (.iaload, 1) := by decide +kernel
theorem dX9_tick_118 : decode cX9_tick 118 = .ok (.invokevirtual 128, 3) := by decide +kernel
theorem dX9_tick_121 : decode cX9_tick 121 = .ok (.ifCond .ne 10, 3) := by decide +kernel
theorem dX9_tick_124 : decode cX9_tick 124 = .ok (.aload_n 0, 1) := by decide +kernel
theorem dX9_tick_125 : decode cX9_tick 125 = .ok (.getfield 121, 3) := by decide +kernel
theorem dX9_tick_128 : decode cX9_tick 128 = .ok (.goto 4, 3) := by decide +kernel
theorem dX9_tick_131 : decode cX9_tick 131 = .ok (.iconst (-1), 1) := by decide +kernel
theorem dX9_tick_132 : decode cX9_tick 132 = .ok (.iastore, 1) := by decide +kernel
theorem dX9_tick_133 : decode cX9_tick 133 = .ok (.iinc 2 1, 3) := by decide +kernel
theorem dX9_tick_136 : decode cX9_tick 136 = .ok (.goto (-94), 3) := by decide +kernel
theorem dX9_tick_139 : decode cX9_tick 139 = .ok (.iload_n 1, 1) := by decide +kernel
theorem dX9_tick_140 : decode cX9_tick 140 = .ok (.ireturn, 1) := by decide +kernel
theorem dX9_pass_0 : decode cX9_pass 0 = .ok (.aload_n 0, 1) := by decide +kernel
theorem dX9_pass_1 : decode cX9_pass 1 = .ok (.iload_n 1, 1) := by decide +kernel
theorem dX9_pass_2 : decode cX9_pass 2 = .ok (.iconst 1, 1) := by decide +kernel
theorem dX9_pass_3 : decode cX9_pass 3 = .ok (.sipush 200, 3) := by decide +kernel
theorem dX9_pass_6 : decode cX9_pass 6 = .ok (.invokestatic 72, 3) := by decide +kernel
theorem dX9_pass_9 : decode cX9_pass 9 = .ok (.ifCond .eq 7, 3) := by decide +kernel
theorem dX9_pass_12 : decode cX9_pass 12 = .ok (.iconst 0, 1) := by decide +kernel
theorem dX9_pass_13 : decode cX9_pass 13 = .ok (.goto 4, 3) := by decide +kernel
theorem dX9_pass_16 : decode cX9_pass 16 = .ok (.iconst 1, 1) := by decide +kernel
theorem dX9_pass_17 : decode cX9_pass 17 = .ok (.putfield 65, 3) := by decide +kernel
theorem dX9_pass_20 : decode cX9_pass 20 = .ok (.iconst 0, 1) := by decide +kernel
theorem dX9_pass_21 : decode cX9_pass 21 = .ok (.istore_n 2, 1) := by decide +kernel
theorem dX9_pass_22 : decode cX9_pass 22 = .ok (.iconst 0, 1) := by decide +kernel
theorem dX9_pass_23 : decode cX9_pass 23 = .ok (.istore_n 3, 1) := by decide +kernel
theorem dX9_pass_24 : decode cX9_pass 24 = .ok (.iload_n 3, 1) := by decide +kernel
theorem dX9_pass_25 : decode cX9_pass 25 = .ok (.iload_n 1, 1) := by decide +kernel
theorem dX9_pass_26 : decode cX9_pass 26 = .ok (.if_icmp .ge 23, 3) := by decide +kernel
theorem dX9_pass_29 : decode cX9_pass 29 = .ok (.aload_n 0, 1) := by decide +kernel
theorem dX9_pass_30 : decode cX9_pass 30 = .ok (.getfield 65, 3) := by decide +kernel
theorem dX9_pass_33 : decode cX9_pass 33 = .ok (.ifCond .ne 16, 3) := by decide +kernel
theorem dX9_pass_36 : decode cX9_pass 36 = .ok (.iload_n 2, 1) := by decide +kernel
theorem dX9_pass_37 : decode cX9_pass 37 = .ok (.aload_n 0, 1) := by decide +kernel
theorem dX9_pass_38 : decode cX9_pass 38 = .ok (.invokevirtual 132, 3) := by decide +kernel
theorem dX9_pass_41 : decode cX9_pass 41 = .ok (.iadd, 1) := by decide +kernel
theorem dX9_pass_42 : decode cX9_pass 42 = .ok (.istore_n 2, 1) := by decide +kernel
theorem dX9_pass_43 : decode cX9_pass 43 = .ok (.iinc 3 1, 3) := by decide +kernel
theorem dX9_pass_46 : decode cX9_pass 46 = .ok (.goto (-22), 3) := by decide +kernel
theorem dX9_pass_49 : decode cX9_pass 49 = .ok (.iload_n 2, 1) := by decide +kernel
theorem dX9_pass_50 : decode cX9_pass 50 = .ok (.ireturn, 1) := by decide +kernel
theorem dX9_time_0 : decode cX9_time 0 = .ok (.aload_n 0, 1) := by decide +kernel
theorem dX9_time_1 : decode cX9_time 1 = .ok (.iconst 0, 1) := by decide +kernel
theorem dX9_time_2 : decode cX9_time 2 = .ok (.putfield 65, 3) := by decide +kernel
theorem dX9_time_5 : decode cX9_time 5 = .ok (.aload_n 0, 1) := by decide +kernel
theorem dX9_time_6 : decode cX9_time 6 = .ok (.getfield 121, 3) := by decide +kernel
theorem dX9_time_9 : decode cX9_time 9 = .ok (.ireturn, 1) := by decide +kernel
theorem dX9_waiting_0 : decode cX9_waiting 0 = .ok (.aload_n 0, 1) := by decide +kernel
theorem dX9_waiting_1 : decode cX9_waiting 1 = .ok (.iconst 0, 1) := by decide +kernel
theorem dX9_waiting_2 : decode cX9_waiting 2 = .ok (.putfield 65, 3) := by decide +kernel
theorem dX9_waiting_5 : decode cX9_waiting 5 = .ok (.iconst 0, 1) := by decide +kernel
theorem dX9_waiting_6 : decode cX9_waiting 6 = .ok (.istore_n 1, 1) := by decide +kernel
theorem dX9_waiting_7 : decode cX9_waiting 7 = .ok (.iconst 0, 1) := by decide +kernel
theorem dX9_waiting_8 : decode cX9_waiting 8 = .ok (.istore_n 2, 1) := by decide +kernel
theorem dX9_waiting_9 : decode cX9_waiting 9 = .ok (.iload_n 2, 1) := by decide +kernel
theorem dX9_waiting_10 : decode cX9_waiting 10 = .ok (.aload_n 0, 1) := by decide +kernel
theorem dX9_waiting_11 : decode cX9_waiting 11 = .ok (.getfield 107, 3) := by decide +kernel
theorem dX9_waiting_14 : decode cX9_waiting 14 = .ok (.if_icmp .ge 27, 3) := by decide +kernel
theorem dX9_waiting_17 : decode cX9_waiting 17 = .ok (.iload_n 1, 1) := by decide +kernel
theorem dX9_waiting_18 : decode cX9_waiting 18 = .ok (.aload_n 0, 1) := by decide +kernel
theorem dX9_waiting_19 : decode cX9_waiting 19 = .ok (.getfield 53, 3) := by decide +kernel
theorem dX9_waiting_22 : decode cX9_waiting 22 = .ok (.iload_n 2, 1) := by decide +kernel
theorem dX9_waiting_23 : decode cX9_waiting 23 = .ok (.iaload, 1) := by decide +kernel
theorem dX9_waiting_24 : decode cX9_waiting 24 = .ok (.iconst (-1), 1) := by decide +kernel
theorem dX9_waiting_25 : decode cX9_waiting 25 = .ok (.if_icmp .ne 7, 3) := by decide +kernel
theorem dX9_waiting_28 : decode cX9_waiting 28 = .ok (.iconst 1, 1) := by decide +kernel
theorem dX9_waiting_29 : decode cX9_waiting 29 = .ok (.goto 4, 3) := by decide +kernel
theorem dX9_waiting_32 : decode cX9_waiting 32 = .ok (.iconst 0, 1) := by decide +kernel
theorem dX9_waiting_33 : decode cX9_waiting 33 = .ok (.iadd, 1) := by decide +kernel
theorem dX9_waiting_34 : decode cX9_waiting 34 = .ok (.istore_n 1, 1) := by decide +kernel
theorem dX9_waiting_35 : decode cX9_waiting 35 = .ok (.iinc 2 1, 3) := by decide +kernel
theorem dX9_waiting_38 : decode cX9_waiting 38 = .ok (.goto (-29), 3) := by decide +kernel
theorem dX9_waiting_41 : decode cX9_waiting 41 = .ok (.iload_n 1, 1) := by decide +kernel
theorem dX9_waiting_42 : decode cX9_waiting 42 = .ok (.ireturn, 1) := by decide +kernel
theorem dX9_cutterOn_0 : decode cX9_cutterOn 0 = .ok (.aload_n 0, 1) := by decide +kernel
theorem dX9_cutterOn_1 : decode cX9_cutterOn 1 = .ok (.iload_n 1, 1) := by decide +kernel
theorem dX9_cutterOn_2 : decode cX9_cutterOn 2 = .ok (.invokevirtual 135, 3) := by decide +kernel
theorem dX9_cutterOn_5 : decode cX9_cutterOn 5 = .ok (.ifCond .eq 12, 3) := by decide +kernel
theorem dX9_cutterOn_8 : decode cX9_cutterOn 8 = .ok (.aload_n 0, 1) := by decide +kernel
theorem dX9_cutterOn_9 : decode cX9_cutterOn 9 = .ok (.getfield 56, 3) := by decide +kernel
theorem dX9_cutterOn_12 : decode cX9_cutterOn 12 = .ok (.iload_n 1, 1) := by decide +kernel
theorem dX9_cutterOn_13 : decode cX9_cutterOn 13 = .ok (.iaload, 1) := by decide +kernel
theorem dX9_cutterOn_14 : decode cX9_cutterOn 14 = .ok (.goto 4, 3) := by decide +kernel
theorem dX9_cutterOn_17 : decode cX9_cutterOn 17 = .ok (.iconst 0, 1) := by decide +kernel
theorem dX9_cutterOn_18 : decode cX9_cutterOn 18 = .ok (.ireturn, 1) := by decide +kernel
theorem dX9_ticksLeft_0 : decode cX9_ticksLeft 0 = .ok (.aload_n 0, 1) := by decide +kernel
theorem dX9_ticksLeft_1 : decode cX9_ticksLeft 1 = .ok (.iload_n 1, 1) := by decide +kernel
theorem dX9_ticksLeft_2 : decode cX9_ticksLeft 2 = .ok (.invokevirtual 135, 3) := by decide +kernel
theorem dX9_ticksLeft_5 : decode cX9_ticksLeft 5 = .ok (.ifCond .eq 22, 3) := by decide +kernel
theorem dX9_ticksLeft_8 : decode cX9_ticksLeft 8 = .ok (.aload_n 0, 1) := by decide +kernel
theorem dX9_ticksLeft_9 : decode cX9_ticksLeft 9 = .ok (.getfield 59, 3) := by decide +kernel
theorem dX9_ticksLeft_12 : decode cX9_ticksLeft 12 = .ok (.iload_n 1, 1) := by decide +kernel
theorem dX9_ticksLeft_13 : decode cX9_ticksLeft 13 = .ok (.iaload, 1) := by decide +kernel
theorem dX9_ticksLeft_14 : decode cX9_ticksLeft 14 = .ok (.iconst (-1), 1) := by decide +kernel
theorem dX9_ticksLeft_15 : decode cX9_ticksLeft 15 = .ok (.if_icmp .eq 12, 3) := by decide +kernel
theorem dX9_ticksLeft_18 : decode cX9_ticksLeft 18 = .ok (.aload_n 0, 1) := by decide +kernel
theorem dX9_ticksLeft_19 : decode cX9_ticksLeft 19 = .ok (.getfield 62, 3) := by decide +kernel
theorem dX9_ticksLeft_22 : decode cX9_ticksLeft 22 = .ok (.iload_n 1, 1) := by decide +kernel
theorem dX9_ticksLeft_23 : decode cX9_ticksLeft 23 = .ok (.iaload, 1) := by decide +kernel
theorem dX9_ticksLeft_24 : decode cX9_ticksLeft 24 = .ok (.goto 4, 3) := by decide +kernel
theorem dX9_ticksLeft_27 : decode cX9_ticksLeft 27 = .ok (.iconst 0, 1) := by decide +kernel
theorem dX9_ticksLeft_28 : decode cX9_ticksLeft 28 = .ok (.ireturn, 1) := by decide +kernel
theorem dX9_gearsLeft_0 : decode cX9_gearsLeft 0 = .ok (.aload_n 0, 1) := by decide +kernel
theorem dX9_gearsLeft_1 : decode cX9_gearsLeft 1 = .ok (.iload_n 1, 1) := by decide +kernel
theorem dX9_gearsLeft_2 : decode cX9_gearsLeft 2 = .ok (.invokevirtual 138, 3) := by decide +kernel
theorem dX9_gearsLeft_5 : decode cX9_gearsLeft 5 = .ok (.ifCond .eq 11, 3) := by decide +kernel
theorem dX9_gearsLeft_8 : decode cX9_gearsLeft 8 = .ok (.aload_n 0, 1) := by decide +kernel
theorem dX9_gearsLeft_9 : decode cX9_gearsLeft 9 = .ok (.iload_n 1, 1) := by decide +kernel
theorem dX9_gearsLeft_10 : decode cX9_gearsLeft 10 = .ok (.invokevirtual 128, 3) := by decide +kernel
theorem dX9_gearsLeft_13 : decode cX9_gearsLeft 13 = .ok (.goto 4, 3) := by decide +kernel
theorem dX9_gearsLeft_16 : decode cX9_gearsLeft 16 = .ok (.iconst 0, 1) := by decide +kernel
theorem dX9_gearsLeft_17 : decode cX9_gearsLeft 17 = .ok (.ireturn, 1) := by decide +kernel
theorem dX9_doneAt_0 : decode cX9_doneAt 0 = .ok (.aload_n 0, 1) := by decide +kernel
theorem dX9_doneAt_1 : decode cX9_doneAt 1 = .ok (.iload_n 1, 1) := by decide +kernel
theorem dX9_doneAt_2 : decode cX9_doneAt 2 = .ok (.invokevirtual 138, 3) := by decide +kernel
theorem dX9_doneAt_5 : decode cX9_doneAt 5 = .ok (.ifCond .eq 12, 3) := by decide +kernel
theorem dX9_doneAt_8 : decode cX9_doneAt 8 = .ok (.aload_n 0, 1) := by decide +kernel
theorem dX9_doneAt_9 : decode cX9_doneAt 9 = .ok (.getfield 34, 3) := by decide +kernel
theorem dX9_doneAt_12 : decode cX9_doneAt 12 = .ok (.iload_n 1, 1) := by decide +kernel
theorem dX9_doneAt_13 : decode cX9_doneAt 13 = .ok (.iaload, 1) := by decide +kernel
theorem dX9_doneAt_14 : decode cX9_doneAt 14 = .ok (.goto 4, 3) := by decide +kernel
theorem dX9_doneAt_17 : decode cX9_doneAt 17 = .ok (.iconst 0, 1) := by decide +kernel
theorem dX9_doneAt_18 : decode cX9_doneAt 18 = .ok (.ireturn, 1) := by decide +kernel
theorem dX9_test_0 : decode cX9_test 0 = .ok (.aload_n 0, 1) := by decide +kernel
theorem dX9_test_1 : decode cX9_test 1 = .ok (.iload_n 1, 1) := by decide +kernel
theorem dX9_test_2 : decode cX9_test 2 = .ok (.invokevirtual 138, 3) := by decide +kernel
theorem dX9_test_5 : decode cX9_test 5 = .ok (.istore 4, 2) := by decide +kernel
theorem dX9_test_7 : decode cX9_test 7 = .ok (.aload_n 0, 1) := by decide +kernel
theorem dX9_test_8 : decode cX9_test 8 = .ok (.iload 4, 2) := by decide +kernel
theorem dX9_test_10 : decode cX9_test 10 = .ok (.ifCond .ne 7, 3) := by decide +kernel
theorem dX9_test_13 : decode cX9_test 13 = .ok (.iconst 1, 1) := by decide +kernel
theorem dX9_test_14 : decode cX9_test 14 = .ok (.goto 51, 3) := by decide +kernel
theorem dX9_test_17 : decode cX9_test 17 = .ok (.iload_n 2, 1) := by decide +kernel
theorem dX9_test_18 : decode cX9_test 18 = .ok (.iconst 1, 1) := by decide +kernel
theorem dX9_test_19 : decode cX9_test 19 = .ok (.bipush 100, 2) := by decide +kernel
theorem dX9_test_21 : decode cX9_test 21 = .ok (.invokestatic 72, 3) := by decide +kernel
theorem dX9_test_24 : decode cX9_test 24 = .ok (.ifCond .eq 13, 3) := by decide +kernel
theorem dX9_test_27 : decode cX9_test 27 = .ok (.iload_n 3, 1) := by decide +kernel
theorem dX9_test_28 : decode cX9_test 28 = .ok (.iconst 1, 1) := by decide +kernel
theorem dX9_test_29 : decode cX9_test 29 = .ok (.bipush 100, 2) := by decide +kernel
theorem dX9_test_31 : decode cX9_test 31 = .ok (.invokestatic 72, 3) := by decide +kernel
theorem dX9_test_34 : decode cX9_test 34 = .ok (.ifCond .ne 7, 3) := by decide +kernel
theorem dX9_test_37 : decode cX9_test 37 = .ok (.iconst 2, 1) := by decide +kernel
theorem dX9_test_38 : decode cX9_test 38 = .ok (.goto 27, 3) := by decide +kernel
theorem dX9_test_41 : decode cX9_test 41 = .ok (.aload_n 0, 1) := by decide +kernel
theorem dX9_test_42 : decode cX9_test 42 = .ok (.getfield 34, 3) := by decide +kernel
theorem dX9_test_45 : decode cX9_test 45 = .ok (.iload_n 1, 1) := by decide +kernel
theorem dX9_test_46 : decode cX9_test 46 = .ok (.iaload, 1) := by decide +kernel
theorem dX9_test_47 : decode cX9_test 47 = .ok (.iconst (-1), 1) := by decide +kernel
theorem dX9_test_48 : decode cX9_test 48 = .ok (.if_icmp .eq 12, 3) := by decide +kernel
theorem dX9_test_51 : decode cX9_test 51 = .ok (.aload_n 0, 1) := by decide +kernel
theorem dX9_test_52 : decode cX9_test 52 = .ok (.getfield 37, 3) := by decide +kernel
theorem dX9_test_55 : decode cX9_test 55 = .ok (.iload_n 1, 1) := by decide +kernel
theorem dX9_test_56 : decode cX9_test 56 = .ok (.baload, 1) := by decide +kernel
theorem dX9_test_57 : decode cX9_test 57 = .ok (.ifCond .eq 7, 3) := by decide +kernel
theorem dX9_test_60 : decode cX9_test 60 = .ok (.iconst 3, 1) := by decide +kernel
theorem dX9_test_61 : decode cX9_test 61 = .ok (.goto 4, 3) := by decide +kernel
theorem dX9_test_64 : decode cX9_test 64 = .ok (.iconst 0, 1) := by decide +kernel
theorem dX9_test_65 : decode cX9_test 65 = .ok (.putfield 65, 3) := by decide +kernel
theorem dX9_test_68 : decode cX9_test 68 = .ok (.aload_n 0, 1) := by decide +kernel
theorem dX9_test_69 : decode cX9_test 69 = .ok (.getfield 65, 3) := by decide +kernel
theorem dX9_test_72 : decode cX9_test 72 = .ok (.ifCond .le 5, 3) := by decide +kernel
theorem dX9_test_75 : decode cX9_test 75 = .ok (.iconst 0, 1) := by decide +kernel
theorem dX9_test_76 : decode cX9_test 76 = .ok (.ireturn, 1) := by decide +kernel
theorem dX9_test_77 : decode cX9_test 77 = .ok (.aload_n 0, 1) := by decide +kernel
theorem dX9_test_78 : decode cX9_test 78 = .ok (.getfield 31, 3) := by decide +kernel
theorem dX9_test_81 : decode cX9_test 81 = .ok (.iload_n 1, 1) := by decide +kernel
theorem dX9_test_82 : decode cX9_test 82 = .ok (.iaload, 1) := by decide +kernel
theorem dX9_test_83 : decode cX9_test 83 = .ok (.istore 5, 2) := by decide +kernel
theorem dX9_test_85 : decode cX9_test 85 = .ok (.iconst 0, 1) := by decide +kernel
theorem dX9_test_86 : decode cX9_test 86 = .ok (.istore 6, 2) := by decide +kernel
theorem dX9_test_88 : decode cX9_test 88 = .ok (.iload 6, 2) := by decide +kernel
theorem dX9_test_90 : decode cX9_test 90 = .ok (.aload_n 0, 1) := by decide +kernel
theorem dX9_test_91 : decode cX9_test 91 = .ok (.getfield 22, 3) := by decide +kernel
theorem dX9_test_94 : decode cX9_test 94 = .ok (.iload 5, 2) := by decide +kernel
theorem dX9_test_96 : decode cX9_test 96 = .ok (.iaload, 1) := by decide +kernel
theorem dX9_test_97 : decode cX9_test 97 = .ok (.if_icmp .ge 129, 3) := by decide +kernel
theorem dX9_test_100 : decode cX9_test 100 = .ok (.bipush 12, 2) := by decide +kernel
theorem dX9_test_102 : decode cX9_test 102 = .ok (.iload 5, 2) := by decide +kernel
theorem dX9_test_104 : decode cX9_test 104 = .ok (.imul, 1) := by decide +kernel
theorem dX9_test_105 : decode cX9_test 105 = .ok (.iconst 3, 1) := by decide +kernel
theorem dX9_test_106 : decode cX9_test 106 = .ok (.iload 6, 2) := by decide +kernel
theorem dX9_test_108 : decode cX9_test 108 = .ok (.imul, 1) := by decide +kernel
theorem dX9_test_109 : decode cX9_test 109 = .ok (.iadd, 1) := by decide +kernel
theorem dX9_test_110 : decode cX9_test 110 = .ok (.istore 7, 2) := by decide +kernel
theorem dX9_test_112 : decode cX9_test 112 = .ok (.aload_n 0, 1) := by decide +kernel
theorem dX9_test_113 : decode cX9_test 113 = .ok (.getfield 25, 3) := by decide +kernel
theorem dX9_test_116 : decode cX9_test 116 = .ok (.iload 7, 2) := by decide +kernel
theorem dX9_test_118 : decode cX9_test 118 = .ok (.iconst 1, 1) := by decide +kernel
theorem dX9_test_119 : decode cX9_test 119 = .ok (.iadd, 1) := by decide +kernel
theorem dX9_test_120 : decode cX9_test 120 = .ok (.iaload, 1) := by decide +kernel
theorem dX9_test_121 : decode cX9_test 121 = .ok (.aload_n 0, 1) := by decide +kernel
theorem dX9_test_122 : decode cX9_test 122 = .ok (.getfield 25, 3) := by decide +kernel
theorem dX9_test_125 : decode cX9_test 125 = .ok (.iload 7, 2) := by decide +kernel
theorem dX9_test_127 : decode cX9_test 127 = .ok (.iconst 2, 1) := by decide +kernel
theorem dX9_test_128 : decode cX9_test 128 = .ok (.iadd, 1) := by decide +kernel
theorem dX9_test_129 : decode cX9_test 129 = .ok (.iaload, 1) := by decide +kernel
theorem dX9_test_130 : decode cX9_test 130 = .ok (.if_icmp .ge 15, 3) := by decide +kernel
theorem dX9_test_133 : decode cX9_test 133 = .ok (.aload_n 0, 1) := by decide +kernel
theorem dX9_test_134 : decode cX9_test 134 = .ok (.getfield 25, 3) := by decide +kernel
theorem dX9_test_137 : decode cX9_test 137 = .ok (.iload 7, 2) := by decide +kernel
theorem dX9_test_139 : decode cX9_test 139 = .ok (.iconst 1, 1) := by decide +kernel
theorem dX9_test_140 : decode cX9_test 140 = .ok (.iadd, 1) := by decide +kernel
theorem dX9_test_141 : decode cX9_test 141 = .ok (.iaload, 1) := by decide +kernel
theorem dX9_test_142 : decode cX9_test 142 = .ok (.goto 12, 3) := by decide +kernel
theorem dX9_test_145 : decode cX9_test 145 = .ok (.aload_n 0, 1) := by decide +kernel
theorem dX9_test_146 : decode cX9_test 146 = .ok (.getfield 25, 3) := by decide +kernel
theorem dX9_test_149 : decode cX9_test 149 = .ok (.iload 7, 2) := by decide +kernel
theorem dX9_test_151 : decode cX9_test 151 = .ok (.iconst 2, 1) := by decide +kernel
theorem dX9_test_152 : decode cX9_test 152 = .ok (.iadd, 1) := by decide +kernel
theorem dX9_test_153 : decode cX9_test 153 = .ok (.iaload, 1) := by decide +kernel
theorem dX9_test_154 : decode cX9_test 154 = .ok (.istore 8, 2) := by decide +kernel
theorem dX9_test_156 : decode cX9_test 156 = .ok (.aload_n 0, 1) := by decide +kernel
theorem dX9_test_157 : decode cX9_test 157 = .ok (.getfield 41, 3) := by decide +kernel
theorem dX9_test_160 : decode cX9_test 160 = .ok (.iconst 4, 1) := by decide +kernel
theorem dX9_test_161 : decode cX9_test 161 = .ok (.iload_n 1, 1) := by decide +kernel
theorem dX9_test_162 : decode cX9_test 162 = .ok (.imul, 1) := by decide +kernel
theorem dX9_test_163 : decode cX9_test 163 = .ok (.iload 6, 2) := by decide +kernel
theorem dX9_test_165 : decode cX9_test 165 = .ok (.iadd, 1) := by decide +kernel
theorem dX9_test_166 : decode cX9_test 166 = .ok (.dup2, 1) := by decide +kernel
theorem dX9_test_167 : decode cX9_test 167 = .ok (.iaload, 1) := by decide +kernel
theorem dX9_test_168 : decode cX9_test 168 = .ok (.iload_n 2, 1) := by decide +kernel
theorem dX9_test_169 : decode cX9_test 169 = .ok (.iload_n 3, 1) := by decide +kernel
theorem dX9_test_170 : decode cX9_test 170 = .ok (.imul, 1) := by decide +kernel
theorem dX9_test_171 : decode cX9_test 171 = .ok (.aload_n 0, 1) := by decide +kernel
theorem dX9_test_172 : decode cX9_test 172 = .ok (.getfield 25, 3) := by decide +kernel
theorem dX9_test_175 : decode cX9_test 175 = .ok (.iload 7, 2) := by decide +kernel
theorem dX9_test_177 : decode cX9_test 177 = .ok (.iaload, 1) := by decide +kernel
theorem dX9_test_178 : decode cX9_test 178 = .ok (.idiv, 1) := by decide +kernel
theorem dX9_test_179 : decode cX9_test 179 = .ok (.iadd, 1) := by decide +kernel
theorem dX9_test_180 : decode cX9_test 180 = .ok (.iastore, 1) := by decide +kernel
theorem dX9_test_181 : decode cX9_test 181 = .ok (.aload_n 0, 1) := by decide +kernel
theorem dX9_test_182 : decode cX9_test 182 = .ok (.getfield 37, 3) := by decide +kernel
theorem dX9_test_185 : decode cX9_test 185 = .ok (.iload_n 1, 1) := by decide +kernel
theorem dX9_test_186 : decode cX9_test 186 = .ok (.aload_n 0, 1) := by decide +kernel
theorem dX9_test_187 : decode cX9_test 187 = .ok (.getfield 37, 3) := by decide +kernel
theorem dX9_test_190 : decode cX9_test 190 = .ok (.iload_n 1, 1) := by decide +kernel
theorem dX9_test_191 : decode cX9_test 191 = .ok (.baload, 1) := by decide +kernel
theorem dX9_test_192 : decode cX9_test 192 = .ok (.ifCond .ne 22, 3) := by decide +kernel
theorem dX9_test_195 : decode cX9_test 195 = .ok (.aload_n 0, 1) := by decide +kernel
theorem dX9_test_196 : decode cX9_test 196 = .ok (.getfield 41, 3) := by decide +kernel
theorem dX9_test_199 : decode cX9_test 199 = .ok (.iconst 4, 1) := by decide +kernel
theorem dX9_test_200 : decode cX9_test 200 = .ok (.iload_n 1, 1) := by decide +kernel
theorem dX9_test_201 : decode cX9_test 201 = .ok (.imul, 1) := by decide +kernel
theorem dX9_test_202 : decode cX9_test 202 = .ok (.iload 6, 2) := by decide +kernel
theorem dX9_test_204 : decode cX9_test 204 = .ok (.iadd, 1) := by decide +kernel
theorem dX9_test_205 : decode cX9_test 205 = .ok (.iaload, 1) := by decide +kernel
theorem dX9_test_206 : decode cX9_test 206 = .ok (.bipush 10, 2) := by decide +kernel
theorem dX9_test_208 : decode cX9_test 208 = .ok (.iload 8, 2) := by decide +kernel
theorem dX9_test_210 : decode cX9_test 210 = .ok (.imul, 1) := by decide +kernel
theorem dX9_test_211 : decode cX9_test 211 = .ok (.if_icmp .le 7, 3) := by decide +kernel
theorem dX9_test_214 : decode cX9_test 214 = .ok (.iconst 1, 1) := by decide +kernel
theorem dX9_test_215 : decode cX9_test 215 = .ok (.goto 4, 3) := by decide +kernel
theorem dX9_test_218 : decode cX9_test 218 = .ok (.iconst 0, 1) := by decide +kernel
theorem dX9_test_219 : decode cX9_test 219 = .ok (.bastore, 1) := by decide +kernel
theorem dX9_test_220 : decode cX9_test 220 = .ok (.iinc 6 1, 3) := by decide +kernel
theorem dX9_test_223 : decode cX9_test 223 = .ok (.goto (-135), 3) := by decide +kernel
theorem dX9_test_226 : decode cX9_test 226 = .ok (.aload_n 0, 1) := by decide +kernel
theorem dX9_test_227 : decode cX9_test 227 = .ok (.getfield 28, 3) := by decide +kernel
theorem dX9_test_230 : decode cX9_test 230 = .ok (.iload 5, 2) := by decide +kernel
theorem dX9_test_232 : decode cX9_test 232 = .ok (.dup2, 1) := by decide +kernel
theorem dX9_test_233 : decode cX9_test 233 = .ok (.iaload, 1) := by decide +kernel
theorem dX9_test_234 : decode cX9_test 234 = .ok (.aload_n 0, 1) := by decide +kernel
theorem dX9_test_235 : decode cX9_test 235 = .ok (.getfield 37, 3) := by decide +kernel
theorem dX9_test_238 : decode cX9_test 238 = .ok (.iload_n 1, 1) := by decide +kernel
theorem dX9_test_239 : decode cX9_test 239 = .ok (.baload, 1) := by decide +kernel
theorem dX9_test_240 : decode cX9_test 240 = .ok (.ifCond .eq 7, 3) := by decide +kernel
theorem dX9_test_243 : decode cX9_test 243 = .ok (.iconst 1, 1) := by decide +kernel
theorem dX9_test_244 : decode cX9_test 244 = .ok (.goto 4, 3) := by decide +kernel
theorem dX9_test_247 : decode cX9_test 247 = .ok (.iconst 0, 1) := by decide +kernel
theorem dX9_test_248 : decode cX9_test 248 = .ok (.iadd, 1) := by decide +kernel
theorem dX9_test_249 : decode cX9_test 249 = .ok (.iastore, 1) := by decide +kernel
theorem dX9_test_250 : decode cX9_test 250 = .ok (.aload_n 0, 1) := by decide +kernel
theorem dX9_test_251 : decode cX9_test 251 = .ok (.getfield 37, 3) := by decide +kernel
theorem dX9_test_254 : decode cX9_test 254 = .ok (.iload_n 1, 1) := by decide +kernel
theorem dX9_test_255 : decode cX9_test 255 = .ok (.baload, 1) := by decide +kernel
theorem dX9_test_256 : decode cX9_test 256 = .ok (.ireturn, 1) := by decide +kernel
theorem dX9_wear_0 : decode cX9_wear 0 = .ok (.aload_n 0, 1) := by decide +kernel
theorem dX9_wear_1 : decode cX9_wear 1 = .ok (.aload_n 0, 1) := by decide +kernel
theorem dX9_wear_2 : decode cX9_wear 2 = .ok (.iload_n 1, 1) := by decide +kernel
theorem dX9_wear_3 : decode cX9_wear 3 = .ok (.invokevirtual 138, 3) := by decide +kernel
theorem dX9_wear_6 : decode cX9_wear 6 = .ok (.ifCond .eq 28, 3) := by decide +kernel
theorem dX9_wear_9 : decode cX9_wear 9 = .ok (.iload_n 2, 1) := by decide +kernel
theorem dX9_wear_10 : decode cX9_wear 10 = .ok (.iconst 0, 1) := by decide +kernel
theorem dX9_wear_11 : decode cX9_wear 11 = .ok (.aload_n 0, 1) := by decide +kernel
theorem dX9_wear_12 : decode cX9_wear 12 = .ok (.getfield 22, 3) := by decide +kernel
theorem dX9_wear_15 : decode cX9_wear 15 = .ok (.aload_n 0, 1) := by decide +kernel
theorem dX9_wear_16 : decode cX9_wear 16 = .ok (.getfield 31, 3) := by decide +kernel
theorem dX9_wear_19 : decode cX9_wear 19 = .ok (.iload_n 1, 1) := by decide +kernel
theorem dX9_wear_20 : decode cX9_wear 20 = .ok (.iaload, 1) := by decide +kernel
theorem dX9_wear_21 : decode cX9_wear 21 = .ok (.iaload, 1) := by decide +kernel
theorem dX9_wear_22 : decode cX9_wear 22 = .ok (.iconst 1, 1) := by decide +kernel
theorem dX9_wear_23 : decode cX9_wear 23 = .ok (.isub, 1) := by decide +kernel
theorem dX9_wear_24 : decode cX9_wear 24 = .ok (.invokestatic 72, 3) := by decide +kernel
theorem dX9_wear_27 : decode cX9_wear 27 = .ok (.ifCond .eq 7, 3) := by decide +kernel
theorem dX9_wear_30 : decode cX9_wear 30 = .ok (.iconst 0, 1) := by decide +kernel
theorem dX9_wear_31 : decode cX9_wear 31 = .ok (.goto 4, 3) := by decide +kernel
theorem dX9_wear_34 : decode cX9_wear 34 = .ok (.iconst 1, 1) := by decide +kernel
theorem dX9_wear_35 : decode cX9_wear 35 = .ok (.putfield 65, 3) := by decide +kernel
theorem dX9_wear_38 : decode cX9_wear 38 = .ok (.aload_n 0, 1) := by decide +kernel
theorem dX9_wear_39 : decode cX9_wear 39 = .ok (.getfield 65, 3) := by decide +kernel
theorem dX9_wear_42 : decode cX9_wear 42 = .ok (.ifCond .le 7, 3) := by decide +kernel
theorem dX9_wear_45 : decode cX9_wear 45 = .ok (.iconst 0, 1) := by decide +kernel
theorem dX9_wear_46 : decode cX9_wear 46 = .ok (.goto 13, 3) := by decide +kernel
theorem dX9_wear_49 : decode cX9_wear 49 = .ok (.aload_n 0, 1) := by decide +kernel
theorem dX9_wear_50 : decode cX9_wear 50 = .ok (.getfield 41, 3) := by decide +kernel
theorem dX9_wear_53 : decode cX9_wear 53 = .ok (.iconst 4, 1) := by decide +kernel
theorem dX9_wear_54 : decode cX9_wear 54 = .ok (.iload_n 1, 1) := by decide +kernel
theorem dX9_wear_55 : decode cX9_wear 55 = .ok (.imul, 1) := by decide +kernel
theorem dX9_wear_56 : decode cX9_wear 56 = .ok (.iload_n 2, 1) := by decide +kernel
theorem dX9_wear_57 : decode cX9_wear 57 = .ok (.iadd, 1) := by decide +kernel
theorem dX9_wear_58 : decode cX9_wear 58 = .ok (.iaload, 1) := by decide +kernel
theorem dX9_wear_59 : decode cX9_wear 59 = .ok (.ireturn, 1) := by decide +kernel
theorem dX9_claims_0 : decode cX9_claims 0 = .ok (.aload_n 0, 1) := by decide +kernel
theorem dX9_claims_1 : decode cX9_claims 1 = .ok (.iload_n 1, 1) := by decide +kernel
theorem dX9_claims_2 : decode cX9_claims 2 = .ok (.invokevirtual 93, 3) := by decide +kernel
theorem dX9_claims_5 : decode cX9_claims 5 = .ok (.ifCond .eq 12, 3) := by decide +kernel
theorem dX9_claims_8 : decode cX9_claims 8 = .ok (.aload_n 0, 1) := by decide +kernel
theorem dX9_claims_9 : decode cX9_claims 9 = .ok (.getfield 28, 3) := by decide +kernel
theorem dX9_claims_12 : decode cX9_claims 12 = .ok (.iload_n 1, 1) := by decide +kernel
theorem dX9_claims_13 : decode cX9_claims 13 = .ok (.iaload, 1) := by decide +kernel
theorem dX9_claims_14 : decode cX9_claims 14 = .ok (.goto 4, 3) := by decide +kernel
theorem dX9_claims_17 : decode cX9_claims 17 = .ok (.iconst 0, 1) := by decide +kernel
theorem dX9_claims_18 : decode cX9_claims 18 = .ok (.ireturn, 1) := by decide +kernel
theorem dX9_lacks_0 : decode cX9_lacks 0 = .ok (.aload_n 0, 1) := by decide +kernel
theorem dX9_lacks_1 : decode cX9_lacks 1 = .ok (.iload_n 1, 1) := by decide +kernel
theorem dX9_lacks_2 : decode cX9_lacks 2 = .ok (.iload_n 2, 1) := by decide +kernel
theorem dX9_lacks_3 : decode cX9_lacks 3 = .ok (.invokevirtual 82, 3) := by decide +kernel
theorem dX9_lacks_6 : decode cX9_lacks 6 = .ok (.iconst (-1), 1) := by decide +kernel
theorem dX9_lacks_7 : decode cX9_lacks 7 = .ok (.if_icmp .ne 7, 3) := by decide +kernel
theorem dX9_lacks_10 : decode cX9_lacks 10 = .ok (.iconst 1, 1) := by decide +kernel
theorem dX9_lacks_11 : decode cX9_lacks 11 = .ok (.goto 4, 3) := by decide +kernel
theorem dX9_lacks_14 : decode cX9_lacks 14 = .ok (.iconst 0, 1) := by decide +kernel
theorem dX9_lacks_15 : decode cX9_lacks 15 = .ok (.ireturn, 1) := by decide +kernel
theorem dX9_news_0 : decode cX9_news 0 = .ok (.aload_n 0, 1) := by decide +kernel
theorem dX9_news_1 : decode cX9_news 1 = .ok (.iload_n 1, 1) := by decide +kernel
theorem dX9_news_2 : decode cX9_news 2 = .ok (.iload_n 2, 1) := by decide +kernel
theorem dX9_news_3 : decode cX9_news 3 = .ok (.invokevirtual 141, 3) := by decide +kernel
theorem dX9_news_6 : decode cX9_news 6 = .ok (.istore 6, 2) := by decide +kernel
theorem dX9_news_8 : decode cX9_news 8 = .ok (.iload 6, 2) := by decide +kernel
theorem dX9_news_10 : decode cX9_news 10 = .ok (.iload_n 3, 1) := by decide +kernel
theorem dX9_news_11 : decode cX9_news 11 = .ok (.iload_n 2, 1) := by decide +kernel
theorem dX9_news_12 : decode cX9_news 12 = .ok (.if_icmp .ne 7, 3) := by decide +kernel
theorem dX9_news_15 : decode cX9_news 15 = .ok (.iconst 0, 1) := by decide +kernel
theorem dX9_news_16 : decode cX9_news 16 = .ok (.goto 9, 3) := by decide +kernel
theorem dX9_news_19 : decode cX9_news 19 = .ok (.aload_n 0, 1) := by decide +kernel
theorem dX9_news_20 : decode cX9_news 20 = .ok (.iload_n 1, 1) := by decide +kernel
theorem dX9_news_21 : decode cX9_news 21 = .ok (.iload_n 3, 1) := by decide +kernel
theorem dX9_news_22 : decode cX9_news 22 = .ok (.invokevirtual 141, 3) := by decide +kernel
theorem dX9_news_25 : decode cX9_news 25 = .ok (.iadd, 1) := by decide +kernel
theorem dX9_news_26 : decode cX9_news 26 = .ok (.istore 6, 2) := by decide +kernel
theorem dX9_news_28 : decode cX9_news 28 = .ok (.iload 6, 2) := by decide +kernel
theorem dX9_news_30 : decode cX9_news 30 = .ok (.iload 4, 2) := by decide +kernel
theorem dX9_news_32 : decode cX9_news 32 = .ok (.iload_n 2, 1) := by decide +kernel
theorem dX9_news_33 : decode cX9_news 33 = .ok (.if_icmp .eq 9, 3) := by decide +kernel
theorem dX9_news_36 : decode cX9_news 36 = .ok (.iload 4, 2) := by decide +kernel
theorem dX9_news_38 : decode cX9_news 38 = .ok (.iload_n 3, 1) := by decide +kernel
theorem dX9_news_39 : decode cX9_news 39 = .ok (.if_icmp .ne 7, 3) := by decide +kernel
theorem dX9_news_42 : decode cX9_news 42 = .ok (.iconst 0, 1) := by decide +kernel
theorem dX9_news_43 : decode cX9_news 43 = .ok (.goto 10, 3) := by decide +kernel
theorem dX9_news_46 : decode cX9_news 46 = .ok (.aload_n 0, 1) := by decide +kernel
theorem dX9_news_47 : decode cX9_news 47 = .ok (.iload_n 1, 1) := by decide +kernel
theorem dX9_news_48 : decode cX9_news 48 = .ok (.iload 4, 2) := by decide +kernel
theorem dX9_news_50 : decode cX9_news 50 = .ok (.invokevirtual 141, 3) := by decide +kernel
theorem dX9_news_53 : decode cX9_news 53 = .ok (.iadd, 1) := by decide +kernel
theorem dX9_news_54 : decode cX9_news 54 = .ok (.istore 6, 2) := by decide +kernel
theorem dX9_news_56 : decode cX9_news 56 = .ok (.iload 6, 2) := by decide +kernel
theorem dX9_news_58 : decode cX9_news 58 = .ok (.iload 5, 2) := by decide +kernel
theorem dX9_news_60 : decode cX9_news 60 = .ok (.iload_n 2, 1) := by decide +kernel
theorem dX9_news_61 : decode cX9_news 61 = .ok (.if_icmp .eq 16, 3) := by decide +kernel
theorem dX9_news_64 : decode cX9_news 64 = .ok (.iload 5, 2) := by decide +kernel
theorem dX9_news_66 : decode cX9_news 66 = .ok (.iload_n 3, 1) := by decide +kernel
theorem dX9_news_67 : decode cX9_news 67 = .ok (.if_icmp .eq 10, 3) := by decide +kernel
theorem dX9_news_70 : decode cX9_news 70 = .ok (.iload 5, 2) := by decide +kernel
theorem dX9_news_72 : decode cX9_news 72 = .ok (.iload 4, 2) := by decide +kernel
theorem dX9_news_74 : decode cX9_news 74 = .ok (.if_icmp .ne 7, 3) := by decide +kernel
theorem dX9_news_77 : decode cX9_news 77 = .ok (.iconst 0, 1) := by decide +kernel
theorem dX9_news_78 : decode cX9_news 78 = .ok (.goto 10, 3) := by decide +kernel
theorem dX9_news_81 : decode cX9_news 81 = .ok (.aload_n 0, 1) := by decide +kernel
theorem dX9_news_82 : decode cX9_news 82 = .ok (.iload_n 1, 1) := by decide +kernel
theorem dX9_news_83 : decode cX9_news 83 = .ok (.iload 5, 2) := by decide +kernel
theorem dX9_news_85 : decode cX9_news 85 = .ok (.invokevirtual 141, 3) := by decide +kernel
theorem dX9_news_88 : decode cX9_news 88 = .ok (.iadd, 1) := by decide +kernel
theorem dX9_news_89 : decode cX9_news 89 = .ok (.ireturn, 1) := by decide +kernel
theorem dX9_leastNew_0 : decode cX9_leastNew 0 = .ok (.aload_n 0, 1) := by decide +kernel
theorem dX9_leastNew_1 : decode cX9_leastNew 1 = .ok (.iload_n 1, 1) := by decide +kernel
theorem dX9_leastNew_2 : decode cX9_leastNew 2 = .ok (.iconst 1, 1) := by decide +kernel
theorem dX9_leastNew_3 : decode cX9_leastNew 3 = .ok (.iconst 4, 1) := by decide +kernel
theorem dX9_leastNew_4 : decode cX9_leastNew 4 = .ok (.invokestatic 72, 3) := by decide +kernel
theorem dX9_leastNew_7 : decode cX9_leastNew 7 = .ok (.ifCond .eq 29, 3) := by decide +kernel
theorem dX9_leastNew_10 : decode cX9_leastNew 10 = .ok (.iload_n 2, 1) := by decide +kernel
theorem dX9_leastNew_11 : decode cX9_leastNew 11 = .ok (.iconst 1, 1) := by decide +kernel
theorem dX9_leastNew_12 : decode cX9_leastNew 12 = .ok (.sipush 400, 3) := by decide +kernel
theorem dX9_leastNew_15 : decode cX9_leastNew 15 = .ok (.invokestatic 72, 3) := by decide +kernel
theorem dX9_leastNew_18 : decode cX9_leastNew 18 = .ok (.ifCond .eq 18, 3) := by decide +kernel
theorem dX9_leastNew_21 : decode cX9_leastNew 21 = .ok (.iload_n 3, 1) := by decide +kernel
theorem dX9_leastNew_22 : decode cX9_leastNew 22 = .ok (.iconst 1, 1) := by decide +kernel
theorem dX9_leastNew_23 : decode cX9_leastNew 23 = .ok (.sipush 400, 3) := by decide +kernel
theorem dX9_leastNew_26 : decode cX9_leastNew 26 = .ok (.invokestatic 72, 3) := by decide +kernel
theorem dX9_leastNew_29 : decode cX9_leastNew 29 = .ok (.ifCond .eq 7, 3) := by decide +kernel
theorem dX9_leastNew_32 : decode cX9_leastNew 32 = .ok (.iconst 0, 1) := by decide +kernel
theorem dX9_leastNew_33 : decode cX9_leastNew 33 = .ok (.goto 4, 3) := by decide +kernel
theorem dX9_leastNew_36 : decode cX9_leastNew 36 = .ok (.iconst 1, 1) := by decide +kernel
theorem dX9_leastNew_37 : decode cX9_leastNew 37 = .ok (.putfield 65, 3) := by decide +kernel
theorem dX9_leastNew_40 : decode cX9_leastNew 40 = .ok (.iconst (-1), 1) := by decide +kernel
theorem dX9_leastNew_41 : decode cX9_leastNew 41 = .ok (.istore 4, 2) := by decide +kernel
theorem dX9_leastNew_43 : decode cX9_leastNew 43 = .ok (.iconst 0, 1) := by decide +kernel
theorem dX9_leastNew_44 : decode cX9_leastNew 44 = .ok (.istore 5, 2) := by decide +kernel
theorem dX9_leastNew_46 : decode cX9_leastNew 46 = .ok (.iload 5, 2) := by decide +kernel
theorem dX9_leastNew_48 : decode cX9_leastNew 48 = .ok (.sipush 28561, 3) := by decide +kernel
theorem dX9_leastNew_51 : decode cX9_leastNew 51 = .ok (.if_icmp .ge 118, 3) := by decide +kernel
theorem dX9_leastNew_54 : decode cX9_leastNew 54 = .ok (.aload_n 0, 1) := by decide +kernel
theorem dX9_leastNew_55 : decode cX9_leastNew 55 = .ok (.getfield 65, 3) := by decide +kernel
theorem dX9_leastNew_58 : decode cX9_leastNew 58 = .ok (.ifCond .ne 111, 3) := by decide +kernel
theorem dX9_leastNew_61 : decode cX9_leastNew 61 = .ok (.bipush 8, 2) := by decide +kernel
theorem dX9_leastNew_63 : decode cX9_leastNew 63 = .ok (.iload 5, 2) := by decide +kernel
theorem dX9_leastNew_65 : decode cX9_leastNew 65 = .ok (.bipush 13, 2) := by decide +kernel
theorem dX9_leastNew_67 : decode cX9_leastNew 67 = .ok (.irem, 1) := by decide +kernel
theorem dX9_leastNew_68 : decode cX9_leastNew 68 = .ok (.iadd, 1) := by decide +kernel
theorem dX9_leastNew_69 : decode cX9_leastNew 69 = .ok (.istore 6, 2) := by decide +kernel
theorem dX9_leastNew_71 : decode cX9_leastNew 71 = .ok (.bipush 8, 2) := by decide +kernel
theorem dX9_leastNew_73 : decode cX9_leastNew 73 = .ok (.iload 5, 2) := by decide +kernel
theorem dX9_leastNew_75 : decode cX9_leastNew 75 = .ok (.bipush 13, 2) := by decide +kernel
theorem dX9_leastNew_77 : decode cX9_leastNew 77 = .ok (.idiv, 1) := by decide +kernel
theorem dX9_leastNew_78 : decode cX9_leastNew 78 = .ok (.bipush 13, 2) := by decide +kernel
theorem dX9_leastNew_80 : decode cX9_leastNew 80 = .ok (.irem, 1) := by decide +kernel
theorem dX9_leastNew_81 : decode cX9_leastNew 81 = .ok (.iadd, 1) := by decide +kernel
theorem dX9_leastNew_82 : decode cX9_leastNew 82 = .ok (.istore 7, 2) := by decide +kernel
theorem dX9_leastNew_84 : decode cX9_leastNew 84 = .ok (.bipush 8, 2) := by decide +kernel
theorem dX9_leastNew_86 : decode cX9_leastNew 86 = .ok (.iload 5, 2) := by decide +kernel
theorem dX9_leastNew_88 : decode cX9_leastNew 88 = .ok (.sipush 169, 3) := by decide +kernel
theorem dX9_leastNew_91 : decode cX9_leastNew 91 = .ok (.idiv, 1) := by decide +kernel
theorem dX9_leastNew_92 : decode cX9_leastNew 92 = .ok (.bipush 13, 2) := by decide +kernel
theorem dX9_leastNew_94 : decode cX9_leastNew 94 = .ok (.irem, 1) := by decide +kernel
theorem dX9_leastNew_95 : decode cX9_leastNew 95 = .ok (.iadd, 1) := by decide +kernel
theorem dX9_leastNew_96 : decode cX9_leastNew 96 = .ok (.istore 8, 2) := by decide +kernel
theorem dX9_leastNew_98 : decode cX9_leastNew 98 = .ok (.bipush 8, 2) := by decide +kernel
theorem dX9_leastNew_100 : decode cX9_leastNew 100 = .ok (.iload 5, 2) := by decide +kernel
theorem dX9_leastNew_102 : decode cX9_leastNew 102 = .ok (.sipush 2197, 3) := by decide +kernel
theorem dX9_leastNew_105 : decode cX9_leastNew 105 = .ok (.idiv, 1) := by decide +kernel
theorem dX9_leastNew_106 : decode cX9_leastNew 106 = .ok (.iadd, 1) := by decide +kernel
theorem dX9_leastNew_107 : decode cX9_leastNew 107 = .ok (.istore 9, 2) := by decide +kernel
theorem dX9_leastNew_109 : decode cX9_leastNew 109 = .ok (.iload 7, 2) := by decide +kernel
theorem dX9_leastNew_111 : decode cX9_leastNew 111 = .ok (.iload 9, 2) := by decide +kernel
theorem dX9_leastNew_113 : decode cX9_leastNew 113 = .ok (.imul, 1) := by decide +kernel
theorem dX9_leastNew_114 : decode cX9_leastNew 114 = .ok (.iload_n 3, 1) := by decide +kernel
theorem dX9_leastNew_115 : decode cX9_leastNew 115 = .ok (.imul, 1) := by decide +kernel
theorem dX9_leastNew_116 : decode cX9_leastNew 116 = .ok (.iload 6, 2) := by decide +kernel
theorem dX9_leastNew_118 : decode cX9_leastNew 118 = .ok (.iload 8, 2) := by decide +kernel
theorem dX9_leastNew_120 : decode cX9_leastNew 120 = .ok (.imul, 1) := by decide +kernel
theorem dX9_leastNew_121 : decode cX9_leastNew 121 = .ok (.iload_n 2, 1) := by decide +kernel
theorem dX9_leastNew_122 : decode cX9_leastNew 122 = .ok (.imul, 1) := by decide +kernel
theorem dX9_leastNew_123 : decode cX9_leastNew 123 = .ok (.if_icmp .ne 40, 3) := by decide +kernel
theorem dX9_leastNew_126 : decode cX9_leastNew 126 = .ok (.aload_n 0, 1) := by decide +kernel
theorem dX9_leastNew_127 : decode cX9_leastNew 127 = .ok (.iload_n 1, 1) := by decide +kernel
theorem dX9_leastNew_128 : decode cX9_leastNew 128 = .ok (.iload 6, 2) := by decide +kernel
theorem dX9_leastNew_130 : decode cX9_leastNew 130 = .ok (.iload 7, 2) := by decide +kernel
theorem dX9_leastNew_132 : decode cX9_leastNew 132 = .ok (.iload 8, 2) := by decide +kernel
theorem dX9_leastNew_134 : decode cX9_leastNew 134 = .ok (.iload 9, 2) := by decide +kernel
theorem dX9_leastNew_136 : decode cX9_leastNew 136 = .ok (.invokevirtual 144, 3) := by decide +kernel
theorem dX9_leastNew_139 : decode cX9_leastNew 139 = .ok (.istore 10, 2) := by decide +kernel
theorem dX9_leastNew_141 : decode cX9_leastNew 141 = .ok (.iload 4, 2) := by decide +kernel
theorem dX9_leastNew_143 : decode cX9_leastNew 143 = .ok (.iconst (-1), 1) := by decide +kernel
theorem dX9_leastNew_144 : decode cX9_leastNew 144 = .ok (.if_icmp .eq 10, 3) := by decide +kernel
theorem dX9_leastNew_147 : decode cX9_leastNew 147 = .ok (.iload 10, 2) := by decide +kernel
theorem dX9_leastNew_149 : decode cX9_leastNew 149 = .ok (.iload 4, 2) := by decide +kernel
theorem dX9_leastNew_151 : decode cX9_leastNew 151 = .ok (.if_icmp .ge 8, 3) := by decide +kernel
theorem dX9_leastNew_154 : decode cX9_leastNew 154 = .ok (.iload 10, 2) := by decide +kernel
theorem dX9_leastNew_156 : decode cX9_leastNew 156 = .ok (.goto 5, 3) := by decide +kernel
theorem dX9_leastNew_159 : decode cX9_leastNew 159 = .ok (.iload 4, 2) := by decide +kernel
theorem dX9_leastNew_161 : decode cX9_leastNew 161 = .ok (.istore 4, 2) := by decide +kernel
theorem dX9_leastNew_163 : decode cX9_leastNew 163 = .ok (.iinc 5 1, 3) := by decide +kernel
theorem dX9_leastNew_166 : decode cX9_leastNew 166 = .ok (.goto (-120), 3) := by decide +kernel
theorem dX9_leastNew_169 : decode cX9_leastNew 169 = .ok (.aload_n 0, 1) := by decide +kernel
theorem dX9_leastNew_170 : decode cX9_leastNew 170 = .ok (.getfield 65, 3) := by decide +kernel
theorem dX9_leastNew_173 : decode cX9_leastNew 173 = .ok (.ifCond .le 7, 3) := by decide +kernel
theorem dX9_leastNew_176 : decode cX9_leastNew 176 = .ok (.iconst 0, 1) := by decide +kernel
theorem dX9_leastNew_177 : decode cX9_leastNew 177 = .ok (.goto 5, 3) := by decide +kernel
theorem dX9_leastNew_180 : decode cX9_leastNew 180 = .ok (.iload 4, 2) := by decide +kernel
theorem dX9_leastNew_182 : decode cX9_leastNew 182 = .ok (.ireturn, 1) := by decide +kernel
theorem dJ6_bitCount_0f7a4_0 : decode cJ6_bitCount_0f7a4 0 = .ok (.iload_n 0, 1) := by decide +kernel
theorem dJ6_bitCount_0f7a4_1 : decode cJ6_bitCount_0f7a4 1 = .ok (.iload_n 0, 1) := by decide +kernel
theorem dJ6_bitCount_0f7a4_2 : decode cJ6_bitCount_0f7a4 2 = .ok (.iconst 1, 1) := by decide +kernel
theorem dJ6_bitCount_0f7a4_3 : decode cJ6_bitCount_0f7a4 3 = .ok (.iushr, 1) := by decide +kernel
theorem dJ6_bitCount_0f7a4_4 : decode cJ6_bitCount_0f7a4 4 = .ok (.ldc_w 265, 3) := by decide +kernel
theorem dJ6_bitCount_0f7a4_7 : decode cJ6_bitCount_0f7a4 7 = .ok (.iand, 1) := by decide +kernel
theorem dJ6_bitCount_0f7a4_8 : decode cJ6_bitCount_0f7a4 8 = .ok (.isub, 1) := by decide +kernel
theorem dJ6_bitCount_0f7a4_9 : decode cJ6_bitCount_0f7a4 9 = .ok (.istore_n 0, 1) := by decide +kernel
theorem dJ6_bitCount_0f7a4_10 : decode cJ6_bitCount_0f7a4 10 = .ok (.iload_n 0, 1) := by decide +kernel
theorem dJ6_bitCount_0f7a4_11 : decode cJ6_bitCount_0f7a4 11 = .ok (.ldc_w 266, 3) := by decide +kernel
theorem dJ6_bitCount_0f7a4_14 : decode cJ6_bitCount_0f7a4 14 = .ok (.iand, 1) := by decide +kernel
theorem dJ6_bitCount_0f7a4_15 : decode cJ6_bitCount_0f7a4 15 = .ok (.iload_n 0, 1) := by decide +kernel
theorem dJ6_bitCount_0f7a4_16 : decode cJ6_bitCount_0f7a4 16 = .ok (.iconst 2, 1) := by decide +kernel
theorem dJ6_bitCount_0f7a4_17 : decode cJ6_bitCount_0f7a4 17 = .ok (.iushr, 1) := by decide +kernel
theorem dJ6_bitCount_0f7a4_18 : decode cJ6_bitCount_0f7a4 18 = .ok (.ldc_w 266, 3) := by decide +kernel
theorem dJ6_bitCount_0f7a4_21 : decode cJ6_bitCount_0f7a4 21 = .ok (.iand, 1) := by decide +kernel
theorem dJ6_bitCount_0f7a4_22 : decode cJ6_bitCount_0f7a4 22 = .ok (.iadd, 1) := by decide +kernel
theorem dJ6_bitCount_0f7a4_23 : decode cJ6_bitCount_0f7a4 23 = .ok (.istore_n 0, 1) := by decide +kernel
theorem dJ6_bitCount_0f7a4_24 : decode cJ6_bitCount_0f7a4 24 = .ok (.iload_n 0, 1) := by decide +kernel
theorem dJ6_bitCount_0f7a4_25 : decode cJ6_bitCount_0f7a4 25 = .ok (.iload_n 0, 1) := by decide +kernel
theorem dJ6_bitCount_0f7a4_26 : decode cJ6_bitCount_0f7a4 26 = .ok (.iconst 4, 1) := by decide +kernel
theorem dJ6_bitCount_0f7a4_27 : decode cJ6_bitCount_0f7a4 27 = .ok (.iushr, 1) := by decide +kernel
theorem dJ6_bitCount_0f7a4_28 : decode cJ6_bitCount_0f7a4 28 = .ok (.iadd, 1) := by decide +kernel
theorem dJ6_bitCount_0f7a4_29 : decode cJ6_bitCount_0f7a4 29 = .ok (.ldc_w 267, 3) := by decide +kernel
theorem dJ6_bitCount_0f7a4_32 : decode cJ6_bitCount_0f7a4 32 = .ok (.iand, 1) := by decide +kernel
theorem dJ6_bitCount_0f7a4_33 : decode cJ6_bitCount_0f7a4 33 = .ok (.istore_n 0, 1) := by decide +kernel
theorem dJ6_bitCount_0f7a4_34 : decode cJ6_bitCount_0f7a4 34 = .ok (.iload_n 0, 1) := by decide +kernel
theorem dJ6_bitCount_0f7a4_35 : decode cJ6_bitCount_0f7a4 35 = .ok (.iload_n 0, 1) := by decide +kernel
theorem dJ6_bitCount_0f7a4_36 : decode cJ6_bitCount_0f7a4 36 = .ok (.bipush 8, 2) := by decide +kernel
theorem dJ6_bitCount_0f7a4_38 : decode cJ6_bitCount_0f7a4 38 = .ok (.iushr, 1) := by decide +kernel
theorem dJ6_bitCount_0f7a4_39 : decode cJ6_bitCount_0f7a4 39 = .ok (.iadd, 1) := by decide +kernel
theorem dJ6_bitCount_0f7a4_40 : decode cJ6_bitCount_0f7a4 40 = .ok (.istore_n 0, 1) := by decide +kernel
theorem dJ6_bitCount_0f7a4_41 : decode cJ6_bitCount_0f7a4 41 = .ok (.iload_n 0, 1) := by decide +kernel
theorem dJ6_bitCount_0f7a4_42 : decode cJ6_bitCount_0f7a4 42 = .ok (.iload_n 0, 1) := by decide +kernel
theorem dJ6_bitCount_0f7a4_43 : decode cJ6_bitCount_0f7a4 43 = .ok (.bipush 16, 2) := by decide +kernel
theorem dJ6_bitCount_0f7a4_45 : decode cJ6_bitCount_0f7a4 45 = .ok (.iushr, 1) := by decide +kernel
theorem dJ6_bitCount_0f7a4_46 : decode cJ6_bitCount_0f7a4 46 = .ok (.iadd, 1) := by decide +kernel
theorem dJ6_bitCount_0f7a4_47 : decode cJ6_bitCount_0f7a4 47 = .ok (.istore_n 0, 1) := by decide +kernel
theorem dJ6_bitCount_0f7a4_48 : decode cJ6_bitCount_0f7a4 48 = .ok (.iload_n 0, 1) := by decide +kernel
theorem dJ6_bitCount_0f7a4_49 : decode cJ6_bitCount_0f7a4 49 = .ok (.bipush 63, 2) := by decide +kernel
theorem dJ6_bitCount_0f7a4_51 : decode cJ6_bitCount_0f7a4 51 = .ok (.iand, 1) := by decide +kernel
theorem dJ6_bitCount_0f7a4_52 : decode cJ6_bitCount_0f7a4 52 = .ok (.ireturn, 1) := by decide +kernel
theorem dJ9_max_7cf53_0 : decode cJ9_max_7cf53 0 = .ok (.iload_n 0, 1) := by decide +kernel
theorem dJ9_max_7cf53_1 : decode cJ9_max_7cf53 1 = .ok (.iload_n 1, 1) := by decide +kernel
theorem dJ9_max_7cf53_2 : decode cJ9_max_7cf53 2 = .ok (.if_icmp .lt 7, 3) := by decide +kernel
theorem dJ9_max_7cf53_5 : decode cJ9_max_7cf53 5 = .ok (.iload_n 0, 1) := by decide +kernel
theorem dJ9_max_7cf53_6 : decode cJ9_max_7cf53 6 = .ok (.goto 4, 3) := by decide +kernel
theorem dJ9_max_7cf53_9 : decode cJ9_max_7cf53 9 = .ok (.iload_n 1, 1) := by decide +kernel
theorem dJ9_max_7cf53_10 : decode cJ9_max_7cf53 10 = .ok (.ireturn, 1) := by decide +kernel
theorem dJ9_min_7cf53_0 : decode cJ9_min_7cf53 0 = .ok (.iload_n 0, 1) := by decide +kernel
theorem dJ9_min_7cf53_1 : decode cJ9_min_7cf53 1 = .ok (.iload_n 1, 1) := by decide +kernel
theorem dJ9_min_7cf53_2 : decode cJ9_min_7cf53 2 = .ok (.if_icmp .gt 7, 3) := by decide +kernel
theorem dJ9_min_7cf53_5 : decode cJ9_min_7cf53 5 = .ok (.iload_n 0, 1) := by decide +kernel
theorem dJ9_min_7cf53_6 : decode cJ9_min_7cf53 6 = .ok (.goto 4, 3) := by decide +kernel
theorem dJ9_min_7cf53_9 : decode cJ9_min_7cf53 9 = .ok (.iload_n 1, 1) := by decide +kernel
theorem dJ9_min_7cf53_10 : decode cJ9_min_7cf53 10 = .ok (.ireturn, 1) := by decide +kernel
theorem dJxa1e45_init_da8c8_0 : decode cJxa1e45_init_da8c8 0 = .ok (.aload_n 0, 1) := by decide +kernel
theorem dJxa1e45_init_da8c8_1 : decode cJxa1e45_init_da8c8 1 = .ok (.invokespecial 1, 3) := by decide +kernel
theorem dJxa1e45_init_da8c8_4 : decode cJxa1e45_init_da8c8 4 = .ok (.return_, 1) := by decide +kernel
theorem dJxc12de_init_da8c8_0 : decode cJxc12de_init_da8c8 0 = .ok (.aload_n 0, 1) := by decide +kernel
theorem dJxc12de_init_da8c8_1 : decode cJxc12de_init_da8c8 1 = .ok (.invokespecial 1, 3) := by decide +kernel
theorem dJxc12de_init_da8c8_4 : decode cJxc12de_init_da8c8 4 = .ok (.aload_n 0, 1) := by decide +kernel
theorem dJxc12de_init_da8c8_5 : decode cJxc12de_init_da8c8 5 = .ok (.iconst 0, 1) := by decide +kernel
theorem dJxc12de_init_da8c8_6 : decode cJxc12de_init_da8c8 6 = .ok (.putfield 7, 3) := by decide +kernel
theorem dJxc12de_init_da8c8_9 : decode cJxc12de_init_da8c8 9 = .ok (.return_, 1) := by decide +kernel
theorem dJx4a65c_init_da8c8_0 : decode cJx4a65c_init_da8c8 0 = .ok (.aload_n 0, 1) := by decide +kernel
theorem dJx4a65c_init_da8c8_1 : decode cJx4a65c_init_da8c8 1 = .ok (.invokespecial 1, 3) := by decide +kernel
theorem dJx4a65c_init_da8c8_4 : decode cJx4a65c_init_da8c8 4 = .ok (.aload_n 0, 1) := by decide +kernel
theorem dJx4a65c_init_da8c8_5 : decode cJx4a65c_init_da8c8 5 = .ok (.getstatic 39, 3) := by decide +kernel
theorem dJx4a65c_init_da8c8_8 : decode cJx4a65c_init_da8c8 8 = .ok (.putfield 9, 3) := by decide +kernel
theorem dJx4a65c_init_da8c8_11 : decode cJx4a65c_init_da8c8 11 = .ok (.return_, 1) := by decide +kernel
theorem dJx4a65c_grow_92f84_0 : decode cJx4a65c_grow_92f84 0 = .ok (.aload_n 0, 1) := by decide +kernel
theorem dJx4a65c_grow_92f84_1 : decode cJx4a65c_grow_92f84 1 = .ok (.getfield 9, 3) := by decide +kernel
theorem dJx4a65c_grow_92f84_4 : decode cJx4a65c_grow_92f84 4 = .ok (.arraylength, 1) := by decide +kernel
theorem dJx4a65c_grow_92f84_5 : decode cJx4a65c_grow_92f84 5 = .ok (.istore_n 2, 1) := by decide +kernel
theorem dJx4a65c_grow_92f84_6 : decode cJx4a65c_grow_92f84 6 = .ok (.iload_n 2, 1) := by decide +kernel
theorem dJx4a65c_grow_92f84_7 : decode cJx4a65c_grow_92f84 7 = .ok (.ifCond .gt 13, 3) := by decide +kernel
theorem dJx4a65c_grow_92f84_10 : decode cJx4a65c_grow_92f84 10 = .ok (.aload_n 0, 1) := by decide +kernel
theorem dJx4a65c_grow_92f84_11 : decode cJx4a65c_grow_92f84 11 = .ok (.getfield 9, 3) := by decide +kernel
theorem dJx4a65c_grow_92f84_14 : decode cJx4a65c_grow_92f84 14 = .ok (.getstatic 39, 3) := by decide +kernel
theorem dJx4a65c_grow_92f84_17 : decode cJx4a65c_grow_92f84 17 = .ok (.if_acmp .eq 28, 3) := by decide +kernel
theorem dJx4a65c_grow_92f84_20 : decode cJx4a65c_grow_92f84 20 = .ok (.iload_n 2, 1) := by decide +kernel
theorem dJx4a65c_grow_92f84_21 : decode cJx4a65c_grow_92f84 21 = .ok (.iload_n 1, 1) := by decide +kernel
theorem dJx4a65c_grow_92f84_22 : decode cJx4a65c_grow_92f84 22 = .ok (.iload_n 2, 1) := by decide +kernel
theorem dJx4a65c_grow_92f84_23 : decode cJx4a65c_grow_92f84 23 = .ok (.isub, 1) := by decide +kernel
theorem dJx4a65c_grow_92f84_24 : decode cJx4a65c_grow_92f84 24 = .ok (.iload_n 2, 1) := by decide +kernel
theorem dJx4a65c_grow_92f84_25 : decode cJx4a65c_grow_92f84 25 = .ok (.iconst 1, 1) := by decide +kernel
theorem dJx4a65c_grow_92f84_26 : decode cJx4a65c_grow_92f84 26 = .ok (.ishr, 1) := by decide +kernel
theorem dJx4a65c_grow_92f84_27 : decode cJx4a65c_grow_92f84 27 = .ok (.invokestatic 73, 3) := by decide +kernel
theorem dJx4a65c_grow_92f84_30 : decode cJx4a65c_grow_92f84 30 = .ok (.istore_n 3, 1) := by decide +kernel
theorem dJx4a65c_grow_92f84_31 : decode cJx4a65c_grow_92f84 31 = .ok (.aload_n 0, 1) := by decide +kernel
theorem dJx4a65c_grow_92f84_32 : decode cJx4a65c_grow_92f84 32 = .ok (.aload_n 0, 1) := by decide +kernel
theorem dJx4a65c_grow_92f84_33 : decode cJx4a65c_grow_92f84 33 = .ok (.getfield 9, 3) := by decide +kernel
theorem dJx4a65c_grow_92f84_36 : decode cJx4a65c_grow_92f84 36 = .ok (.iload_n 3, 1) := by decide +kernel
theorem dJx4a65c_grow_92f84_37 : decode cJx4a65c_grow_92f84 37 = .ok (.invokestatic 66, 3) := by decide +kernel
theorem dJx4a65c_grow_92f84_40 : decode cJx4a65c_grow_92f84 40 = .ok (.dup_x1, 1) := by decide +kernel
theorem dJx4a65c_grow_92f84_41 : decode cJx4a65c_grow_92f84 41 = .ok (.putfield 9, 3) := by decide +kernel
theorem dJx4a65c_grow_92f84_44 : decode cJx4a65c_grow_92f84 44 = .ok (.areturn, 1) := by decide +kernel
theorem dJx4a65c_grow_92f84_45 : decode cJx4a65c_grow_92f84 45 = .ok (.aload_n 0, 1) := by decide +kernel
theorem dJx4a65c_grow_92f84_46 : decode cJx4a65c_grow_92f84 46 = .ok (.bipush 10, 2) := by decide +kernel
theorem dJx4a65c_grow_92f84_48 : decode cJx4a65c_grow_92f84 48 = .ok (.iload_n 1, 1) := by decide +kernel
theorem dJx4a65c_grow_92f84_49 : decode cJx4a65c_grow_92f84 49 = .ok (.invokestatic 79, 3) := by decide +kernel
theorem dJx4a65c_grow_92f84_52 : decode cJx4a65c_grow_92f84 52 = .ok (.anewarray 7, 3) := by decide +kernel
theorem dJx4a65c_grow_92f84_55 : decode cJx4a65c_grow_92f84 55 = .ok (.dup_x1, 1) := by decide +kernel
theorem dJx4a65c_grow_92f84_56 : decode cJx4a65c_grow_92f84 56 = .ok (.putfield 9, 3) := by decide +kernel
theorem dJx4a65c_grow_92f84_59 : decode cJx4a65c_grow_92f84 59 = .ok (.areturn, 1) := by decide +kernel
theorem dJx4a65c_grow_d5877_0 : decode cJx4a65c_grow_d5877 0 = .ok (.aload_n 0, 1) := by decide +kernel
theorem dJx4a65c_grow_d5877_1 : decode cJx4a65c_grow_d5877 1 = .ok (.aload_n 0, 1) := by decide +kernel
theorem dJx4a65c_grow_d5877_2 : decode cJx4a65c_grow_d5877 2 = .ok (.getfield 48, 3) := by decide +kernel
theorem dJx4a65c_grow_d5877_5 : decode cJx4a65c_grow_d5877 5 = .ok (.iconst 1, 1) := by decide +kernel
theorem dJx4a65c_grow_d5877_6 : decode cJx4a65c_grow_d5877 6 = .ok (.iadd, 1) := by decide +kernel
theorem dJx4a65c_grow_d5877_7 : decode cJx4a65c_grow_d5877 7 = .ok (.invokevirtual 69, 3) := by decide +kernel
theorem dJx4a65c_grow_d5877_10 : decode cJx4a65c_grow_d5877 10 = .ok (.areturn, 1) := by decide +kernel
theorem dJx4a65c_size_8abf5_0 : decode cJx4a65c_size_8abf5 0 = .ok (.aload_n 0, 1) := by decide +kernel
theorem dJx4a65c_size_8abf5_1 : decode cJx4a65c_size_8abf5 1 = .ok (.getfield 48, 3) := by decide +kernel
theorem dJx4a65c_size_8abf5_4 : decode cJx4a65c_size_8abf5 4 = .ok (.ireturn, 1) := by decide +kernel
theorem dJx4a65c_isEmpty_aae02_0 : decode cJx4a65c_isEmpty_aae02 0 = .ok (.aload_n 0, 1) := by decide +kernel
theorem dJx4a65c_isEmpty_aae02_1 : decode cJx4a65c_isEmpty_aae02 1 = .ok (.getfield 48, 3) := by decide +kernel
theorem dJx4a65c_isEmpty_aae02_4 : decode cJx4a65c_isEmpty_aae02 4 = .ok (.ifCond .ne 7, 3) := by decide +kernel
theorem dJx4a65c_isEmpty_aae02_7 : decode cJx4a65c_isEmpty_aae02 7 = .ok (.iconst 1, 1) := by decide +kernel
theorem dJx4a65c_isEmpty_aae02_8 : decode cJx4a65c_isEmpty_aae02 8 = .ok (.goto 4, 3) := by decide +kernel
theorem dJx4a65c_isEmpty_aae02_11 : decode cJx4a65c_isEmpty_aae02 11 = .ok (.iconst 0, 1) := by decide +kernel
theorem dJx4a65c_isEmpty_aae02_12 : decode cJx4a65c_isEmpty_aae02 12 = .ok (.ireturn, 1) := by decide +kernel
theorem dJx4a65c_elementData_915e3_0 : decode cJx4a65c_elementData_915e3 0 = .ok (.aload_n 0, 1) := by decide +kernel
theorem dJx4a65c_elementData_915e3_1 : decode cJx4a65c_elementData_915e3 1 = .ok (.getfield 9, 3) := by decide +kernel
theorem dJx4a65c_elementData_915e3_4 : decode cJx4a65c_elementData_915e3 4 = .ok (.iload_n 1, 1) := by decide +kernel
theorem dJx4a65c_elementData_915e3_5 : decode cJx4a65c_elementData_915e3 5 = .ok (.aaload, 1) := by decide +kernel
theorem dJx4a65c_elementData_915e3_6 : decode cJx4a65c_elementData_915e3 6 = .ok (.areturn, 1) := by decide +kernel
theorem dJx4a65c_get_915e3_0 : decode cJx4a65c_get_915e3 0 = .ok (.iload_n 1, 1) := by decide +kernel
theorem dJx4a65c_get_915e3_1 : decode cJx4a65c_get_915e3 1 = .ok (.aload_n 0, 1) := by decide +kernel
theorem dJx4a65c_get_915e3_2 : decode cJx4a65c_get_915e3 2 = .ok (.getfield 48, 3) := by decide +kernel
theorem dJx4a65c_get_915e3_5 : decode cJx4a65c_get_915e3 5 = .ok (.invokestatic 118, 3) := by decide +kernel
theorem dJx4a65c_get_915e3_8 : decode cJx4a65c_get_915e3 8 = .ok (.pop, 1) := by decide +kernel
theorem dJx4a65c_get_915e3_9 : decode cJx4a65c_get_915e3 9 = .ok (.aload_n 0, 1) := by decide +kernel
theorem dJx4a65c_get_915e3_10 : decode cJx4a65c_get_915e3 10 = .ok (.iload_n 1, 1) := by decide +kernel
theorem dJx4a65c_get_915e3_11 : decode cJx4a65c_get_915e3 11 = .ok (.invokevirtual 123, 3) := by decide +kernel
theorem dJx4a65c_get_915e3_14 : decode cJx4a65c_get_915e3 14 = .ok (.areturn, 1) := by decide +kernel
theorem dJx4a65c_add_72be8_0 : decode cJx4a65c_add_72be8 0 = .ok (.iload_n 3, 1) := by decide +kernel
theorem dJx4a65c_add_72be8_1 : decode cJx4a65c_add_72be8 1 = .ok (.aload_n 2, 1) := by decide +kernel
theorem dJx4a65c_add_72be8_2 : decode cJx4a65c_add_72be8 2 = .ok (.arraylength, 1) := by decide +kernel
theorem dJx4a65c_add_72be8_3 : decode cJx4a65c_add_72be8 3 = .ok (.if_icmp .ne 8, 3) := by decide +kernel
theorem dJx4a65c_add_72be8_6 : decode cJx4a65c_add_72be8 6 = .ok (.aload_n 0, 1) := by decide +kernel
theorem dJx4a65c_add_72be8_7 : decode cJx4a65c_add_72be8 7 = .ok (.invokevirtual 129, 3) := by decide +kernel
theorem dJx4a65c_add_72be8_10 : decode cJx4a65c_add_72be8 10 = .ok (.astore_n 2, 1) := by decide +kernel
theorem dJx4a65c_add_72be8_11 : decode cJx4a65c_add_72be8 11 = .ok (.aload_n 2, 1) := by decide +kernel
theorem dJx4a65c_add_72be8_12 : decode cJx4a65c_add_72be8 12 = .ok (.iload_n 3, 1) := by decide +kernel
theorem dJx4a65c_add_72be8_13 : decode cJx4a65c_add_72be8 13 = .ok (.aload_n 1, 1) := by decide +kernel
theorem dJx4a65c_add_72be8_14 : decode cJx4a65c_add_72be8 14 = .ok (.aastore, 1) := by decide +kernel
theorem dJx4a65c_add_72be8_15 : decode cJx4a65c_add_72be8 15 = .ok (.aload_n 0, 1) := by decide +kernel
theorem dJx4a65c_add_72be8_16 : decode cJx4a65c_add_72be8 16 = .ok (.iload_n 3, 1) := by decide +kernel
theorem dJx4a65c_add_72be8_17 : decode cJx4a65c_add_72be8 17 = .ok (.iconst 1, 1) := by decide +kernel
theorem dJx4a65c_add_72be8_18 : decode cJx4a65c_add_72be8 18 = .ok (.iadd, 1) := by decide +kernel
theorem dJx4a65c_add_72be8_19 : decode cJx4a65c_add_72be8 19 = .ok (.putfield 48, 3) := by decide +kernel
theorem dJx4a65c_add_72be8_22 : decode cJx4a65c_add_72be8 22 = .ok (.return_, 1) := by decide +kernel
theorem dJx4a65c_add_9ea2d_0 : decode cJx4a65c_add_9ea2d 0 = .ok (.aload_n 0, 1) := by decide +kernel
theorem dJx4a65c_add_9ea2d_1 : decode cJx4a65c_add_9ea2d 1 = .ok (.dup, 1) := by decide +kernel
theorem dJx4a65c_add_9ea2d_2 : decode cJx4a65c_add_9ea2d 2 = .ok (.getfield 63, 3) := by decide +kernel
theorem dJx4a65c_add_9ea2d_5 : decode cJx4a65c_add_9ea2d 5 = .ok (.iconst 1, 1) := by decide +kernel
theorem dJx4a65c_add_9ea2d_6 : decode cJx4a65c_add_9ea2d 6 = .ok (.iadd, 1) := by decide +kernel
theorem dJx4a65c_add_9ea2d_7 : decode cJx4a65c_add_9ea2d 7 = .ok (.putfield 63, 3) := by decide +kernel
theorem dJx4a65c_add_9ea2d_10 : decode cJx4a65c_add_9ea2d 10 = .ok (.aload_n 0, 1) := by decide +kernel
theorem dJx4a65c_add_9ea2d_11 : decode cJx4a65c_add_9ea2d 11 = .ok (.aload_n 1, 1) := by decide +kernel
theorem dJx4a65c_add_9ea2d_12 : decode cJx4a65c_add_9ea2d 12 = .ok (.aload_n 0, 1) := by decide +kernel
theorem dJx4a65c_add_9ea2d_13 : decode cJx4a65c_add_9ea2d 13 = .ok (.getfield 9, 3) := by decide +kernel
theorem dJx4a65c_add_9ea2d_16 : decode cJx4a65c_add_9ea2d 16 = .ok (.aload_n 0, 1) := by decide +kernel
theorem dJx4a65c_add_9ea2d_17 : decode cJx4a65c_add_9ea2d 17 = .ok (.getfield 48, 3) := by decide +kernel
theorem dJx4a65c_add_9ea2d_20 : decode cJx4a65c_add_9ea2d 20 = .ok (.invokevirtual 131, 3) := by decide +kernel
theorem dJx4a65c_add_9ea2d_23 : decode cJx4a65c_add_9ea2d 23 = .ok (.iconst 1, 1) := by decide +kernel
theorem dJx4a65c_add_9ea2d_24 : decode cJx4a65c_add_9ea2d 24 = .ok (.ireturn, 1) := by decide +kernel
theorem dJx4a65c_remove_915e3_0 : decode cJx4a65c_remove_915e3 0 = .ok (.iload_n 1, 1) := by decide +kernel
theorem dJx4a65c_remove_915e3_1 : decode cJx4a65c_remove_915e3 1 = .ok (.aload_n 0, 1) := by decide +kernel
theorem dJx4a65c_remove_915e3_2 : decode cJx4a65c_remove_915e3 2 = .ok (.getfield 48, 3) := by decide +kernel
theorem dJx4a65c_remove_915e3_5 : decode cJx4a65c_remove_915e3 5 = .ok (.invokestatic 118, 3) := by decide +kernel
theorem dJx4a65c_remove_915e3_8 : decode cJx4a65c_remove_915e3 8 = .ok (.pop, 1) := by decide +kernel
theorem dJx4a65c_remove_915e3_9 : decode cJx4a65c_remove_915e3 9 = .ok (.aload_n 0, 1) := by decide +kernel
theorem dJx4a65c_remove_915e3_10 : decode cJx4a65c_remove_915e3 10 = .ok (.getfield 9, 3) := by decide +kernel
theorem dJx4a65c_remove_915e3_13 : decode cJx4a65c_remove_915e3 13 = .ok (.astore_n 2, 1) := by decide +kernel
theorem dJx4a65c_remove_915e3_14 : decode cJx4a65c_remove_915e3 14 = .ok (.aload_n 2, 1) := by decide +kernel
theorem dJx4a65c_remove_915e3_15 : decode cJx4a65c_remove_915e3 15 = .ok (.iload_n 1, 1) := by decide +kernel
theorem dJx4a65c_remove_915e3_16 : decode cJx4a65c_remove_915e3 16 = .ok (.aaload, 1) := by decide +kernel
theorem dJx4a65c_remove_915e3_17 : decode cJx4a65c_remove_915e3 17 = .ok (.astore_n 3, 1) := by decide +kernel
theorem dJx4a65c_remove_915e3_18 : decode cJx4a65c_remove_915e3 18 = .ok (.aload_n 0, 1) := by decide +kernel
theorem dJx4a65c_remove_915e3_19 : decode cJx4a65c_remove_915e3 19 = .ok (.aload_n 2, 1) := by decide +kernel
theorem dJx4a65c_remove_915e3_20 : decode cJx4a65c_remove_915e3 20 = .ok (.iload_n 1, 1) := by decide +kernel
theorem dJx4a65c_remove_915e3_21 : decode cJx4a65c_remove_915e3 21 = .ok (.invokevirtual 144, 3) := by decide +kernel
theorem dJx4a65c_remove_915e3_24 : decode cJx4a65c_remove_915e3 24 = .ok (.aload_n 3, 1) := by decide +kernel
theorem dJx4a65c_remove_915e3_25 : decode cJx4a65c_remove_915e3 25 = .ok (.areturn, 1) := by decide +kernel
theorem dJx4a65c_fastRemove_b59b0_0 : decode cJx4a65c_fastRemove_b59b0 0 = .ok (.aload_n 0, 1) := by decide +kernel
theorem dJx4a65c_fastRemove_b59b0_1 : decode cJx4a65c_fastRemove_b59b0 1 = .ok (.dup, 1) := by decide +kernel
theorem dJx4a65c_fastRemove_b59b0_2 : decode cJx4a65c_fastRemove_b59b0 2 = .ok (.getfield 63, 3) := by decide +kernel
theorem dJx4a65c_fastRemove_b59b0_5 : decode cJx4a65c_fastRemove_b59b0 5 = .ok (.iconst 1, 1) := by decide +kernel
theorem dJx4a65c_fastRemove_b59b0_6 : decode cJx4a65c_fastRemove_b59b0 6 = .ok (.iadd, 1) := by decide +kernel
theorem dJx4a65c_fastRemove_b59b0_7 : decode cJx4a65c_fastRemove_b59b0 7 = .ok (.putfield 63, 3) := by decide +kernel
theorem dJx4a65c_fastRemove_b59b0_10 : decode cJx4a65c_fastRemove_b59b0 10 = .ok (.aload_n 0, 1) := by decide +kernel
theorem dJx4a65c_fastRemove_b59b0_11 : decode cJx4a65c_fastRemove_b59b0 11 = .ok (.getfield 48, 3) := by decide +kernel
theorem dJx4a65c_fastRemove_b59b0_14 : decode cJx4a65c_fastRemove_b59b0 14 = .ok (.iconst 1, 1) := by decide +kernel
theorem dJx4a65c_fastRemove_b59b0_15 : decode cJx4a65c_fastRemove_b59b0 15 = .ok (.isub, 1) := by decide +kernel
theorem dJx4a65c_fastRemove_b59b0_16 : decode cJx4a65c_fastRemove_b59b0 16 = .ok (.dup, 1) := by decide +kernel
theorem dJx4a65c_fastRemove_b59b0_17 : decode cJx4a65c_fastRemove_b59b0 17 = .ok (.istore_n 3, 1) := by decide +kernel
theorem dJx4a65c_fastRemove_b59b0_18 : decode cJx4a65c_fastRemove_b59b0 18 = .ok (.iload_n 2, 1) := by decide +kernel
theorem dJx4a65c_fastRemove_b59b0_19 : decode cJx4a65c_fastRemove_b59b0 19 = .ok (.if_icmp .le 15, 3) := by decide +kernel
theorem dJx4a65c_fastRemove_b59b0_22 : decode cJx4a65c_fastRemove_b59b0 22 = .ok (.aload_n 1, 1) := by decide +kernel
theorem dJx4a65c_fastRemove_b59b0_23 : decode cJx4a65c_fastRemove_b59b0 23 = .ok (.iload_n 2, 1) := by decide +kernel
theorem dJx4a65c_fastRemove_b59b0_24 : decode cJx4a65c_fastRemove_b59b0 24 = .ok (.iconst 1, 1) := by decide +kernel
theorem dJx4a65c_fastRemove_b59b0_25 : decode cJx4a65c_fastRemove_b59b0 25 = .ok (.iadd, 1) := by decide +kernel
theorem dJx4a65c_fastRemove_b59b0_26 : decode cJx4a65c_fastRemove_b59b0 26 = .ok (.aload_n 1, 1) := by decide +kernel
theorem dJx4a65c_fastRemove_b59b0_27 : decode cJx4a65c_fastRemove_b59b0 27 = .ok (.iload_n 2, 1) := by decide +kernel
theorem dJx4a65c_fastRemove_b59b0_28 : decode cJx4a65c_fastRemove_b59b0 28 = .ok (.iload_n 3, 1) := by decide +kernel
theorem dJx4a65c_fastRemove_b59b0_29 : decode cJx4a65c_fastRemove_b59b0 29 = .ok (.iload_n 2, 1) := by decide +kernel
theorem dJx4a65c_fastRemove_b59b0_30 : decode cJx4a65c_fastRemove_b59b0 30 = .ok (.isub, 1) := by decide +kernel
theorem dJx4a65c_fastRemove_b59b0_31 : decode cJx4a65c_fastRemove_b59b0 31 = .ok (.invokestatic 112, 3) := by decide +kernel
theorem dJx4a65c_fastRemove_b59b0_34 : decode cJx4a65c_fastRemove_b59b0 34 = .ok (.aload_n 1, 1) := by decide +kernel
theorem dJx4a65c_fastRemove_b59b0_35 : decode cJx4a65c_fastRemove_b59b0 35 = .ok (.aload_n 0, 1) := by decide +kernel
theorem dJx4a65c_fastRemove_b59b0_36 : decode cJx4a65c_fastRemove_b59b0 36 = .ok (.iload_n 3, 1) := by decide +kernel
theorem dJx4a65c_fastRemove_b59b0_37 : decode cJx4a65c_fastRemove_b59b0 37 = .ok (.dup_x1, 1) := by decide +kernel
theorem dJx4a65c_fastRemove_b59b0_38 : decode cJx4a65c_fastRemove_b59b0 38 = .ok (.putfield 48, 3) := by decide +kernel
theorem dJx4a65c_fastRemove_b59b0_41 : decode cJx4a65c_fastRemove_b59b0 41 = .ok (.aconst_null, 1) := by decide +kernel
theorem dJx4a65c_fastRemove_b59b0_42 : decode cJx4a65c_fastRemove_b59b0 42 = .ok (.aastore, 1) := by decide +kernel
theorem dJx4a65c_fastRemove_b59b0_43 : decode cJx4a65c_fastRemove_b59b0 43 = .ok (.return_, 1) := by decide +kernel
theorem dJ7_copyOf_1904c_0 : decode cJ7_copyOf_1904c 0 = .ok (.aload_n 0, 1) := by decide +kernel
theorem dJ7_copyOf_1904c_1 : decode cJ7_copyOf_1904c 1 = .ok (.iload_n 1, 1) := by decide +kernel
theorem dJ7_copyOf_1904c_2 : decode cJ7_copyOf_1904c 2 = .ok (.aload_n 0, 1) := by decide +kernel
theorem dJ7_copyOf_1904c_3 : decode cJ7_copyOf_1904c 3 = .ok (.invokevirtual 86, 3) := by decide +kernel
theorem dJ7_copyOf_1904c_6 : decode cJ7_copyOf_1904c 6 = .ok (.invokestatic 300, 3) := by decide +kernel
theorem dJ7_copyOf_1904c_9 : decode cJ7_copyOf_1904c 9 = .ok (.areturn, 1) := by decide +kernel
theorem dJ7_copyOf_6403c_0 : decode cJ7_copyOf_6403c 0 = .ok (.aload_n 2, 1) := by decide +kernel
theorem dJ7_copyOf_6403c_1 : decode cJ7_copyOf_6403c 1 = .ok (.ldc 110, 2) := by decide +kernel
theorem dJ7_copyOf_6403c_3 : decode cJ7_copyOf_6403c 3 = .ok (.if_acmp .ne 10, 3) := by decide +kernel
theorem dJ7_copyOf_6403c_6 : decode cJ7_copyOf_6403c 6 = .ok (.iload_n 1, 1) := by decide +kernel
theorem dJ7_copyOf_6403c_7 : decode cJ7_copyOf_6403c 7 = .ok (.anewarray 2, 3) := by decide +kernel
theorem dJ7_copyOf_6403c_10 : decode cJ7_copyOf_6403c 10 = .ok (.goto 14, 3) := by decide +kernel
theorem dJ7_copyOf_6403c_13 : decode cJ7_copyOf_6403c 13 = .ok (.aload_n 2, 1) := by decide +kernel
theorem dJ7_copyOf_6403c_14 : decode cJ7_copyOf_6403c 14 = .ok (.invokevirtual 90, 3) := by decide +kernel
theorem dJ7_copyOf_6403c_17 : decode cJ7_copyOf_6403c 17 = .ok (.iload_n 1, 1) := by decide +kernel
theorem dJ7_copyOf_6403c_18 : decode cJ7_copyOf_6403c 18 = .ok (.invokestatic 95, 3) := by decide +kernel
theorem dJ7_copyOf_6403c_21 : decode cJ7_copyOf_6403c 21 = .ok (.checkcast 110, 3) := by decide +kernel
theorem dJ7_copyOf_6403c_24 : decode cJ7_copyOf_6403c 24 = .ok (.astore_n 3, 1) := by decide +kernel
theorem dJ7_copyOf_6403c_25 : decode cJ7_copyOf_6403c 25 = .ok (.aload_n 0, 1) := by decide +kernel
theorem dJ7_copyOf_6403c_26 : decode cJ7_copyOf_6403c 26 = .ok (.iconst 0, 1) := by decide +kernel
theorem dJ7_copyOf_6403c_27 : decode cJ7_copyOf_6403c 27 = .ok (.aload_n 3, 1) := by decide +kernel
theorem dJ7_copyOf_6403c_28 : decode cJ7_copyOf_6403c 28 = .ok (.iconst 0, 1) := by decide +kernel
theorem dJ7_copyOf_6403c_29 : decode cJ7_copyOf_6403c 29 = .ok (.aload_n 0, 1) := by decide +kernel
theorem dJ7_copyOf_6403c_30 : decode cJ7_copyOf_6403c 30 = .ok (.arraylength, 1) := by decide +kernel
theorem dJ7_copyOf_6403c_31 : decode cJ7_copyOf_6403c 31 = .ok (.iload_n 1, 1) := by decide +kernel
theorem dJ7_copyOf_6403c_32 : decode cJ7_copyOf_6403c 32 = .ok (.invokestatic 304, 3) := by decide +kernel
theorem dJ7_copyOf_6403c_35 : decode cJ7_copyOf_6403c 35 = .ok (.invokestatic 150, 3) := by decide +kernel
theorem dJ7_copyOf_6403c_38 : decode cJ7_copyOf_6403c 38 = .ok (.aload_n 3, 1) := by decide +kernel
theorem dJ7_copyOf_6403c_39 : decode cJ7_copyOf_6403c 39 = .ok (.areturn, 1) := by decide +kernel
theorem dJ15_checkIndex_7cf53_0 : decode cJ15_checkIndex_7cf53 0 = .ok (.iload_n 0, 1) := by decide +kernel
theorem dJ15_checkIndex_7cf53_1 : decode cJ15_checkIndex_7cf53 1 = .ok (.iload_n 1, 1) := by decide +kernel
theorem dJ15_checkIndex_7cf53_2 : decode cJ15_checkIndex_7cf53 2 = .ok (.aconst_null, 1) := by decide +kernel
theorem dJ15_checkIndex_7cf53_3 : decode cJ15_checkIndex_7cf53 3 = .ok (.invokestatic 105, 3) := by decide +kernel
theorem dJ15_checkIndex_7cf53_6 : decode cJ15_checkIndex_7cf53 6 = .ok (.ireturn, 1) := by decide +kernel
theorem dJ8_newLength_cabcc_0 : decode cJ8_newLength_cabcc 0 = .ok (.iload_n 0, 1) := by decide +kernel
theorem dJ8_newLength_cabcc_1 : decode cJ8_newLength_cabcc 1 = .ok (.iload_n 1, 1) := by decide +kernel
theorem dJ8_newLength_cabcc_2 : decode cJ8_newLength_cabcc 2 = .ok (.iload_n 2, 1) := by decide +kernel
theorem dJ8_newLength_cabcc_3 : decode cJ8_newLength_cabcc 3 = .ok (.invokestatic 194, 3) := by decide +kernel
theorem dJ8_newLength_cabcc_6 : decode cJ8_newLength_cabcc 6 = .ok (.iadd, 1) := by decide +kernel
theorem dJ8_newLength_cabcc_7 : decode cJ8_newLength_cabcc 7 = .ok (.istore_n 3, 1) := by decide +kernel
theorem dJ8_newLength_cabcc_8 : decode cJ8_newLength_cabcc 8 = .ok (.iconst 0, 1) := by decide +kernel
theorem dJ8_newLength_cabcc_9 : decode cJ8_newLength_cabcc 9 = .ok (.iload_n 3, 1) := by decide +kernel
theorem dJ8_newLength_cabcc_10 : decode cJ8_newLength_cabcc 10 = .ok (.if_icmp .ge 11, 3) := by decide +kernel
theorem dJ8_newLength_cabcc_13 : decode cJ8_newLength_cabcc 13 = .ok (.iload_n 3, 1) := by decide +kernel
theorem dJ8_newLength_cabcc_14 : decode cJ8_newLength_cabcc 14 = .ok (.ldc 200, 2) := by decide +kernel
theorem dJ8_newLength_cabcc_16 : decode cJ8_newLength_cabcc 16 = .ok (.if_icmp .gt 5, 3) := by decide +kernel
theorem dJ8_newLength_cabcc_19 : decode cJ8_newLength_cabcc 19 = .ok (.iload_n 3, 1) := by decide +kernel
theorem dJ8_newLength_cabcc_20 : decode cJ8_newLength_cabcc 20 = .ok (.ireturn, 1) := by decide +kernel
theorem dJ8_newLength_cabcc_21 : decode cJ8_newLength_cabcc 21 = .ok (.iload_n 0, 1) := by decide +kernel
theorem dJ8_newLength_cabcc_22 : decode cJ8_newLength_cabcc 22 = .ok (.iload_n 1, 1) := by decide +kernel
theorem dJ8_newLength_cabcc_23 : decode cJ8_newLength_cabcc 23 = .ok (.invokestatic 201, 3) := by decide +kernel
theorem dJ8_newLength_cabcc_26 : decode cJ8_newLength_cabcc 26 = .ok (.ireturn, 1) := by decide +kernel
theorem dJ8_hugeLength_7cf53_0 : decode cJ8_hugeLength_7cf53 0 = .ok (.iload_n 0, 1) := by decide +kernel
theorem dJ8_hugeLength_7cf53_1 : decode cJ8_hugeLength_7cf53 1 = .ok (.iload_n 1, 1) := by decide +kernel
theorem dJ8_hugeLength_7cf53_2 : decode cJ8_hugeLength_7cf53 2 = .ok (.iadd, 1) := by decide +kernel
theorem dJ8_hugeLength_7cf53_3 : decode cJ8_hugeLength_7cf53 3 = .ok (.istore_n 2, 1) := by decide +kernel
theorem dJ8_hugeLength_7cf53_4 : decode cJ8_hugeLength_7cf53 4 = .ok (.iload_n 2, 1) := by decide +kernel
theorem dJ8_hugeLength_7cf53_5 : decode cJ8_hugeLength_7cf53 5 = .ok (.ifCond .ge 44, 3) := by decide +kernel
theorem dJ8_hugeLength_7cf53_8 : decode cJ8_hugeLength_7cf53 8 = .ok (.new 204, 3) := by decide +kernel
theorem dJ8_hugeLength_7cf53_11 : decode cJ8_hugeLength_7cf53 11 = .ok (.dup, 1) := by decide +kernel
theorem dJ8_hugeLength_7cf53_12 : decode cJ8_hugeLength_7cf53 12 = .ok (.new 89, 3) := by decide +kernel
theorem dJ8_hugeLength_7cf53_15 : decode cJ8_hugeLength_7cf53 15 = .ok (.dup, 1) := by decide +kernel
theorem dJ8_hugeLength_7cf53_16 : decode cJ8_hugeLength_7cf53 16 = .ok (.invokespecial 91, 3) := by decide +kernel
theorem dJ8_hugeLength_7cf53_19 : decode cJ8_hugeLength_7cf53 19 = .ok (.ldc 206, 2) := by decide +kernel
theorem dJ8_hugeLength_7cf53_21 : decode cJ8_hugeLength_7cf53 21 = .ok (.invokevirtual 94, 3) := by decide +kernel
theorem dJ8_hugeLength_7cf53_24 : decode cJ8_hugeLength_7cf53 24 = .ok (.iload_n 0, 1) := by decide +kernel
theorem dJ8_hugeLength_7cf53_25 : decode cJ8_hugeLength_7cf53 25 = .ok (.invokevirtual 98, 3) := by decide +kernel
theorem dJ8_hugeLength_7cf53_28 : decode cJ8_hugeLength_7cf53 28 = .ok (.ldc 208, 2) := by decide +kernel
theorem dJ8_hugeLength_7cf53_30 : decode cJ8_hugeLength_7cf53 30 = .ok (.invokevirtual 94, 3) := by decide +kernel
theorem dJ8_hugeLength_7cf53_33 : decode cJ8_hugeLength_7cf53 33 = .ok (.iload_n 1, 1) := by decide +kernel
theorem dJ8_hugeLength_7cf53_34 : decode cJ8_hugeLength_7cf53 34 = .ok (.invokevirtual 98, 3) := by decide +kernel
theorem dJ8_hugeLength_7cf53_37 : decode cJ8_hugeLength_7cf53 37 = .ok (.ldc 210, 2) := by decide +kernel
theorem dJ8_hugeLength_7cf53_39 : decode cJ8_hugeLength_7cf53 39 = .ok (.invokevirtual 94, 3) := by decide +kernel
theorem dJ8_hugeLength_7cf53_42 : decode cJ8_hugeLength_7cf53 42 = .ok (.invokevirtual 101, 3) := by decide +kernel
theorem dJ8_hugeLength_7cf53_45 : decode cJ8_hugeLength_7cf53 45 = .ok (.invokespecial 212, 3) := by decide +kernel
theorem dJ8_hugeLength_7cf53_48 : decode cJ8_hugeLength_7cf53 48 = .ok (.athrow, 1) := by decide +kernel
theorem dJ8_hugeLength_7cf53_49 : decode cJ8_hugeLength_7cf53 49 = .ok (.iload_n 2, 1) := by decide +kernel
theorem dJ8_hugeLength_7cf53_50 : decode cJ8_hugeLength_7cf53 50 = .ok (.ldc 200, 2) := by decide +kernel
theorem dJ8_hugeLength_7cf53_52 : decode cJ8_hugeLength_7cf53 52 = .ok (.if_icmp .gt 6, 3) := by decide +kernel
theorem dJ8_hugeLength_7cf53_55 : decode cJ8_hugeLength_7cf53 55 = .ok (.ldc 200, 2) := by decide +kernel
theorem dJ8_hugeLength_7cf53_57 : decode cJ8_hugeLength_7cf53 57 = .ok (.ireturn, 1) := by decide +kernel
theorem dJ8_hugeLength_7cf53_58 : decode cJ8_hugeLength_7cf53 58 = .ok (.iload_n 2, 1) := by decide +kernel
theorem dJ8_hugeLength_7cf53_59 : decode cJ8_hugeLength_7cf53 59 = .ok (.ireturn, 1) := by decide +kernel
theorem dJ3_checkIndex_8e157_0 : decode cJ3_checkIndex_8e157 0 = .ok (.iload_n 0, 1) := by decide +kernel
theorem dJ3_checkIndex_8e157_1 : decode cJ3_checkIndex_8e157 1 = .ok (.ifCond .lt 8, 3) := by decide +kernel
theorem dJ3_checkIndex_8e157_4 : decode cJ3_checkIndex_8e157 4 = .ok (.iload_n 0, 1) := by decide +kernel
theorem dJ3_checkIndex_8e157_5 : decode cJ3_checkIndex_8e157 5 = .ok (.iload_n 1, 1) := by decide +kernel
theorem dJ3_checkIndex_8e157_6 : decode cJ3_checkIndex_8e157 6 = .ok (.if_icmp .lt 10, 3) := by decide +kernel
theorem dJ3_checkIndex_8e157_9 : decode cJ3_checkIndex_8e157 9 = .ok (.aload_n 2, 1) := by decide +kernel
theorem dJ3_checkIndex_8e157_10 : decode cJ3_checkIndex_8e157 10 = .ok (.iload_n 0, 1) := by decide +kernel
theorem dJ3_checkIndex_8e157_11 : decode cJ3_checkIndex_8e157 11 = .ok (.iload_n 1, 1) := by decide +kernel
theorem dJ3_checkIndex_8e157_12 : decode cJ3_checkIndex_8e157 12 = .ok (.invokestatic 95, 3) := by decide +kernel
theorem dJ3_checkIndex_8e157_15 : decode cJ3_checkIndex_8e157 15 = .ok (.athrow, 1) := by decide +kernel
theorem dJ3_checkIndex_8e157_16 : decode cJ3_checkIndex_8e157 16 = .ok (.iload_n 0, 1) := by decide +kernel
theorem dJ3_checkIndex_8e157_17 : decode cJ3_checkIndex_8e157 17 = .ok (.ireturn, 1) := by decide +kernel
theorem dL_addCutter_0 : decode cL_addCutter 0 = .ok (.aload 4, 2) := by decide +kernel
theorem dL_addCutter_2 : decode cL_addCutter 2 = .ok (.iconst 0, 1) := by decide +kernel
theorem dL_addCutter_3 : decode cL_addCutter 3 = .ok (.aload_n 0, 1) := by decide +kernel
theorem dL_addCutter_4 : decode cL_addCutter 4 = .ok (.iload_n 1, 1) := by decide +kernel
theorem dL_addCutter_5 : decode cL_addCutter 5 = .ok (.iload_n 2, 1) := by decide +kernel
theorem dL_addCutter_6 : decode cL_addCutter 6 = .ok (.iload_n 3, 1) := by decide +kernel
theorem dL_addCutter_7 : decode cL_addCutter 7 = .ok (.invokevirtual 7, 3) := by decide +kernel
theorem dL_addCutter_10 : decode cL_addCutter 10 = .ok (.i2l, 1) := by decide +kernel
theorem dL_addCutter_11 : decode cL_addCutter 11 = .ok (.lastore, 1) := by decide +kernel
theorem dL_addCutter_12 : decode cL_addCutter 12 = .ok (.goto 11, 3) := by decide +kernel
theorem dL_addCutter_15 : decode cL_addCutter 15 = .ok (.astore 5, 2) := by decide +kernel
theorem dL_addCutter_17 : decode cL_addCutter 17 = .ok (.iconst 1, 1) := by decide +kernel
theorem dL_addCutter_18 : decode cL_addCutter 18 = .ok (.ireturn, 1) := by decide +kernel
theorem dL_addCutter_19 : decode cL_addCutter 19 = .ok (.astore 5, 2) := by decide +kernel
theorem dL_addCutter_21 : decode cL_addCutter 21 = .ok (.iconst 2, 1) := by decide +kernel
theorem dL_addCutter_22 : decode cL_addCutter 22 = .ok (.ireturn, 1) := by decide +kernel
theorem dL_addCutter_23 : decode cL_addCutter 23 = .ok (.iconst 0, 1) := by decide +kernel
theorem dL_addCutter_24 : decode cL_addCutter 24 = .ok (.ireturn, 1) := by decide +kernel
theorem dL_cutterFor_0 : decode cL_cutterFor 0 = .ok (.aload_n 3, 1) := by decide +kernel
theorem dL_cutterFor_1 : decode cL_cutterFor 1 = .ok (.iconst 0, 1) := by decide +kernel
theorem dL_cutterFor_2 : decode cL_cutterFor 2 = .ok (.aload_n 0, 1) := by decide +kernel
theorem dL_cutterFor_3 : decode cL_cutterFor 3 = .ok (.iload_n 1, 1) := by decide +kernel
theorem dL_cutterFor_4 : decode cL_cutterFor 4 = .ok (.iload_n 2, 1) := by decide +kernel
theorem dL_cutterFor_5 : decode cL_cutterFor 5 = .ok (.invokevirtual 17, 3) := by decide +kernel
theorem dL_cutterFor_8 : decode cL_cutterFor 8 = .ok (.i2l, 1) := by decide +kernel
theorem dL_cutterFor_9 : decode cL_cutterFor 9 = .ok (.lastore, 1) := by decide +kernel
theorem dL_cutterFor_10 : decode cL_cutterFor 10 = .ok (.goto 7, 3) := by decide +kernel
theorem dL_cutterFor_13 : decode cL_cutterFor 13 = .ok (.astore 4, 2) := by decide +kernel
theorem dL_cutterFor_15 : decode cL_cutterFor 15 = .ok (.iconst 1, 1) := by decide +kernel
theorem dL_cutterFor_16 : decode cL_cutterFor 16 = .ok (.ireturn, 1) := by decide +kernel
theorem dL_cutterFor_17 : decode cL_cutterFor 17 = .ok (.iconst 0, 1) := by decide +kernel
theorem dL_cutterFor_18 : decode cL_cutterFor 18 = .ok (.ireturn, 1) := by decide +kernel
theorem dL_stage_0 : decode cL_stage 0 = .ok (.aload 4, 2) := by decide +kernel
theorem dL_stage_2 : decode cL_stage 2 = .ok (.iconst 0, 1) := by decide +kernel
theorem dL_stage_3 : decode cL_stage 3 = .ok (.aload_n 0, 1) := by decide +kernel
theorem dL_stage_4 : decode cL_stage 4 = .ok (.iload_n 1, 1) := by decide +kernel
theorem dL_stage_5 : decode cL_stage 5 = .ok (.iload_n 2, 1) := by decide +kernel
theorem dL_stage_6 : decode cL_stage 6 = .ok (.iload_n 3, 1) := by decide +kernel
theorem dL_stage_7 : decode cL_stage 7 = .ok (.invokevirtual 21, 3) := by decide +kernel
theorem dL_stage_10 : decode cL_stage 10 = .ok (.i2l, 1) := by decide +kernel
theorem dL_stage_11 : decode cL_stage 11 = .ok (.lastore, 1) := by decide +kernel
theorem dL_stage_12 : decode cL_stage 12 = .ok (.goto 11, 3) := by decide +kernel
theorem dL_stage_15 : decode cL_stage 15 = .ok (.astore 5, 2) := by decide +kernel
theorem dL_stage_17 : decode cL_stage 17 = .ok (.iconst 1, 1) := by decide +kernel
theorem dL_stage_18 : decode cL_stage 18 = .ok (.ireturn, 1) := by decide +kernel
theorem dL_stage_19 : decode cL_stage 19 = .ok (.astore 5, 2) := by decide +kernel
theorem dL_stage_21 : decode cL_stage 21 = .ok (.iconst 2, 1) := by decide +kernel
theorem dL_stage_22 : decode cL_stage 22 = .ok (.ireturn, 1) := by decide +kernel
theorem dL_stage_23 : decode cL_stage 23 = .ok (.iconst 0, 1) := by decide +kernel
theorem dL_stage_24 : decode cL_stage 24 = .ok (.ireturn, 1) := by decide +kernel
theorem dL_make_0 : decode cL_make 0 = .ok (.aload_n 2, 1) := by decide +kernel
theorem dL_make_1 : decode cL_make 1 = .ok (.iconst 0, 1) := by decide +kernel
theorem dL_make_2 : decode cL_make 2 = .ok (.aload_n 0, 1) := by decide +kernel
theorem dL_make_3 : decode cL_make 3 = .ok (.iload_n 1, 1) := by decide +kernel
theorem dL_make_4 : decode cL_make 4 = .ok (.invokevirtual 24, 3) := by decide +kernel
theorem dL_make_7 : decode cL_make 7 = .ok (.i2l, 1) := by decide +kernel
theorem dL_make_8 : decode cL_make 8 = .ok (.lastore, 1) := by decide +kernel
theorem dL_make_9 : decode cL_make 9 = .ok (.goto 6, 3) := by decide +kernel
theorem dL_make_12 : decode cL_make 12 = .ok (.astore_n 3, 1) := by decide +kernel
theorem dL_make_13 : decode cL_make 13 = .ok (.iconst 1, 1) := by decide +kernel
theorem dL_make_14 : decode cL_make 14 = .ok (.ireturn, 1) := by decide +kernel
theorem dL_make_15 : decode cL_make 15 = .ok (.iconst 0, 1) := by decide +kernel
theorem dL_make_16 : decode cL_make 16 = .ok (.ireturn, 1) := by decide +kernel
theorem dL_numerator_0 : decode cL_numerator 0 = .ok (.aload_n 2, 1) := by decide +kernel
theorem dL_numerator_1 : decode cL_numerator 1 = .ok (.iconst 0, 1) := by decide +kernel
theorem dL_numerator_2 : decode cL_numerator 2 = .ok (.aload_n 0, 1) := by decide +kernel
theorem dL_numerator_3 : decode cL_numerator 3 = .ok (.iload_n 1, 1) := by decide +kernel
theorem dL_numerator_4 : decode cL_numerator 4 = .ok (.invokevirtual 28, 3) := by decide +kernel
theorem dL_numerator_7 : decode cL_numerator 7 = .ok (.i2l, 1) := by decide +kernel
theorem dL_numerator_8 : decode cL_numerator 8 = .ok (.lastore, 1) := by decide +kernel
theorem dL_numerator_9 : decode cL_numerator 9 = .ok (.goto 6, 3) := by decide +kernel
theorem dL_numerator_12 : decode cL_numerator 12 = .ok (.astore_n 3, 1) := by decide +kernel
theorem dL_numerator_13 : decode cL_numerator 13 = .ok (.iconst 1, 1) := by decide +kernel
theorem dL_numerator_14 : decode cL_numerator 14 = .ok (.ireturn, 1) := by decide +kernel
theorem dL_numerator_15 : decode cL_numerator 15 = .ok (.iconst 0, 1) := by decide +kernel
theorem dL_numerator_16 : decode cL_numerator 16 = .ok (.ireturn, 1) := by decide +kernel
theorem dL_denominator_0 : decode cL_denominator 0 = .ok (.aload_n 2, 1) := by decide +kernel
theorem dL_denominator_1 : decode cL_denominator 1 = .ok (.iconst 0, 1) := by decide +kernel
theorem dL_denominator_2 : decode cL_denominator 2 = .ok (.aload_n 0, 1) := by decide +kernel
theorem dL_denominator_3 : decode cL_denominator 3 = .ok (.iload_n 1, 1) := by decide +kernel
theorem dL_denominator_4 : decode cL_denominator 4 = .ok (.invokevirtual 33, 3) := by decide +kernel
theorem dL_denominator_7 : decode cL_denominator 7 = .ok (.i2l, 1) := by decide +kernel
theorem dL_denominator_8 : decode cL_denominator 8 = .ok (.lastore, 1) := by decide +kernel
theorem dL_denominator_9 : decode cL_denominator 9 = .ok (.goto 6, 3) := by decide +kernel
theorem dL_denominator_12 : decode cL_denominator 12 = .ok (.astore_n 3, 1) := by decide +kernel
theorem dL_denominator_13 : decode cL_denominator 13 = .ok (.iconst 1, 1) := by decide +kernel
theorem dL_denominator_14 : decode cL_denominator 14 = .ok (.ireturn, 1) := by decide +kernel
theorem dL_denominator_15 : decode cL_denominator 15 = .ok (.iconst 0, 1) := by decide +kernel
theorem dL_denominator_16 : decode cL_denominator 16 = .ok (.ireturn, 1) := by decide +kernel
theorem dL_turned_0 : decode cL_turned 0 = .ok (.aload_n 3, 1) := by decide +kernel
theorem dL_turned_1 : decode cL_turned 1 = .ok (.iconst 0, 1) := by decide +kernel
theorem dL_turned_2 : decode cL_turned 2 = .ok (.aload_n 0, 1) := by decide +kernel
theorem dL_turned_3 : decode cL_turned 3 = .ok (.iload_n 1, 1) := by decide +kernel
theorem dL_turned_4 : decode cL_turned 4 = .ok (.iload_n 2, 1) := by decide +kernel
theorem dL_turned_5 : decode cL_turned 5 = .ok (.invokevirtual 36, 3) := by decide +kernel
theorem dL_turned_8 : decode cL_turned 8 = .ok (.i2l, 1) := by decide +kernel
theorem dL_turned_9 : decode cL_turned 9 = .ok (.lastore, 1) := by decide +kernel
theorem dL_turned_10 : decode cL_turned 10 = .ok (.goto 11, 3) := by decide +kernel
theorem dL_turned_13 : decode cL_turned 13 = .ok (.astore 4, 2) := by decide +kernel
theorem dL_turned_15 : decode cL_turned 15 = .ok (.iconst 1, 1) := by decide +kernel
theorem dL_turned_16 : decode cL_turned 16 = .ok (.ireturn, 1) := by decide +kernel
theorem dL_turned_17 : decode cL_turned 17 = .ok (.astore 4, 2) := by decide +kernel
theorem dL_turned_19 : decode cL_turned 19 = .ok (.iconst 2, 1) := by decide +kernel
theorem dL_turned_20 : decode cL_turned 20 = .ok (.ireturn, 1) := by decide +kernel
theorem dL_turned_21 : decode cL_turned 21 = .ok (.iconst 0, 1) := by decide +kernel
theorem dL_turned_22 : decode cL_turned 22 = .ok (.ireturn, 1) := by decide +kernel
theorem dL_turnedByWalk_0 : decode cL_turnedByWalk 0 = .ok (.aload_n 3, 1) := by decide +kernel
theorem dL_turnedByWalk_1 : decode cL_turnedByWalk 1 = .ok (.iconst 0, 1) := by decide +kernel
theorem dL_turnedByWalk_2 : decode cL_turnedByWalk 2 = .ok (.aload_n 0, 1) := by decide +kernel
theorem dL_turnedByWalk_3 : decode cL_turnedByWalk 3 = .ok (.iload_n 1, 1) := by decide +kernel
theorem dL_turnedByWalk_4 : decode cL_turnedByWalk 4 = .ok (.iload_n 2, 1) := by decide +kernel
theorem dL_turnedByWalk_5 : decode cL_turnedByWalk 5 = .ok (.invokevirtual 39, 3) := by decide +kernel
theorem dL_turnedByWalk_8 : decode cL_turnedByWalk 8 = .ok (.i2l, 1) := by decide +kernel
theorem dL_turnedByWalk_9 : decode cL_turnedByWalk 9 = .ok (.lastore, 1) := by decide +kernel
theorem dL_turnedByWalk_10 : decode cL_turnedByWalk 10 = .ok (.goto 11, 3) := by decide +kernel
theorem dL_turnedByWalk_13 : decode cL_turnedByWalk 13 = .ok (.astore 4, 2) := by decide +kernel
theorem dL_turnedByWalk_15 : decode cL_turnedByWalk 15 = .ok (.iconst 1, 1) := by decide +kernel
theorem dL_turnedByWalk_16 : decode cL_turnedByWalk 16 = .ok (.ireturn, 1) := by decide +kernel
theorem dL_turnedByWalk_17 : decode cL_turnedByWalk 17 = .ok (.astore 4, 2) := by decide +kernel
theorem dL_turnedByWalk_19 : decode cL_turnedByWalk 19 = .ok (.iconst 2, 1) := by decide +kernel
theorem dL_turnedByWalk_20 : decode cL_turnedByWalk 20 = .ok (.ireturn, 1) := by decide +kernel
theorem dL_turnedByWalk_21 : decode cL_turnedByWalk 21 = .ok (.iconst 0, 1) := by decide +kernel
theorem dL_turnedByWalk_22 : decode cL_turnedByWalk 22 = .ok (.ireturn, 1) := by decide +kernel
theorem dL_order_0 : decode cL_order 0 = .ok (.aload_n 2, 1) := by decide +kernel
theorem dL_order_1 : decode cL_order 1 = .ok (.iconst 0, 1) := by decide +kernel
theorem dL_order_2 : decode cL_order 2 = .ok (.aload_n 0, 1) := by decide +kernel
theorem dL_order_3 : decode cL_order 3 = .ok (.iload_n 1, 1) := by decide +kernel
theorem dL_order_4 : decode cL_order 4 = .ok (.invokevirtual 42, 3) := by decide +kernel
theorem dL_order_7 : decode cL_order 7 = .ok (.i2l, 1) := by decide +kernel
theorem dL_order_8 : decode cL_order 8 = .ok (.lastore, 1) := by decide +kernel
theorem dL_order_9 : decode cL_order 9 = .ok (.goto 9, 3) := by decide +kernel
theorem dL_order_12 : decode cL_order 12 = .ok (.astore_n 3, 1) := by decide +kernel
theorem dL_order_13 : decode cL_order 13 = .ok (.iconst 1, 1) := by decide +kernel
theorem dL_order_14 : decode cL_order 14 = .ok (.ireturn, 1) := by decide +kernel
theorem dL_order_15 : decode cL_order 15 = .ok (.astore_n 3, 1) := by decide +kernel
theorem dL_order_16 : decode cL_order 16 = .ok (.iconst 2, 1) := by decide +kernel
theorem dL_order_17 : decode cL_order 17 = .ok (.ireturn, 1) := by decide +kernel
theorem dL_order_18 : decode cL_order 18 = .ok (.iconst 0, 1) := by decide +kernel
theorem dL_order_19 : decode cL_order 19 = .ok (.ireturn, 1) := by decide +kernel
theorem dL_pass_0 : decode cL_pass 0 = .ok (.aload_n 2, 1) := by decide +kernel
theorem dL_pass_1 : decode cL_pass 1 = .ok (.iconst 0, 1) := by decide +kernel
theorem dL_pass_2 : decode cL_pass 2 = .ok (.aload_n 0, 1) := by decide +kernel
theorem dL_pass_3 : decode cL_pass 3 = .ok (.iload_n 1, 1) := by decide +kernel
theorem dL_pass_4 : decode cL_pass 4 = .ok (.invokevirtual 45, 3) := by decide +kernel
theorem dL_pass_7 : decode cL_pass 7 = .ok (.i2l, 1) := by decide +kernel
theorem dL_pass_8 : decode cL_pass 8 = .ok (.lastore, 1) := by decide +kernel
theorem dL_pass_9 : decode cL_pass 9 = .ok (.goto 6, 3) := by decide +kernel
theorem dL_pass_12 : decode cL_pass 12 = .ok (.astore_n 3, 1) := by decide +kernel
theorem dL_pass_13 : decode cL_pass 13 = .ok (.iconst 1, 1) := by decide +kernel
theorem dL_pass_14 : decode cL_pass 14 = .ok (.ireturn, 1) := by decide +kernel
theorem dL_pass_15 : decode cL_pass 15 = .ok (.iconst 0, 1) := by decide +kernel
theorem dL_pass_16 : decode cL_pass 16 = .ok (.ireturn, 1) := by decide +kernel
theorem dL_cutterOn_0 : decode cL_cutterOn 0 = .ok (.aload_n 2, 1) := by decide +kernel
theorem dL_cutterOn_1 : decode cL_cutterOn 1 = .ok (.iconst 0, 1) := by decide +kernel
theorem dL_cutterOn_2 : decode cL_cutterOn 2 = .ok (.aload_n 0, 1) := by decide +kernel
theorem dL_cutterOn_3 : decode cL_cutterOn 3 = .ok (.iload_n 1, 1) := by decide +kernel
theorem dL_cutterOn_4 : decode cL_cutterOn 4 = .ok (.invokevirtual 48, 3) := by decide +kernel
theorem dL_cutterOn_7 : decode cL_cutterOn 7 = .ok (.i2l, 1) := by decide +kernel
theorem dL_cutterOn_8 : decode cL_cutterOn 8 = .ok (.lastore, 1) := by decide +kernel
theorem dL_cutterOn_9 : decode cL_cutterOn 9 = .ok (.goto 6, 3) := by decide +kernel
theorem dL_cutterOn_12 : decode cL_cutterOn 12 = .ok (.astore_n 3, 1) := by decide +kernel
theorem dL_cutterOn_13 : decode cL_cutterOn 13 = .ok (.iconst 1, 1) := by decide +kernel
theorem dL_cutterOn_14 : decode cL_cutterOn 14 = .ok (.ireturn, 1) := by decide +kernel
theorem dL_cutterOn_15 : decode cL_cutterOn 15 = .ok (.iconst 0, 1) := by decide +kernel
theorem dL_cutterOn_16 : decode cL_cutterOn 16 = .ok (.ireturn, 1) := by decide +kernel
theorem dL_ticksLeft_0 : decode cL_ticksLeft 0 = .ok (.aload_n 2, 1) := by decide +kernel
theorem dL_ticksLeft_1 : decode cL_ticksLeft 1 = .ok (.iconst 0, 1) := by decide +kernel
theorem dL_ticksLeft_2 : decode cL_ticksLeft 2 = .ok (.aload_n 0, 1) := by decide +kernel
theorem dL_ticksLeft_3 : decode cL_ticksLeft 3 = .ok (.iload_n 1, 1) := by decide +kernel
theorem dL_ticksLeft_4 : decode cL_ticksLeft 4 = .ok (.invokevirtual 51, 3) := by decide +kernel
theorem dL_ticksLeft_7 : decode cL_ticksLeft 7 = .ok (.i2l, 1) := by decide +kernel
theorem dL_ticksLeft_8 : decode cL_ticksLeft 8 = .ok (.lastore, 1) := by decide +kernel
theorem dL_ticksLeft_9 : decode cL_ticksLeft 9 = .ok (.goto 6, 3) := by decide +kernel
theorem dL_ticksLeft_12 : decode cL_ticksLeft 12 = .ok (.astore_n 3, 1) := by decide +kernel
theorem dL_ticksLeft_13 : decode cL_ticksLeft 13 = .ok (.iconst 1, 1) := by decide +kernel
theorem dL_ticksLeft_14 : decode cL_ticksLeft 14 = .ok (.ireturn, 1) := by decide +kernel
theorem dL_ticksLeft_15 : decode cL_ticksLeft 15 = .ok (.iconst 0, 1) := by decide +kernel
theorem dL_ticksLeft_16 : decode cL_ticksLeft 16 = .ok (.ireturn, 1) := by decide +kernel
theorem dL_gearsLeft_0 : decode cL_gearsLeft 0 = .ok (.aload_n 2, 1) := by decide +kernel
theorem dL_gearsLeft_1 : decode cL_gearsLeft 1 = .ok (.iconst 0, 1) := by decide +kernel
theorem dL_gearsLeft_2 : decode cL_gearsLeft 2 = .ok (.aload_n 0, 1) := by decide +kernel
theorem dL_gearsLeft_3 : decode cL_gearsLeft 3 = .ok (.iload_n 1, 1) := by decide +kernel
theorem dL_gearsLeft_4 : decode cL_gearsLeft 4 = .ok (.invokevirtual 54, 3) := by decide +kernel
theorem dL_gearsLeft_7 : decode cL_gearsLeft 7 = .ok (.i2l, 1) := by decide +kernel
theorem dL_gearsLeft_8 : decode cL_gearsLeft 8 = .ok (.lastore, 1) := by decide +kernel
theorem dL_gearsLeft_9 : decode cL_gearsLeft 9 = .ok (.goto 6, 3) := by decide +kernel
theorem dL_gearsLeft_12 : decode cL_gearsLeft 12 = .ok (.astore_n 3, 1) := by decide +kernel
theorem dL_gearsLeft_13 : decode cL_gearsLeft 13 = .ok (.iconst 1, 1) := by decide +kernel
theorem dL_gearsLeft_14 : decode cL_gearsLeft 14 = .ok (.ireturn, 1) := by decide +kernel
theorem dL_gearsLeft_15 : decode cL_gearsLeft 15 = .ok (.iconst 0, 1) := by decide +kernel
theorem dL_gearsLeft_16 : decode cL_gearsLeft 16 = .ok (.ireturn, 1) := by decide +kernel
theorem dL_doneAt_0 : decode cL_doneAt 0 = .ok (.aload_n 2, 1) := by decide +kernel
theorem dL_doneAt_1 : decode cL_doneAt 1 = .ok (.iconst 0, 1) := by decide +kernel
theorem dL_doneAt_2 : decode cL_doneAt 2 = .ok (.aload_n 0, 1) := by decide +kernel
theorem dL_doneAt_3 : decode cL_doneAt 3 = .ok (.iload_n 1, 1) := by decide +kernel
theorem dL_doneAt_4 : decode cL_doneAt 4 = .ok (.invokevirtual 57, 3) := by decide +kernel
theorem dL_doneAt_7 : decode cL_doneAt 7 = .ok (.i2l, 1) := by decide +kernel
theorem dL_doneAt_8 : decode cL_doneAt 8 = .ok (.lastore, 1) := by decide +kernel
theorem dL_doneAt_9 : decode cL_doneAt 9 = .ok (.goto 6, 3) := by decide +kernel
theorem dL_doneAt_12 : decode cL_doneAt 12 = .ok (.astore_n 3, 1) := by decide +kernel
theorem dL_doneAt_13 : decode cL_doneAt 13 = .ok (.iconst 1, 1) := by decide +kernel
theorem dL_doneAt_14 : decode cL_doneAt 14 = .ok (.ireturn, 1) := by decide +kernel
theorem dL_doneAt_15 : decode cL_doneAt 15 = .ok (.iconst 0, 1) := by decide +kernel
theorem dL_doneAt_16 : decode cL_doneAt 16 = .ok (.ireturn, 1) := by decide +kernel
theorem dL_test_0 : decode cL_test 0 = .ok (.aload 4, 2) := by decide +kernel
theorem dL_test_2 : decode cL_test 2 = .ok (.iconst 0, 1) := by decide +kernel
theorem dL_test_3 : decode cL_test 3 = .ok (.aload_n 0, 1) := by decide +kernel
theorem dL_test_4 : decode cL_test 4 = .ok (.iload_n 1, 1) := by decide +kernel
theorem dL_test_5 : decode cL_test 5 = .ok (.iload_n 2, 1) := by decide +kernel
theorem dL_test_6 : decode cL_test 6 = .ok (.iload_n 3, 1) := by decide +kernel
theorem dL_test_7 : decode cL_test 7 = .ok (.invokevirtual 60, 3) := by decide +kernel
theorem dL_test_10 : decode cL_test 10 = .ok (.ifCond .eq 7, 3) := by decide +kernel
theorem dL_test_13 : decode cL_test 13 = .ok (.lconst 1, 1) := by decide +kernel
theorem dL_test_14 : decode cL_test 14 = .ok (.goto 4, 3) := by decide +kernel
theorem dL_test_17 : decode cL_test 17 = .ok (.lconst 0, 1) := by decide +kernel
theorem dL_test_18 : decode cL_test 18 = .ok (.lastore, 1) := by decide +kernel
theorem dL_test_19 : decode cL_test 19 = .ok (.goto 15, 3) := by decide +kernel
theorem dL_test_22 : decode cL_test 22 = .ok (.astore 5, 2) := by decide +kernel
theorem dL_test_24 : decode cL_test 24 = .ok (.iconst 1, 1) := by decide +kernel
theorem dL_test_25 : decode cL_test 25 = .ok (.ireturn, 1) := by decide +kernel
theorem dL_test_26 : decode cL_test 26 = .ok (.astore 5, 2) := by decide +kernel
theorem dL_test_28 : decode cL_test 28 = .ok (.iconst 2, 1) := by decide +kernel
theorem dL_test_29 : decode cL_test 29 = .ok (.ireturn, 1) := by decide +kernel
theorem dL_test_30 : decode cL_test 30 = .ok (.astore 5, 2) := by decide +kernel
theorem dL_test_32 : decode cL_test 32 = .ok (.iconst 3, 1) := by decide +kernel
theorem dL_test_33 : decode cL_test 33 = .ok (.ireturn, 1) := by decide +kernel
theorem dL_test_34 : decode cL_test 34 = .ok (.iconst 0, 1) := by decide +kernel
theorem dL_test_35 : decode cL_test 35 = .ok (.ireturn, 1) := by decide +kernel
theorem dL_wear_0 : decode cL_wear 0 = .ok (.aload_n 3, 1) := by decide +kernel
theorem dL_wear_1 : decode cL_wear 1 = .ok (.iconst 0, 1) := by decide +kernel
theorem dL_wear_2 : decode cL_wear 2 = .ok (.aload_n 0, 1) := by decide +kernel
theorem dL_wear_3 : decode cL_wear 3 = .ok (.iload_n 1, 1) := by decide +kernel
theorem dL_wear_4 : decode cL_wear 4 = .ok (.iload_n 2, 1) := by decide +kernel
theorem dL_wear_5 : decode cL_wear 5 = .ok (.invokevirtual 64, 3) := by decide +kernel
theorem dL_wear_8 : decode cL_wear 8 = .ok (.i2l, 1) := by decide +kernel
theorem dL_wear_9 : decode cL_wear 9 = .ok (.lastore, 1) := by decide +kernel
theorem dL_wear_10 : decode cL_wear 10 = .ok (.goto 7, 3) := by decide +kernel
theorem dL_wear_13 : decode cL_wear 13 = .ok (.astore 4, 2) := by decide +kernel
theorem dL_wear_15 : decode cL_wear 15 = .ok (.iconst 1, 1) := by decide +kernel
theorem dL_wear_16 : decode cL_wear 16 = .ok (.ireturn, 1) := by decide +kernel
theorem dL_wear_17 : decode cL_wear 17 = .ok (.iconst 0, 1) := by decide +kernel
theorem dL_wear_18 : decode cL_wear 18 = .ok (.ireturn, 1) := by decide +kernel
theorem dL_claims_0 : decode cL_claims 0 = .ok (.aload_n 2, 1) := by decide +kernel
theorem dL_claims_1 : decode cL_claims 1 = .ok (.iconst 0, 1) := by decide +kernel
theorem dL_claims_2 : decode cL_claims 2 = .ok (.aload_n 0, 1) := by decide +kernel
theorem dL_claims_3 : decode cL_claims 3 = .ok (.iload_n 1, 1) := by decide +kernel
theorem dL_claims_4 : decode cL_claims 4 = .ok (.invokevirtual 67, 3) := by decide +kernel
theorem dL_claims_7 : decode cL_claims 7 = .ok (.i2l, 1) := by decide +kernel
theorem dL_claims_8 : decode cL_claims 8 = .ok (.lastore, 1) := by decide +kernel
theorem dL_claims_9 : decode cL_claims 9 = .ok (.goto 6, 3) := by decide +kernel
theorem dL_claims_12 : decode cL_claims 12 = .ok (.astore_n 3, 1) := by decide +kernel
theorem dL_claims_13 : decode cL_claims 13 = .ok (.iconst 1, 1) := by decide +kernel
theorem dL_claims_14 : decode cL_claims 14 = .ok (.ireturn, 1) := by decide +kernel
theorem dL_claims_15 : decode cL_claims 15 = .ok (.iconst 0, 1) := by decide +kernel
theorem dL_claims_16 : decode cL_claims 16 = .ok (.ireturn, 1) := by decide +kernel
theorem dL_leastNew_0 : decode cL_leastNew 0 = .ok (.aload 4, 2) := by decide +kernel
theorem dL_leastNew_2 : decode cL_leastNew 2 = .ok (.iconst 0, 1) := by decide +kernel
theorem dL_leastNew_3 : decode cL_leastNew 3 = .ok (.aload_n 0, 1) := by decide +kernel
theorem dL_leastNew_4 : decode cL_leastNew 4 = .ok (.iload_n 1, 1) := by decide +kernel
theorem dL_leastNew_5 : decode cL_leastNew 5 = .ok (.iload_n 2, 1) := by decide +kernel
theorem dL_leastNew_6 : decode cL_leastNew 6 = .ok (.iload_n 3, 1) := by decide +kernel
theorem dL_leastNew_7 : decode cL_leastNew 7 = .ok (.invokevirtual 70, 3) := by decide +kernel
theorem dL_leastNew_10 : decode cL_leastNew 10 = .ok (.i2l, 1) := by decide +kernel
theorem dL_leastNew_11 : decode cL_leastNew 11 = .ok (.lastore, 1) := by decide +kernel
theorem dL_leastNew_12 : decode cL_leastNew 12 = .ok (.goto 7, 3) := by decide +kernel
theorem dL_leastNew_15 : decode cL_leastNew 15 = .ok (.astore 5, 2) := by decide +kernel
theorem dL_leastNew_17 : decode cL_leastNew 17 = .ok (.iconst 1, 1) := by decide +kernel
theorem dL_leastNew_18 : decode cL_leastNew 18 = .ok (.ireturn, 1) := by decide +kernel
theorem dL_leastNew_19 : decode cL_leastNew 19 = .ok (.iconst 0, 1) := by decide +kernel
theorem dL_leastNew_20 : decode cL_leastNew 20 = .ok (.ireturn, 1) := by decide +kernel
theorem dL_law_0 : decode cL_law 0 = .ok (.new 8, 3) := by decide +kernel
theorem dL_law_3 : decode cL_law 3 = .ok (.dup, 1) := by decide +kernel
theorem dL_law_4 : decode cL_law 4 = .ok (.invokespecial 73, 3) := by decide +kernel
theorem dL_law_7 : decode cL_law 7 = .ok (.astore_n 1, 1) := by decide +kernel
theorem dL_law_8 : decode cL_law 8 = .ok (.new 74, 3) := by decide +kernel
theorem dL_law_11 : decode cL_law 11 = .ok (.dup, 1) := by decide +kernel
theorem dL_law_12 : decode cL_law 12 = .ok (.invokespecial 76, 3) := by decide +kernel
theorem dL_law_15 : decode cL_law 15 = .ok (.astore_n 2, 1) := by decide +kernel
theorem dL_law_16 : decode cL_law 16 = .ok (.iconst 1, 1) := by decide +kernel
theorem dL_law_17 : decode cL_law 17 = .ok (.newarray .long, 2) := by decide +kernel
theorem dL_law_19 : decode cL_law 19 = .ok (.astore_n 3, 1) := by decide +kernel
theorem dL_law_20 : decode cL_law 20 = .ok (.iconst 0, 1) := by decide +kernel
theorem dL_law_21 : decode cL_law 21 = .ok (.istore 4, 2) := by decide +kernel
theorem dL_law_23 : decode cL_law 23 = .ok (.iload 4, 2) := by decide +kernel
theorem dL_law_25 : decode cL_law 25 = .ok (.aload_n 0, 1) := by decide +kernel
theorem dL_law_26 : decode cL_law 26 = .ok (.arraylength, 1) := by decide +kernel
theorem dL_law_27 : decode cL_law 27 = .ok (.iconst 4, 1) := by decide +kernel
theorem dL_law_28 : decode cL_law 28 = .ok (.isub, 1) := by decide +kernel
theorem dL_law_29 : decode cL_law 29 = .ok (.if_icmp .gt 1311, 3) := by decide +kernel
theorem dL_law_32 : decode cL_law 32 = .ok (.aload_n 0, 1) := by decide +kernel
theorem dL_law_33 : decode cL_law 33 = .ok (.iload 4, 2) := by decide +kernel
theorem dL_law_35 : decode cL_law 35 = .ok (.iaload, 1) := by decide +kernel
theorem dL_law_36 : decode cL_law 36 = .ok (.bipush 31, 2) := by decide +kernel
theorem dL_law_38 : decode cL_law 38 = .ok (.iand, 1) := by decide +kernel
theorem dL_law_39 : decode cL_law 39 = .ok (.tableswitch 1295 0 20 #[97, 177, 245, 325, 338, 394, 450, 506, 574, 642, 698, 754, 767, 780, 836, 892, 948, 1004, 1091, 1159, 1215], 97) := by decide +kernel
theorem dL_law_136 : decode cL_law 136 = .ok (.aload_n 1, 1) := by decide +kernel
theorem dL_law_137 : decode cL_law 137 = .ok (.aload_n 0, 1) := by decide +kernel
theorem dL_law_138 : decode cL_law 138 = .ok (.iload 4, 2) := by decide +kernel
theorem dL_law_140 : decode cL_law 140 = .ok (.iconst 1, 1) := by decide +kernel
theorem dL_law_141 : decode cL_law 141 = .ok (.iadd, 1) := by decide +kernel
theorem dL_law_142 : decode cL_law 142 = .ok (.iaload, 1) := by decide +kernel
theorem dL_law_143 : decode cL_law 143 = .ok (.aload_n 0, 1) := by decide +kernel
theorem dL_law_144 : decode cL_law 144 = .ok (.iload 4, 2) := by decide +kernel
theorem dL_law_146 : decode cL_law 146 = .ok (.iconst 2, 1) := by decide +kernel
theorem dL_law_147 : decode cL_law 147 = .ok (.iadd, 1) := by decide +kernel
theorem dL_law_148 : decode cL_law 148 = .ok (.iaload, 1) := by decide +kernel
theorem dL_law_149 : decode cL_law 149 = .ok (.aload_n 0, 1) := by decide +kernel
theorem dL_law_150 : decode cL_law 150 = .ok (.iload 4, 2) := by decide +kernel
theorem dL_law_152 : decode cL_law 152 = .ok (.iconst 3, 1) := by decide +kernel
theorem dL_law_153 : decode cL_law 153 = .ok (.iadd, 1) := by decide +kernel
theorem dL_law_154 : decode cL_law 154 = .ok (.iaload, 1) := by decide +kernel
theorem dL_law_155 : decode cL_law 155 = .ok (.aload_n 3, 1) := by decide +kernel
theorem dL_law_156 : decode cL_law 156 = .ok (.invokestatic 77, 3) := by decide +kernel
theorem dL_law_159 : decode cL_law 159 = .ok (.istore 5, 2) := by decide +kernel
theorem dL_law_161 : decode cL_law 161 = .ok (.aload_n 2, 1) := by decide +kernel
theorem dL_law_162 : decode cL_law 162 = .ok (.aload_n 0, 1) := by decide +kernel
theorem dL_law_163 : decode cL_law 163 = .ok (.iload 4, 2) := by decide +kernel
theorem dL_law_165 : decode cL_law 165 = .ok (.iconst 1, 1) := by decide +kernel
theorem dL_law_166 : decode cL_law 166 = .ok (.iadd, 1) := by decide +kernel
theorem dL_law_167 : decode cL_law 167 = .ok (.iaload, 1) := by decide +kernel
theorem dL_law_168 : decode cL_law 168 = .ok (.aload_n 0, 1) := by decide +kernel
theorem dL_law_169 : decode cL_law 169 = .ok (.iload 4, 2) := by decide +kernel
theorem dL_law_171 : decode cL_law 171 = .ok (.iconst 2, 1) := by decide +kernel
theorem dL_law_172 : decode cL_law 172 = .ok (.iadd, 1) := by decide +kernel
theorem dL_law_173 : decode cL_law 173 = .ok (.iaload, 1) := by decide +kernel
theorem dL_law_174 : decode cL_law 174 = .ok (.aload_n 0, 1) := by decide +kernel
theorem dL_law_175 : decode cL_law 175 = .ok (.iload 4, 2) := by decide +kernel
theorem dL_law_177 : decode cL_law 177 = .ok (.iconst 3, 1) := by decide +kernel
theorem dL_law_178 : decode cL_law 178 = .ok (.iadd, 1) := by decide +kernel
theorem dL_law_179 : decode cL_law 179 = .ok (.iaload, 1) := by decide +kernel
theorem dL_law_180 : decode cL_law 180 = .ok (.invokevirtual 82, 3) := by decide +kernel
theorem dL_law_183 : decode cL_law 183 = .ok (.istore 6, 2) := by decide +kernel
theorem dL_law_185 : decode cL_law 185 = .ok (.aload_n 2, 1) := by decide +kernel
theorem dL_law_186 : decode cL_law 186 = .ok (.invokevirtual 83, 3) := by decide +kernel
theorem dL_law_189 : decode cL_law 189 = .ok (.iload 5, 2) := by decide +kernel
theorem dL_law_191 : decode cL_law 191 = .ok (.if_icmp .eq 5, 3) := by decide +kernel
theorem dL_law_194 : decode cL_law 194 = .ok (.iconst 0, 1) := by decide +kernel
theorem dL_law_195 : decode cL_law 195 = .ok (.ireturn, 1) := by decide +kernel
theorem dL_law_196 : decode cL_law 196 = .ok (.iload 5, 2) := by decide +kernel
theorem dL_law_198 : decode cL_law 198 = .ok (.ifCond .ne 15, 3) := by decide +kernel
theorem dL_law_201 : decode cL_law 201 = .ok (.aload_n 3, 1) := by decide +kernel
theorem dL_law_202 : decode cL_law 202 = .ok (.iconst 0, 1) := by decide +kernel
theorem dL_law_203 : decode cL_law 203 = .ok (.laload, 1) := by decide +kernel
theorem dL_law_204 : decode cL_law 204 = .ok (.iload 6, 2) := by decide +kernel
theorem dL_law_206 : decode cL_law 206 = .ok (.i2l, 1) := by decide +kernel
theorem dL_law_207 : decode cL_law 207 = .ok (.lcmp, 1) := by decide +kernel
theorem dL_law_208 : decode cL_law 208 = .ok (.ifCond .eq 5, 3) := by decide +kernel
theorem dL_law_211 : decode cL_law 211 = .ok (.iconst 0, 1) := by decide +kernel
theorem dL_law_212 : decode cL_law 212 = .ok (.ireturn, 1) := by decide +kernel
theorem dL_law_213 : decode cL_law 213 = .ok (.goto 1121, 3) := by decide +kernel
theorem dL_law_216 : decode cL_law 216 = .ok (.aload_n 1, 1) := by decide +kernel
theorem dL_law_217 : decode cL_law 217 = .ok (.aload_n 0, 1) := by decide +kernel
theorem dL_law_218 : decode cL_law 218 = .ok (.iload 4, 2) := by decide +kernel
theorem dL_law_220 : decode cL_law 220 = .ok (.iconst 1, 1) := by decide +kernel
theorem dL_law_221 : decode cL_law 221 = .ok (.iadd, 1) := by decide +kernel
theorem dL_law_222 : decode cL_law 222 = .ok (.iaload, 1) := by decide +kernel
theorem dL_law_223 : decode cL_law 223 = .ok (.aload_n 0, 1) := by decide +kernel
theorem dL_law_224 : decode cL_law 224 = .ok (.iload 4, 2) := by decide +kernel
theorem dL_law_226 : decode cL_law 226 = .ok (.iconst 2, 1) := by decide +kernel
theorem dL_law_227 : decode cL_law 227 = .ok (.iadd, 1) := by decide +kernel
theorem dL_law_228 : decode cL_law 228 = .ok (.iaload, 1) := by decide +kernel
theorem dL_law_229 : decode cL_law 229 = .ok (.aload_n 3, 1) := by decide +kernel
theorem dL_law_230 : decode cL_law 230 = .ok (.invokestatic 87, 3) := by decide +kernel
theorem dL_law_233 : decode cL_law 233 = .ok (.istore 5, 2) := by decide +kernel
theorem dL_law_235 : decode cL_law 235 = .ok (.aload_n 2, 1) := by decide +kernel
theorem dL_law_236 : decode cL_law 236 = .ok (.aload_n 0, 1) := by decide +kernel
theorem dL_law_237 : decode cL_law 237 = .ok (.iload 4, 2) := by decide +kernel
theorem dL_law_239 : decode cL_law 239 = .ok (.iconst 1, 1) := by decide +kernel
theorem dL_law_240 : decode cL_law 240 = .ok (.iadd, 1) := by decide +kernel
theorem dL_law_241 : decode cL_law 241 = .ok (.iaload, 1) := by decide +kernel
theorem dL_law_242 : decode cL_law 242 = .ok (.aload_n 0, 1) := by decide +kernel
theorem dL_law_243 : decode cL_law 243 = .ok (.iload 4, 2) := by decide +kernel
theorem dL_law_245 : decode cL_law 245 = .ok (.iconst 2, 1) := by decide +kernel
theorem dL_law_246 : decode cL_law 246 = .ok (.iadd, 1) := by decide +kernel
theorem dL_law_247 : decode cL_law 247 = .ok (.iaload, 1) := by decide +kernel
theorem dL_law_248 : decode cL_law 248 = .ok (.invokevirtual 90, 3) := by decide +kernel
theorem dL_law_251 : decode cL_law 251 = .ok (.istore 6, 2) := by decide +kernel
theorem dL_law_253 : decode cL_law 253 = .ok (.aload_n 2, 1) := by decide +kernel
theorem dL_law_254 : decode cL_law 254 = .ok (.invokevirtual 83, 3) := by decide +kernel
theorem dL_law_257 : decode cL_law 257 = .ok (.iload 5, 2) := by decide +kernel
theorem dL_law_259 : decode cL_law 259 = .ok (.if_icmp .eq 5, 3) := by decide +kernel
theorem dL_law_262 : decode cL_law 262 = .ok (.iconst 0, 1) := by decide +kernel
theorem dL_law_263 : decode cL_law 263 = .ok (.ireturn, 1) := by decide +kernel
theorem dL_law_264 : decode cL_law 264 = .ok (.iload 5, 2) := by decide +kernel
theorem dL_law_266 : decode cL_law 266 = .ok (.ifCond .ne 15, 3) := by decide +kernel
theorem dL_law_269 : decode cL_law 269 = .ok (.aload_n 3, 1) := by decide +kernel
theorem dL_law_270 : decode cL_law 270 = .ok (.iconst 0, 1) := by decide +kernel
theorem dL_law_271 : decode cL_law 271 = .ok (.laload, 1) := by decide +kernel
theorem dL_law_272 : decode cL_law 272 = .ok (.iload 6, 2) := by decide +kernel
theorem dL_law_274 : decode cL_law 274 = .ok (.i2l, 1) := by decide +kernel
theorem dL_law_275 : decode cL_law 275 = .ok (.lcmp, 1) := by decide +kernel
theorem dL_law_276 : decode cL_law 276 = .ok (.ifCond .eq 5, 3) := by decide +kernel
theorem dL_law_279 : decode cL_law 279 = .ok (.iconst 0, 1) := by decide +kernel
theorem dL_law_280 : decode cL_law 280 = .ok (.ireturn, 1) := by decide +kernel
theorem dL_law_281 : decode cL_law 281 = .ok (.goto 1053, 3) := by decide +kernel
theorem dL_law_284 : decode cL_law 284 = .ok (.aload_n 1, 1) := by decide +kernel
theorem dL_law_285 : decode cL_law 285 = .ok (.aload_n 0, 1) := by decide +kernel
theorem dL_law_286 : decode cL_law 286 = .ok (.iload 4, 2) := by decide +kernel
theorem dL_law_288 : decode cL_law 288 = .ok (.iconst 1, 1) := by decide +kernel
theorem dL_law_289 : decode cL_law 289 = .ok (.iadd, 1) := by decide +kernel
theorem dL_law_290 : decode cL_law 290 = .ok (.iaload, 1) := by decide +kernel
theorem dL_law_291 : decode cL_law 291 = .ok (.aload_n 0, 1) := by decide +kernel
theorem dL_law_292 : decode cL_law 292 = .ok (.iload 4, 2) := by decide +kernel
theorem dL_law_294 : decode cL_law 294 = .ok (.iconst 2, 1) := by decide +kernel
theorem dL_law_295 : decode cL_law 295 = .ok (.iadd, 1) := by decide +kernel
theorem dL_law_296 : decode cL_law 296 = .ok (.iaload, 1) := by decide +kernel
theorem dL_law_297 : decode cL_law 297 = .ok (.aload_n 0, 1) := by decide +kernel
theorem dL_law_298 : decode cL_law 298 = .ok (.iload 4, 2) := by decide +kernel
theorem dL_law_300 : decode cL_law 300 = .ok (.iconst 3, 1) := by decide +kernel
theorem dL_law_301 : decode cL_law 301 = .ok (.iadd, 1) := by decide +kernel
theorem dL_law_302 : decode cL_law 302 = .ok (.iaload, 1) := by decide +kernel
theorem dL_law_303 : decode cL_law 303 = .ok (.aload_n 3, 1) := by decide +kernel
theorem dL_law_304 : decode cL_law 304 = .ok (.invokestatic 91, 3) := by decide +kernel
theorem dL_law_307 : decode cL_law 307 = .ok (.istore 5, 2) := by decide +kernel
theorem dL_law_309 : decode cL_law 309 = .ok (.aload_n 2, 1) := by decide +kernel
theorem dL_law_310 : decode cL_law 310 = .ok (.aload_n 0, 1) := by decide +kernel
theorem dL_law_311 : decode cL_law 311 = .ok (.iload 4, 2) := by decide +kernel
theorem dL_law_313 : decode cL_law 313 = .ok (.iconst 1, 1) := by decide +kernel
theorem dL_law_314 : decode cL_law 314 = .ok (.iadd, 1) := by decide +kernel
theorem dL_law_315 : decode cL_law 315 = .ok (.iaload, 1) := by decide +kernel
theorem dL_law_316 : decode cL_law 316 = .ok (.aload_n 0, 1) := by decide +kernel
theorem dL_law_317 : decode cL_law 317 = .ok (.iload 4, 2) := by decide +kernel
theorem dL_law_319 : decode cL_law 319 = .ok (.iconst 2, 1) := by decide +kernel
theorem dL_law_320 : decode cL_law 320 = .ok (.iadd, 1) := by decide +kernel
theorem dL_law_321 : decode cL_law 321 = .ok (.iaload, 1) := by decide +kernel
theorem dL_law_322 : decode cL_law 322 = .ok (.aload_n 0, 1) := by decide +kernel
theorem dL_law_323 : decode cL_law 323 = .ok (.iload 4, 2) := by decide +kernel
theorem dL_law_325 : decode cL_law 325 = .ok (.iconst 3, 1) := by decide +kernel
theorem dL_law_326 : decode cL_law 326 = .ok (.iadd, 1) := by decide +kernel
theorem dL_law_327 : decode cL_law 327 = .ok (.iaload, 1) := by decide +kernel
theorem dL_law_328 : decode cL_law 328 = .ok (.invokevirtual 93, 3) := by decide +kernel
theorem dL_law_331 : decode cL_law 331 = .ok (.istore 6, 2) := by decide +kernel
theorem dL_law_333 : decode cL_law 333 = .ok (.aload_n 2, 1) := by decide +kernel
theorem dL_law_334 : decode cL_law 334 = .ok (.invokevirtual 83, 3) := by decide +kernel
theorem dL_law_337 : decode cL_law 337 = .ok (.iload 5, 2) := by decide +kernel
theorem dL_law_339 : decode cL_law 339 = .ok (.if_icmp .eq 5, 3) := by decide +kernel
theorem dL_law_342 : decode cL_law 342 = .ok (.iconst 0, 1) := by decide +kernel
theorem dL_law_343 : decode cL_law 343 = .ok (.ireturn, 1) := by decide +kernel
theorem dL_law_344 : decode cL_law 344 = .ok (.iload 5, 2) := by decide +kernel
theorem dL_law_346 : decode cL_law 346 = .ok (.ifCond .ne 15, 3) := by decide +kernel
theorem dL_law_349 : decode cL_law 349 = .ok (.aload_n 3, 1) := by decide +kernel
theorem dL_law_350 : decode cL_law 350 = .ok (.iconst 0, 1) := by decide +kernel
theorem dL_law_351 : decode cL_law 351 = .ok (.laload, 1) := by decide +kernel
theorem dL_law_352 : decode cL_law 352 = .ok (.iload 6, 2) := by decide +kernel
theorem dL_law_354 : decode cL_law 354 = .ok (.i2l, 1) := by decide +kernel
theorem dL_law_355 : decode cL_law 355 = .ok (.lcmp, 1) := by decide +kernel
theorem dL_law_356 : decode cL_law 356 = .ok (.ifCond .eq 5, 3) := by decide +kernel
theorem dL_law_359 : decode cL_law 359 = .ok (.iconst 0, 1) := by decide +kernel
theorem dL_law_360 : decode cL_law 360 = .ok (.ireturn, 1) := by decide +kernel
theorem dL_law_361 : decode cL_law 361 = .ok (.goto 973, 3) := by decide +kernel
theorem dL_law_364 : decode cL_law 364 = .ok (.aload_n 1, 1) := by decide +kernel
theorem dL_law_365 : decode cL_law 365 = .ok (.invokevirtual 94, 3) := by decide +kernel
theorem dL_law_368 : decode cL_law 368 = .ok (.aload_n 2, 1) := by decide +kernel
theorem dL_law_369 : decode cL_law 369 = .ok (.invokevirtual 97, 3) := by decide +kernel
theorem dL_law_372 : decode cL_law 372 = .ok (.if_icmp .eq 962, 3) := by decide +kernel
theorem dL_law_375 : decode cL_law 375 = .ok (.iconst 0, 1) := by decide +kernel
theorem dL_law_376 : decode cL_law 376 = .ok (.ireturn, 1) := by decide +kernel
theorem dL_law_377 : decode cL_law 377 = .ok (.aload_n 1, 1) := by decide +kernel
theorem dL_law_378 : decode cL_law 378 = .ok (.aload_n 0, 1) := by decide +kernel
theorem dL_law_379 : decode cL_law 379 = .ok (.iload 4, 2) := by decide +kernel
theorem dL_law_381 : decode cL_law 381 = .ok (.iconst 1, 1) := by decide +kernel
theorem dL_law_382 : decode cL_law 382 = .ok (.iadd, 1) := by decide +kernel
theorem dL_law_383 : decode cL_law 383 = .ok (.iaload, 1) := by decide +kernel
theorem dL_law_384 : decode cL_law 384 = .ok (.aload_n 3, 1) := by decide +kernel
theorem dL_law_385 : decode cL_law 385 = .ok (.invokestatic 98, 3) := by decide +kernel
theorem dL_law_388 : decode cL_law 388 = .ok (.istore 5, 2) := by decide +kernel
theorem dL_law_390 : decode cL_law 390 = .ok (.aload_n 2, 1) := by decide +kernel
theorem dL_law_391 : decode cL_law 391 = .ok (.aload_n 0, 1) := by decide +kernel
theorem dL_law_392 : decode cL_law 392 = .ok (.iload 4, 2) := by decide +kernel
theorem dL_law_394 : decode cL_law 394 = .ok (.iconst 1, 1) := by decide +kernel
theorem dL_law_395 : decode cL_law 395 = .ok (.iadd, 1) := by decide +kernel
theorem dL_law_396 : decode cL_law 396 = .ok (.iaload, 1) := by decide +kernel
theorem dL_law_397 : decode cL_law 397 = .ok (.invokevirtual 101, 3) := by decide +kernel
theorem dL_law_400 : decode cL_law 400 = .ok (.istore 6, 2) := by decide +kernel
theorem dL_law_402 : decode cL_law 402 = .ok (.aload_n 2, 1) := by decide +kernel
theorem dL_law_403 : decode cL_law 403 = .ok (.invokevirtual 83, 3) := by decide +kernel
theorem dL_law_406 : decode cL_law 406 = .ok (.iload 5, 2) := by decide +kernel
theorem dL_law_408 : decode cL_law 408 = .ok (.if_icmp .eq 5, 3) := by decide +kernel
theorem dL_law_411 : decode cL_law 411 = .ok (.iconst 0, 1) := by decide +kernel
theorem dL_law_412 : decode cL_law 412 = .ok (.ireturn, 1) := by decide +kernel
theorem dL_law_413 : decode cL_law 413 = .ok (.iload 5, 2) := by decide +kernel
theorem dL_law_415 : decode cL_law 415 = .ok (.ifCond .ne 15, 3) := by decide +kernel
theorem dL_law_418 : decode cL_law 418 = .ok (.aload_n 3, 1) := by decide +kernel
theorem dL_law_419 : decode cL_law 419 = .ok (.iconst 0, 1) := by decide +kernel
theorem dL_law_420 : decode cL_law 420 = .ok (.laload, 1) := by decide +kernel
theorem dL_law_421 : decode cL_law 421 = .ok (.iload 6, 2) := by decide +kernel
theorem dL_law_423 : decode cL_law 423 = .ok (.i2l, 1) := by decide +kernel
theorem dL_law_424 : decode cL_law 424 = .ok (.lcmp, 1) := by decide +kernel
theorem dL_law_425 : decode cL_law 425 = .ok (.ifCond .eq 5, 3) := by decide +kernel
theorem dL_law_428 : decode cL_law 428 = .ok (.iconst 0, 1) := by decide +kernel
theorem dL_law_429 : decode cL_law 429 = .ok (.ireturn, 1) := by decide +kernel
theorem dL_law_430 : decode cL_law 430 = .ok (.goto 904, 3) := by decide +kernel
theorem dL_law_433 : decode cL_law 433 = .ok (.aload_n 1, 1) := by decide +kernel
theorem dL_law_434 : decode cL_law 434 = .ok (.aload_n 0, 1) := by decide +kernel
theorem dL_law_435 : decode cL_law 435 = .ok (.iload 4, 2) := by decide +kernel
theorem dL_law_437 : decode cL_law 437 = .ok (.iconst 1, 1) := by decide +kernel
theorem dL_law_438 : decode cL_law 438 = .ok (.iadd, 1) := by decide +kernel
theorem dL_law_439 : decode cL_law 439 = .ok (.iaload, 1) := by decide +kernel
theorem dL_law_440 : decode cL_law 440 = .ok (.aload_n 3, 1) := by decide +kernel
theorem dL_law_441 : decode cL_law 441 = .ok (.invokestatic 102, 3) := by decide +kernel
theorem dL_law_444 : decode cL_law 444 = .ok (.istore 5, 2) := by decide +kernel
theorem dL_law_446 : decode cL_law 446 = .ok (.aload_n 2, 1) := by decide +kernel
theorem dL_law_447 : decode cL_law 447 = .ok (.aload_n 0, 1) := by decide +kernel
theorem dL_law_448 : decode cL_law 448 = .ok (.iload 4, 2) := by decide +kernel
theorem dL_law_450 : decode cL_law 450 = .ok (.iconst 1, 1) := by decide +kernel
theorem dL_law_451 : decode cL_law 451 = .ok (.iadd, 1) := by decide +kernel
theorem dL_law_452 : decode cL_law 452 = .ok (.iaload, 1) := by decide +kernel
theorem dL_law_453 : decode cL_law 453 = .ok (.invokevirtual 104, 3) := by decide +kernel
theorem dL_law_456 : decode cL_law 456 = .ok (.istore 6, 2) := by decide +kernel
theorem dL_law_458 : decode cL_law 458 = .ok (.aload_n 2, 1) := by decide +kernel
theorem dL_law_459 : decode cL_law 459 = .ok (.invokevirtual 83, 3) := by decide +kernel
theorem dL_law_462 : decode cL_law 462 = .ok (.iload 5, 2) := by decide +kernel
theorem dL_law_464 : decode cL_law 464 = .ok (.if_icmp .eq 5, 3) := by decide +kernel
theorem dL_law_467 : decode cL_law 467 = .ok (.iconst 0, 1) := by decide +kernel
theorem dL_law_468 : decode cL_law 468 = .ok (.ireturn, 1) := by decide +kernel
theorem dL_law_469 : decode cL_law 469 = .ok (.iload 5, 2) := by decide +kernel
theorem dL_law_471 : decode cL_law 471 = .ok (.ifCond .ne 15, 3) := by decide +kernel
theorem dL_law_474 : decode cL_law 474 = .ok (.aload_n 3, 1) := by decide +kernel
theorem dL_law_475 : decode cL_law 475 = .ok (.iconst 0, 1) := by decide +kernel
theorem dL_law_476 : decode cL_law 476 = .ok (.laload, 1) := by decide +kernel
theorem dL_law_477 : decode cL_law 477 = .ok (.iload 6, 2) := by decide +kernel
theorem dL_law_479 : decode cL_law 479 = .ok (.i2l, 1) := by decide +kernel
theorem dL_law_480 : decode cL_law 480 = .ok (.lcmp, 1) := by decide +kernel
theorem dL_law_481 : decode cL_law 481 = .ok (.ifCond .eq 5, 3) := by decide +kernel
theorem dL_law_484 : decode cL_law 484 = .ok (.iconst 0, 1) := by decide +kernel
theorem dL_law_485 : decode cL_law 485 = .ok (.ireturn, 1) := by decide +kernel
theorem dL_law_486 : decode cL_law 486 = .ok (.goto 848, 3) := by decide +kernel
theorem dL_law_489 : decode cL_law 489 = .ok (.aload_n 1, 1) := by decide +kernel
theorem dL_law_490 : decode cL_law 490 = .ok (.aload_n 0, 1) := by decide +kernel
theorem dL_law_491 : decode cL_law 491 = .ok (.iload 4, 2) := by decide +kernel
theorem dL_law_493 : decode cL_law 493 = .ok (.iconst 1, 1) := by decide +kernel
theorem dL_law_494 : decode cL_law 494 = .ok (.iadd, 1) := by decide +kernel
theorem dL_law_495 : decode cL_law 495 = .ok (.iaload, 1) := by decide +kernel
theorem dL_law_496 : decode cL_law 496 = .ok (.aload_n 3, 1) := by decide +kernel
theorem dL_law_497 : decode cL_law 497 = .ok (.invokestatic 105, 3) := by decide +kernel
theorem dL_law_500 : decode cL_law 500 = .ok (.istore 5, 2) := by decide +kernel
theorem dL_law_502 : decode cL_law 502 = .ok (.aload_n 2, 1) := by decide +kernel
theorem dL_law_503 : decode cL_law 503 = .ok (.aload_n 0, 1) := by decide +kernel
theorem dL_law_504 : decode cL_law 504 = .ok (.iload 4, 2) := by decide +kernel
theorem dL_law_506 : decode cL_law 506 = .ok (.iconst 1, 1) := by decide +kernel
theorem dL_law_507 : decode cL_law 507 = .ok (.iadd, 1) := by decide +kernel
theorem dL_law_508 : decode cL_law 508 = .ok (.iaload, 1) := by decide +kernel
theorem dL_law_509 : decode cL_law 509 = .ok (.invokevirtual 107, 3) := by decide +kernel
theorem dL_law_512 : decode cL_law 512 = .ok (.istore 6, 2) := by decide +kernel
theorem dL_law_514 : decode cL_law 514 = .ok (.aload_n 2, 1) := by decide +kernel
theorem dL_law_515 : decode cL_law 515 = .ok (.invokevirtual 83, 3) := by decide +kernel
theorem dL_law_518 : decode cL_law 518 = .ok (.iload 5, 2) := by decide +kernel
theorem dL_law_520 : decode cL_law 520 = .ok (.if_icmp .eq 5, 3) := by decide +kernel
theorem dL_law_523 : decode cL_law 523 = .ok (.iconst 0, 1) := by decide +kernel
theorem dL_law_524 : decode cL_law 524 = .ok (.ireturn, 1) := by decide +kernel
theorem dL_law_525 : decode cL_law 525 = .ok (.iload 5, 2) := by decide +kernel
theorem dL_law_527 : decode cL_law 527 = .ok (.ifCond .ne 15, 3) := by decide +kernel
theorem dL_law_530 : decode cL_law 530 = .ok (.aload_n 3, 1) := by decide +kernel
theorem dL_law_531 : decode cL_law 531 = .ok (.iconst 0, 1) := by decide +kernel
theorem dL_law_532 : decode cL_law 532 = .ok (.laload, 1) := by decide +kernel
theorem dL_law_533 : decode cL_law 533 = .ok (.iload 6, 2) := by decide +kernel
theorem dL_law_535 : decode cL_law 535 = .ok (.i2l, 1) := by decide +kernel
theorem dL_law_536 : decode cL_law 536 = .ok (.lcmp, 1) := by decide +kernel
theorem dL_law_537 : decode cL_law 537 = .ok (.ifCond .eq 5, 3) := by decide +kernel
theorem dL_law_540 : decode cL_law 540 = .ok (.iconst 0, 1) := by decide +kernel
theorem dL_law_541 : decode cL_law 541 = .ok (.ireturn, 1) := by decide +kernel
theorem dL_law_542 : decode cL_law 542 = .ok (.goto 792, 3) := by decide +kernel
theorem dL_law_545 : decode cL_law 545 = .ok (.aload_n 1, 1) := by decide +kernel
theorem dL_law_546 : decode cL_law 546 = .ok (.aload_n 0, 1) := by decide +kernel
theorem dL_law_547 : decode cL_law 547 = .ok (.iload 4, 2) := by decide +kernel
theorem dL_law_549 : decode cL_law 549 = .ok (.iconst 1, 1) := by decide +kernel
theorem dL_law_550 : decode cL_law 550 = .ok (.iadd, 1) := by decide +kernel
theorem dL_law_551 : decode cL_law 551 = .ok (.iaload, 1) := by decide +kernel
theorem dL_law_552 : decode cL_law 552 = .ok (.aload_n 0, 1) := by decide +kernel
theorem dL_law_553 : decode cL_law 553 = .ok (.iload 4, 2) := by decide +kernel
theorem dL_law_555 : decode cL_law 555 = .ok (.iconst 2, 1) := by decide +kernel
theorem dL_law_556 : decode cL_law 556 = .ok (.iadd, 1) := by decide +kernel
theorem dL_law_557 : decode cL_law 557 = .ok (.iaload, 1) := by decide +kernel
theorem dL_law_558 : decode cL_law 558 = .ok (.aload_n 3, 1) := by decide +kernel
theorem dL_law_559 : decode cL_law 559 = .ok (.invokestatic 108, 3) := by decide +kernel
theorem dL_law_562 : decode cL_law 562 = .ok (.istore 5, 2) := by decide +kernel
theorem dL_law_564 : decode cL_law 564 = .ok (.aload_n 2, 1) := by decide +kernel
theorem dL_law_565 : decode cL_law 565 = .ok (.aload_n 0, 1) := by decide +kernel
theorem dL_law_566 : decode cL_law 566 = .ok (.iload 4, 2) := by decide +kernel
theorem dL_law_568 : decode cL_law 568 = .ok (.iconst 1, 1) := by decide +kernel
theorem dL_law_569 : decode cL_law 569 = .ok (.iadd, 1) := by decide +kernel
theorem dL_law_570 : decode cL_law 570 = .ok (.iaload, 1) := by decide +kernel
theorem dL_law_571 : decode cL_law 571 = .ok (.aload_n 0, 1) := by decide +kernel
theorem dL_law_572 : decode cL_law 572 = .ok (.iload 4, 2) := by decide +kernel
theorem dL_law_574 : decode cL_law 574 = .ok (.iconst 2, 1) := by decide +kernel
theorem dL_law_575 : decode cL_law 575 = .ok (.iadd, 1) := by decide +kernel
theorem dL_law_576 : decode cL_law 576 = .ok (.iaload, 1) := by decide +kernel
theorem dL_law_577 : decode cL_law 577 = .ok (.invokevirtual 110, 3) := by decide +kernel
theorem dL_law_580 : decode cL_law 580 = .ok (.istore 6, 2) := by decide +kernel
theorem dL_law_582 : decode cL_law 582 = .ok (.aload_n 2, 1) := by decide +kernel
theorem dL_law_583 : decode cL_law 583 = .ok (.invokevirtual 83, 3) := by decide +kernel
theorem dL_law_586 : decode cL_law 586 = .ok (.iload 5, 2) := by decide +kernel
theorem dL_law_588 : decode cL_law 588 = .ok (.if_icmp .eq 5, 3) := by decide +kernel
theorem dL_law_591 : decode cL_law 591 = .ok (.iconst 0, 1) := by decide +kernel
theorem dL_law_592 : decode cL_law 592 = .ok (.ireturn, 1) := by decide +kernel
theorem dL_law_593 : decode cL_law 593 = .ok (.iload 5, 2) := by decide +kernel
theorem dL_law_595 : decode cL_law 595 = .ok (.ifCond .ne 15, 3) := by decide +kernel
theorem dL_law_598 : decode cL_law 598 = .ok (.aload_n 3, 1) := by decide +kernel
theorem dL_law_599 : decode cL_law 599 = .ok (.iconst 0, 1) := by decide +kernel
theorem dL_law_600 : decode cL_law 600 = .ok (.laload, 1) := by decide +kernel
theorem dL_law_601 : decode cL_law 601 = .ok (.iload 6, 2) := by decide +kernel
theorem dL_law_603 : decode cL_law 603 = .ok (.i2l, 1) := by decide +kernel
theorem dL_law_604 : decode cL_law 604 = .ok (.lcmp, 1) := by decide +kernel
theorem dL_law_605 : decode cL_law 605 = .ok (.ifCond .eq 5, 3) := by decide +kernel
theorem dL_law_608 : decode cL_law 608 = .ok (.iconst 0, 1) := by decide +kernel
theorem dL_law_609 : decode cL_law 609 = .ok (.ireturn, 1) := by decide +kernel
theorem dL_law_610 : decode cL_law 610 = .ok (.goto 724, 3) := by decide +kernel
theorem dL_law_613 : decode cL_law 613 = .ok (.aload_n 1, 1) := by decide +kernel
theorem dL_law_614 : decode cL_law 614 = .ok (.aload_n 0, 1) := by decide +kernel
theorem dL_law_615 : decode cL_law 615 = .ok (.iload 4, 2) := by decide +kernel
theorem dL_law_617 : decode cL_law 617 = .ok (.iconst 1, 1) := by decide +kernel
theorem dL_law_618 : decode cL_law 618 = .ok (.iadd, 1) := by decide +kernel
theorem dL_law_619 : decode cL_law 619 = .ok (.iaload, 1) := by decide +kernel
theorem dL_law_620 : decode cL_law 620 = .ok (.aload_n 0, 1) := by decide +kernel
theorem dL_law_621 : decode cL_law 621 = .ok (.iload 4, 2) := by decide +kernel
theorem dL_law_623 : decode cL_law 623 = .ok (.iconst 2, 1) := by decide +kernel
theorem dL_law_624 : decode cL_law 624 = .ok (.iadd, 1) := by decide +kernel
theorem dL_law_625 : decode cL_law 625 = .ok (.iaload, 1) := by decide +kernel
theorem dL_law_626 : decode cL_law 626 = .ok (.aload_n 3, 1) := by decide +kernel
theorem dL_law_627 : decode cL_law 627 = .ok (.invokestatic 111, 3) := by decide +kernel
theorem dL_law_630 : decode cL_law 630 = .ok (.istore 5, 2) := by decide +kernel
theorem dL_law_632 : decode cL_law 632 = .ok (.aload_n 2, 1) := by decide +kernel
theorem dL_law_633 : decode cL_law 633 = .ok (.aload_n 0, 1) := by decide +kernel
theorem dL_law_634 : decode cL_law 634 = .ok (.iload 4, 2) := by decide +kernel
theorem dL_law_636 : decode cL_law 636 = .ok (.iconst 1, 1) := by decide +kernel
theorem dL_law_637 : decode cL_law 637 = .ok (.iadd, 1) := by decide +kernel
theorem dL_law_638 : decode cL_law 638 = .ok (.iaload, 1) := by decide +kernel
theorem dL_law_639 : decode cL_law 639 = .ok (.aload_n 0, 1) := by decide +kernel
theorem dL_law_640 : decode cL_law 640 = .ok (.iload 4, 2) := by decide +kernel
theorem dL_law_642 : decode cL_law 642 = .ok (.iconst 2, 1) := by decide +kernel
theorem dL_law_643 : decode cL_law 643 = .ok (.iadd, 1) := by decide +kernel
theorem dL_law_644 : decode cL_law 644 = .ok (.iaload, 1) := by decide +kernel
theorem dL_law_645 : decode cL_law 645 = .ok (.invokevirtual 113, 3) := by decide +kernel
theorem dL_law_648 : decode cL_law 648 = .ok (.istore 6, 2) := by decide +kernel
theorem dL_law_650 : decode cL_law 650 = .ok (.aload_n 2, 1) := by decide +kernel
theorem dL_law_651 : decode cL_law 651 = .ok (.invokevirtual 83, 3) := by decide +kernel
theorem dL_law_654 : decode cL_law 654 = .ok (.iload 5, 2) := by decide +kernel
theorem dL_law_656 : decode cL_law 656 = .ok (.if_icmp .eq 5, 3) := by decide +kernel
theorem dL_law_659 : decode cL_law 659 = .ok (.iconst 0, 1) := by decide +kernel
theorem dL_law_660 : decode cL_law 660 = .ok (.ireturn, 1) := by decide +kernel
theorem dL_law_661 : decode cL_law 661 = .ok (.iload 5, 2) := by decide +kernel
theorem dL_law_663 : decode cL_law 663 = .ok (.ifCond .ne 15, 3) := by decide +kernel
theorem dL_law_666 : decode cL_law 666 = .ok (.aload_n 3, 1) := by decide +kernel
theorem dL_law_667 : decode cL_law 667 = .ok (.iconst 0, 1) := by decide +kernel
theorem dL_law_668 : decode cL_law 668 = .ok (.laload, 1) := by decide +kernel
theorem dL_law_669 : decode cL_law 669 = .ok (.iload 6, 2) := by decide +kernel
theorem dL_law_671 : decode cL_law 671 = .ok (.i2l, 1) := by decide +kernel
theorem dL_law_672 : decode cL_law 672 = .ok (.lcmp, 1) := by decide +kernel
theorem dL_law_673 : decode cL_law 673 = .ok (.ifCond .eq 5, 3) := by decide +kernel
theorem dL_law_676 : decode cL_law 676 = .ok (.iconst 0, 1) := by decide +kernel
theorem dL_law_677 : decode cL_law 677 = .ok (.ireturn, 1) := by decide +kernel
theorem dL_law_678 : decode cL_law 678 = .ok (.goto 656, 3) := by decide +kernel
theorem dL_law_681 : decode cL_law 681 = .ok (.aload_n 1, 1) := by decide +kernel
theorem dL_law_682 : decode cL_law 682 = .ok (.aload_n 0, 1) := by decide +kernel
theorem dL_law_683 : decode cL_law 683 = .ok (.iload 4, 2) := by decide +kernel
theorem dL_law_685 : decode cL_law 685 = .ok (.iconst 1, 1) := by decide +kernel
theorem dL_law_686 : decode cL_law 686 = .ok (.iadd, 1) := by decide +kernel
theorem dL_law_687 : decode cL_law 687 = .ok (.iaload, 1) := by decide +kernel
theorem dL_law_688 : decode cL_law 688 = .ok (.aload_n 3, 1) := by decide +kernel
theorem dL_law_689 : decode cL_law 689 = .ok (.invokestatic 114, 3) := by decide +kernel
theorem dL_law_692 : decode cL_law 692 = .ok (.istore 5, 2) := by decide +kernel
theorem dL_law_694 : decode cL_law 694 = .ok (.aload_n 2, 1) := by decide +kernel
theorem dL_law_695 : decode cL_law 695 = .ok (.aload_n 0, 1) := by decide +kernel
theorem dL_law_696 : decode cL_law 696 = .ok (.iload 4, 2) := by decide +kernel
theorem dL_law_698 : decode cL_law 698 = .ok (.iconst 1, 1) := by decide +kernel
theorem dL_law_699 : decode cL_law 699 = .ok (.iadd, 1) := by decide +kernel
theorem dL_law_700 : decode cL_law 700 = .ok (.iaload, 1) := by decide +kernel
theorem dL_law_701 : decode cL_law 701 = .ok (.invokevirtual 116, 3) := by decide +kernel
theorem dL_law_704 : decode cL_law 704 = .ok (.istore 6, 2) := by decide +kernel
theorem dL_law_706 : decode cL_law 706 = .ok (.aload_n 2, 1) := by decide +kernel
theorem dL_law_707 : decode cL_law 707 = .ok (.invokevirtual 83, 3) := by decide +kernel
theorem dL_law_710 : decode cL_law 710 = .ok (.iload 5, 2) := by decide +kernel
theorem dL_law_712 : decode cL_law 712 = .ok (.if_icmp .eq 5, 3) := by decide +kernel
theorem dL_law_715 : decode cL_law 715 = .ok (.iconst 0, 1) := by decide +kernel
theorem dL_law_716 : decode cL_law 716 = .ok (.ireturn, 1) := by decide +kernel
theorem dL_law_717 : decode cL_law 717 = .ok (.iload 5, 2) := by decide +kernel
theorem dL_law_719 : decode cL_law 719 = .ok (.ifCond .ne 15, 3) := by decide +kernel
theorem dL_law_722 : decode cL_law 722 = .ok (.aload_n 3, 1) := by decide +kernel
theorem dL_law_723 : decode cL_law 723 = .ok (.iconst 0, 1) := by decide +kernel
theorem dL_law_724 : decode cL_law 724 = .ok (.laload, 1) := by decide +kernel
theorem dL_law_725 : decode cL_law 725 = .ok (.iload 6, 2) := by decide +kernel
theorem dL_law_727 : decode cL_law 727 = .ok (.i2l, 1) := by decide +kernel
theorem dL_law_728 : decode cL_law 728 = .ok (.lcmp, 1) := by decide +kernel
theorem dL_law_729 : decode cL_law 729 = .ok (.ifCond .eq 5, 3) := by decide +kernel
theorem dL_law_732 : decode cL_law 732 = .ok (.iconst 0, 1) := by decide +kernel
theorem dL_law_733 : decode cL_law 733 = .ok (.ireturn, 1) := by decide +kernel
theorem dL_law_734 : decode cL_law 734 = .ok (.goto 600, 3) := by decide +kernel
theorem dL_law_737 : decode cL_law 737 = .ok (.aload_n 1, 1) := by decide +kernel
theorem dL_law_738 : decode cL_law 738 = .ok (.aload_n 0, 1) := by decide +kernel
theorem dL_law_739 : decode cL_law 739 = .ok (.iload 4, 2) := by decide +kernel
theorem dL_law_741 : decode cL_law 741 = .ok (.iconst 1, 1) := by decide +kernel
theorem dL_law_742 : decode cL_law 742 = .ok (.iadd, 1) := by decide +kernel
theorem dL_law_743 : decode cL_law 743 = .ok (.iaload, 1) := by decide +kernel
theorem dL_law_744 : decode cL_law 744 = .ok (.aload_n 3, 1) := by decide +kernel
theorem dL_law_745 : decode cL_law 745 = .ok (.invokestatic 117, 3) := by decide +kernel
theorem dL_law_748 : decode cL_law 748 = .ok (.istore 5, 2) := by decide +kernel
theorem dL_law_750 : decode cL_law 750 = .ok (.aload_n 2, 1) := by decide +kernel
theorem dL_law_751 : decode cL_law 751 = .ok (.aload_n 0, 1) := by decide +kernel
theorem dL_law_752 : decode cL_law 752 = .ok (.iload 4, 2) := by decide +kernel
theorem dL_law_754 : decode cL_law 754 = .ok (.iconst 1, 1) := by decide +kernel
theorem dL_law_755 : decode cL_law 755 = .ok (.iadd, 1) := by decide +kernel
theorem dL_law_756 : decode cL_law 756 = .ok (.iaload, 1) := by decide +kernel
theorem dL_law_757 : decode cL_law 757 = .ok (.invokevirtual 119, 3) := by decide +kernel
theorem dL_law_760 : decode cL_law 760 = .ok (.istore 6, 2) := by decide +kernel
theorem dL_law_762 : decode cL_law 762 = .ok (.aload_n 2, 1) := by decide +kernel
theorem dL_law_763 : decode cL_law 763 = .ok (.invokevirtual 83, 3) := by decide +kernel
theorem dL_law_766 : decode cL_law 766 = .ok (.iload 5, 2) := by decide +kernel
theorem dL_law_768 : decode cL_law 768 = .ok (.if_icmp .eq 5, 3) := by decide +kernel
theorem dL_law_771 : decode cL_law 771 = .ok (.iconst 0, 1) := by decide +kernel
theorem dL_law_772 : decode cL_law 772 = .ok (.ireturn, 1) := by decide +kernel
theorem dL_law_773 : decode cL_law 773 = .ok (.iload 5, 2) := by decide +kernel
theorem dL_law_775 : decode cL_law 775 = .ok (.ifCond .ne 15, 3) := by decide +kernel
theorem dL_law_778 : decode cL_law 778 = .ok (.aload_n 3, 1) := by decide +kernel
theorem dL_law_779 : decode cL_law 779 = .ok (.iconst 0, 1) := by decide +kernel
theorem dL_law_780 : decode cL_law 780 = .ok (.laload, 1) := by decide +kernel
theorem dL_law_781 : decode cL_law 781 = .ok (.iload 6, 2) := by decide +kernel
theorem dL_law_783 : decode cL_law 783 = .ok (.i2l, 1) := by decide +kernel
theorem dL_law_784 : decode cL_law 784 = .ok (.lcmp, 1) := by decide +kernel
theorem dL_law_785 : decode cL_law 785 = .ok (.ifCond .eq 5, 3) := by decide +kernel
theorem dL_law_788 : decode cL_law 788 = .ok (.iconst 0, 1) := by decide +kernel
theorem dL_law_789 : decode cL_law 789 = .ok (.ireturn, 1) := by decide +kernel
theorem dL_law_790 : decode cL_law 790 = .ok (.goto 544, 3) := by decide +kernel
theorem dL_law_793 : decode cL_law 793 = .ok (.aload_n 1, 1) := by decide +kernel
theorem dL_law_794 : decode cL_law 794 = .ok (.invokevirtual 120, 3) := by decide +kernel
theorem dL_law_797 : decode cL_law 797 = .ok (.aload_n 2, 1) := by decide +kernel
theorem dL_law_798 : decode cL_law 798 = .ok (.invokevirtual 123, 3) := by decide +kernel
theorem dL_law_801 : decode cL_law 801 = .ok (.if_icmp .eq 533, 3) := by decide +kernel
theorem dL_law_804 : decode cL_law 804 = .ok (.iconst 0, 1) := by decide +kernel
theorem dL_law_805 : decode cL_law 805 = .ok (.ireturn, 1) := by decide +kernel
theorem dL_law_806 : decode cL_law 806 = .ok (.aload_n 1, 1) := by decide +kernel
theorem dL_law_807 : decode cL_law 807 = .ok (.invokevirtual 124, 3) := by decide +kernel
theorem dL_law_810 : decode cL_law 810 = .ok (.aload_n 2, 1) := by decide +kernel
theorem dL_law_811 : decode cL_law 811 = .ok (.invokevirtual 127, 3) := by decide +kernel
theorem dL_law_814 : decode cL_law 814 = .ok (.if_icmp .eq 520, 3) := by decide +kernel
theorem dL_law_817 : decode cL_law 817 = .ok (.iconst 0, 1) := by decide +kernel
theorem dL_law_818 : decode cL_law 818 = .ok (.ireturn, 1) := by decide +kernel
theorem dL_law_819 : decode cL_law 819 = .ok (.aload_n 1, 1) := by decide +kernel
theorem dL_law_820 : decode cL_law 820 = .ok (.aload_n 0, 1) := by decide +kernel
theorem dL_law_821 : decode cL_law 821 = .ok (.iload 4, 2) := by decide +kernel
theorem dL_law_823 : decode cL_law 823 = .ok (.iconst 1, 1) := by decide +kernel
theorem dL_law_824 : decode cL_law 824 = .ok (.iadd, 1) := by decide +kernel
theorem dL_law_825 : decode cL_law 825 = .ok (.iaload, 1) := by decide +kernel
theorem dL_law_826 : decode cL_law 826 = .ok (.aload_n 3, 1) := by decide +kernel
theorem dL_law_827 : decode cL_law 827 = .ok (.invokestatic 128, 3) := by decide +kernel
theorem dL_law_830 : decode cL_law 830 = .ok (.istore 5, 2) := by decide +kernel
theorem dL_law_832 : decode cL_law 832 = .ok (.aload_n 2, 1) := by decide +kernel
theorem dL_law_833 : decode cL_law 833 = .ok (.aload_n 0, 1) := by decide +kernel
theorem dL_law_834 : decode cL_law 834 = .ok (.iload 4, 2) := by decide +kernel
theorem dL_law_836 : decode cL_law 836 = .ok (.iconst 1, 1) := by decide +kernel
theorem dL_law_837 : decode cL_law 837 = .ok (.iadd, 1) := by decide +kernel
theorem dL_law_838 : decode cL_law 838 = .ok (.iaload, 1) := by decide +kernel
theorem dL_law_839 : decode cL_law 839 = .ok (.invokevirtual 130, 3) := by decide +kernel
theorem dL_law_842 : decode cL_law 842 = .ok (.istore 6, 2) := by decide +kernel
theorem dL_law_844 : decode cL_law 844 = .ok (.aload_n 2, 1) := by decide +kernel
theorem dL_law_845 : decode cL_law 845 = .ok (.invokevirtual 83, 3) := by decide +kernel
theorem dL_law_848 : decode cL_law 848 = .ok (.iload 5, 2) := by decide +kernel
theorem dL_law_850 : decode cL_law 850 = .ok (.if_icmp .eq 5, 3) := by decide +kernel
theorem dL_law_853 : decode cL_law 853 = .ok (.iconst 0, 1) := by decide +kernel
theorem dL_law_854 : decode cL_law 854 = .ok (.ireturn, 1) := by decide +kernel
theorem dL_law_855 : decode cL_law 855 = .ok (.iload 5, 2) := by decide +kernel
theorem dL_law_857 : decode cL_law 857 = .ok (.ifCond .ne 15, 3) := by decide +kernel
theorem dL_law_860 : decode cL_law 860 = .ok (.aload_n 3, 1) := by decide +kernel
theorem dL_law_861 : decode cL_law 861 = .ok (.iconst 0, 1) := by decide +kernel
theorem dL_law_862 : decode cL_law 862 = .ok (.laload, 1) := by decide +kernel
theorem dL_law_863 : decode cL_law 863 = .ok (.iload 6, 2) := by decide +kernel
theorem dL_law_865 : decode cL_law 865 = .ok (.i2l, 1) := by decide +kernel
theorem dL_law_866 : decode cL_law 866 = .ok (.lcmp, 1) := by decide +kernel
theorem dL_law_867 : decode cL_law 867 = .ok (.ifCond .eq 5, 3) := by decide +kernel
theorem dL_law_870 : decode cL_law 870 = .ok (.iconst 0, 1) := by decide +kernel
theorem dL_law_871 : decode cL_law 871 = .ok (.ireturn, 1) := by decide +kernel
theorem dL_law_872 : decode cL_law 872 = .ok (.goto 462, 3) := by decide +kernel
theorem dL_law_875 : decode cL_law 875 = .ok (.aload_n 1, 1) := by decide +kernel
theorem dL_law_876 : decode cL_law 876 = .ok (.aload_n 0, 1) := by decide +kernel
theorem dL_law_877 : decode cL_law 877 = .ok (.iload 4, 2) := by decide +kernel
theorem dL_law_879 : decode cL_law 879 = .ok (.iconst 1, 1) := by decide +kernel
theorem dL_law_880 : decode cL_law 880 = .ok (.iadd, 1) := by decide +kernel
theorem dL_law_881 : decode cL_law 881 = .ok (.iaload, 1) := by decide +kernel
theorem dL_law_882 : decode cL_law 882 = .ok (.aload_n 3, 1) := by decide +kernel
theorem dL_law_883 : decode cL_law 883 = .ok (.invokestatic 131, 3) := by decide +kernel
theorem dL_law_886 : decode cL_law 886 = .ok (.istore 5, 2) := by decide +kernel
theorem dL_law_888 : decode cL_law 888 = .ok (.aload_n 2, 1) := by decide +kernel
theorem dL_law_889 : decode cL_law 889 = .ok (.aload_n 0, 1) := by decide +kernel
theorem dL_law_890 : decode cL_law 890 = .ok (.iload 4, 2) := by decide +kernel
theorem dL_law_892 : decode cL_law 892 = .ok (.iconst 1, 1) := by decide +kernel
theorem dL_law_893 : decode cL_law 893 = .ok (.iadd, 1) := by decide +kernel
theorem dL_law_894 : decode cL_law 894 = .ok (.iaload, 1) := by decide +kernel
theorem dL_law_895 : decode cL_law 895 = .ok (.invokevirtual 133, 3) := by decide +kernel
theorem dL_law_898 : decode cL_law 898 = .ok (.istore 6, 2) := by decide +kernel
theorem dL_law_900 : decode cL_law 900 = .ok (.aload_n 2, 1) := by decide +kernel
theorem dL_law_901 : decode cL_law 901 = .ok (.invokevirtual 83, 3) := by decide +kernel
theorem dL_law_904 : decode cL_law 904 = .ok (.iload 5, 2) := by decide +kernel
theorem dL_law_906 : decode cL_law 906 = .ok (.if_icmp .eq 5, 3) := by decide +kernel
theorem dL_law_909 : decode cL_law 909 = .ok (.iconst 0, 1) := by decide +kernel
theorem dL_law_910 : decode cL_law 910 = .ok (.ireturn, 1) := by decide +kernel
theorem dL_law_911 : decode cL_law 911 = .ok (.iload 5, 2) := by decide +kernel
theorem dL_law_913 : decode cL_law 913 = .ok (.ifCond .ne 15, 3) := by decide +kernel
theorem dL_law_916 : decode cL_law 916 = .ok (.aload_n 3, 1) := by decide +kernel
theorem dL_law_917 : decode cL_law 917 = .ok (.iconst 0, 1) := by decide +kernel
theorem dL_law_918 : decode cL_law 918 = .ok (.laload, 1) := by decide +kernel
theorem dL_law_919 : decode cL_law 919 = .ok (.iload 6, 2) := by decide +kernel
theorem dL_law_921 : decode cL_law 921 = .ok (.i2l, 1) := by decide +kernel
theorem dL_law_922 : decode cL_law 922 = .ok (.lcmp, 1) := by decide +kernel
theorem dL_law_923 : decode cL_law 923 = .ok (.ifCond .eq 5, 3) := by decide +kernel
theorem dL_law_926 : decode cL_law 926 = .ok (.iconst 0, 1) := by decide +kernel
theorem dL_law_927 : decode cL_law 927 = .ok (.ireturn, 1) := by decide +kernel
theorem dL_law_928 : decode cL_law 928 = .ok (.goto 406, 3) := by decide +kernel
theorem dL_law_931 : decode cL_law 931 = .ok (.aload_n 1, 1) := by decide +kernel
theorem dL_law_932 : decode cL_law 932 = .ok (.aload_n 0, 1) := by decide +kernel
theorem dL_law_933 : decode cL_law 933 = .ok (.iload 4, 2) := by decide +kernel
theorem dL_law_935 : decode cL_law 935 = .ok (.iconst 1, 1) := by decide +kernel
theorem dL_law_936 : decode cL_law 936 = .ok (.iadd, 1) := by decide +kernel
theorem dL_law_937 : decode cL_law 937 = .ok (.iaload, 1) := by decide +kernel
theorem dL_law_938 : decode cL_law 938 = .ok (.aload_n 3, 1) := by decide +kernel
theorem dL_law_939 : decode cL_law 939 = .ok (.invokestatic 134, 3) := by decide +kernel
theorem dL_law_942 : decode cL_law 942 = .ok (.istore 5, 2) := by decide +kernel
theorem dL_law_944 : decode cL_law 944 = .ok (.aload_n 2, 1) := by decide +kernel
theorem dL_law_945 : decode cL_law 945 = .ok (.aload_n 0, 1) := by decide +kernel
theorem dL_law_946 : decode cL_law 946 = .ok (.iload 4, 2) := by decide +kernel
theorem dL_law_948 : decode cL_law 948 = .ok (.iconst 1, 1) := by decide +kernel
theorem dL_law_949 : decode cL_law 949 = .ok (.iadd, 1) := by decide +kernel
theorem dL_law_950 : decode cL_law 950 = .ok (.iaload, 1) := by decide +kernel
theorem dL_law_951 : decode cL_law 951 = .ok (.invokevirtual 136, 3) := by decide +kernel
theorem dL_law_954 : decode cL_law 954 = .ok (.istore 6, 2) := by decide +kernel
theorem dL_law_956 : decode cL_law 956 = .ok (.aload_n 2, 1) := by decide +kernel
theorem dL_law_957 : decode cL_law 957 = .ok (.invokevirtual 83, 3) := by decide +kernel
theorem dL_law_960 : decode cL_law 960 = .ok (.iload 5, 2) := by decide +kernel
theorem dL_law_962 : decode cL_law 962 = .ok (.if_icmp .eq 5, 3) := by decide +kernel
theorem dL_law_965 : decode cL_law 965 = .ok (.iconst 0, 1) := by decide +kernel
theorem dL_law_966 : decode cL_law 966 = .ok (.ireturn, 1) := by decide +kernel
theorem dL_law_967 : decode cL_law 967 = .ok (.iload 5, 2) := by decide +kernel
theorem dL_law_969 : decode cL_law 969 = .ok (.ifCond .ne 15, 3) := by decide +kernel
theorem dL_law_972 : decode cL_law 972 = .ok (.aload_n 3, 1) := by decide +kernel
theorem dL_law_973 : decode cL_law 973 = .ok (.iconst 0, 1) := by decide +kernel
theorem dL_law_974 : decode cL_law 974 = .ok (.laload, 1) := by decide +kernel
theorem dL_law_975 : decode cL_law 975 = .ok (.iload 6, 2) := by decide +kernel
theorem dL_law_977 : decode cL_law 977 = .ok (.i2l, 1) := by decide +kernel
theorem dL_law_978 : decode cL_law 978 = .ok (.lcmp, 1) := by decide +kernel
theorem dL_law_979 : decode cL_law 979 = .ok (.ifCond .eq 5, 3) := by decide +kernel
theorem dL_law_982 : decode cL_law 982 = .ok (.iconst 0, 1) := by decide +kernel
theorem dL_law_983 : decode cL_law 983 = .ok (.ireturn, 1) := by decide +kernel
theorem dL_law_984 : decode cL_law 984 = .ok (.goto 350, 3) := by decide +kernel
theorem dL_law_987 : decode cL_law 987 = .ok (.aload_n 1, 1) := by decide +kernel
theorem dL_law_988 : decode cL_law 988 = .ok (.aload_n 0, 1) := by decide +kernel
theorem dL_law_989 : decode cL_law 989 = .ok (.iload 4, 2) := by decide +kernel
theorem dL_law_991 : decode cL_law 991 = .ok (.iconst 1, 1) := by decide +kernel
theorem dL_law_992 : decode cL_law 992 = .ok (.iadd, 1) := by decide +kernel
theorem dL_law_993 : decode cL_law 993 = .ok (.iaload, 1) := by decide +kernel
theorem dL_law_994 : decode cL_law 994 = .ok (.aload_n 3, 1) := by decide +kernel
theorem dL_law_995 : decode cL_law 995 = .ok (.invokestatic 137, 3) := by decide +kernel
theorem dL_law_998 : decode cL_law 998 = .ok (.istore 5, 2) := by decide +kernel
theorem dL_law_1000 : decode cL_law 1000 = .ok (.aload_n 2, 1) := by decide +kernel
theorem dL_law_1001 : decode cL_law 1001 = .ok (.aload_n 0, 1) := by decide +kernel
theorem dL_law_1002 : decode cL_law 1002 = .ok (.iload 4, 2) := by decide +kernel
theorem dL_law_1004 : decode cL_law 1004 = .ok (.iconst 1, 1) := by decide +kernel
theorem dL_law_1005 : decode cL_law 1005 = .ok (.iadd, 1) := by decide +kernel
theorem dL_law_1006 : decode cL_law 1006 = .ok (.iaload, 1) := by decide +kernel
theorem dL_law_1007 : decode cL_law 1007 = .ok (.invokevirtual 139, 3) := by decide +kernel
theorem dL_law_1010 : decode cL_law 1010 = .ok (.istore 6, 2) := by decide +kernel
theorem dL_law_1012 : decode cL_law 1012 = .ok (.aload_n 2, 1) := by decide +kernel
theorem dL_law_1013 : decode cL_law 1013 = .ok (.invokevirtual 83, 3) := by decide +kernel
theorem dL_law_1016 : decode cL_law 1016 = .ok (.iload 5, 2) := by decide +kernel
theorem dL_law_1018 : decode cL_law 1018 = .ok (.if_icmp .eq 5, 3) := by decide +kernel
theorem dL_law_1021 : decode cL_law 1021 = .ok (.iconst 0, 1) := by decide +kernel
theorem dL_law_1022 : decode cL_law 1022 = .ok (.ireturn, 1) := by decide +kernel
theorem dL_law_1023 : decode cL_law 1023 = .ok (.iload 5, 2) := by decide +kernel
theorem dL_law_1025 : decode cL_law 1025 = .ok (.ifCond .ne 15, 3) := by decide +kernel
theorem dL_law_1028 : decode cL_law 1028 = .ok (.aload_n 3, 1) := by decide +kernel
theorem dL_law_1029 : decode cL_law 1029 = .ok (.iconst 0, 1) := by decide +kernel
theorem dL_law_1030 : decode cL_law 1030 = .ok (.laload, 1) := by decide +kernel
theorem dL_law_1031 : decode cL_law 1031 = .ok (.iload 6, 2) := by decide +kernel
theorem dL_law_1033 : decode cL_law 1033 = .ok (.i2l, 1) := by decide +kernel
theorem dL_law_1034 : decode cL_law 1034 = .ok (.lcmp, 1) := by decide +kernel
theorem dL_law_1035 : decode cL_law 1035 = .ok (.ifCond .eq 5, 3) := by decide +kernel
theorem dL_law_1038 : decode cL_law 1038 = .ok (.iconst 0, 1) := by decide +kernel
theorem dL_law_1039 : decode cL_law 1039 = .ok (.ireturn, 1) := by decide +kernel
theorem dL_law_1040 : decode cL_law 1040 = .ok (.goto 294, 3) := by decide +kernel
theorem dL_law_1043 : decode cL_law 1043 = .ok (.aload_n 1, 1) := by decide +kernel
theorem dL_law_1044 : decode cL_law 1044 = .ok (.aload_n 0, 1) := by decide +kernel
theorem dL_law_1045 : decode cL_law 1045 = .ok (.iload 4, 2) := by decide +kernel
theorem dL_law_1047 : decode cL_law 1047 = .ok (.iconst 1, 1) := by decide +kernel
theorem dL_law_1048 : decode cL_law 1048 = .ok (.iadd, 1) := by decide +kernel
theorem dL_law_1049 : decode cL_law 1049 = .ok (.iaload, 1) := by decide +kernel
theorem dL_law_1050 : decode cL_law 1050 = .ok (.aload_n 0, 1) := by decide +kernel
theorem dL_law_1051 : decode cL_law 1051 = .ok (.iload 4, 2) := by decide +kernel
theorem dL_law_1053 : decode cL_law 1053 = .ok (.iconst 2, 1) := by decide +kernel
theorem dL_law_1054 : decode cL_law 1054 = .ok (.iadd, 1) := by decide +kernel
theorem dL_law_1055 : decode cL_law 1055 = .ok (.iaload, 1) := by decide +kernel
theorem dL_law_1056 : decode cL_law 1056 = .ok (.aload_n 0, 1) := by decide +kernel
theorem dL_law_1057 : decode cL_law 1057 = .ok (.iload 4, 2) := by decide +kernel
theorem dL_law_1059 : decode cL_law 1059 = .ok (.iconst 3, 1) := by decide +kernel
theorem dL_law_1060 : decode cL_law 1060 = .ok (.iadd, 1) := by decide +kernel
theorem dL_law_1061 : decode cL_law 1061 = .ok (.iaload, 1) := by decide +kernel
theorem dL_law_1062 : decode cL_law 1062 = .ok (.aload_n 3, 1) := by decide +kernel
theorem dL_law_1063 : decode cL_law 1063 = .ok (.invokestatic 140, 3) := by decide +kernel
theorem dL_law_1066 : decode cL_law 1066 = .ok (.istore 5, 2) := by decide +kernel
theorem dL_law_1068 : decode cL_law 1068 = .ok (.aload_n 2, 1) := by decide +kernel
theorem dL_law_1069 : decode cL_law 1069 = .ok (.aload_n 0, 1) := by decide +kernel
theorem dL_law_1070 : decode cL_law 1070 = .ok (.iload 4, 2) := by decide +kernel
theorem dL_law_1072 : decode cL_law 1072 = .ok (.iconst 1, 1) := by decide +kernel
theorem dL_law_1073 : decode cL_law 1073 = .ok (.iadd, 1) := by decide +kernel
theorem dL_law_1074 : decode cL_law 1074 = .ok (.iaload, 1) := by decide +kernel
theorem dL_law_1075 : decode cL_law 1075 = .ok (.aload_n 0, 1) := by decide +kernel
theorem dL_law_1076 : decode cL_law 1076 = .ok (.iload 4, 2) := by decide +kernel
theorem dL_law_1078 : decode cL_law 1078 = .ok (.iconst 2, 1) := by decide +kernel
theorem dL_law_1079 : decode cL_law 1079 = .ok (.iadd, 1) := by decide +kernel
theorem dL_law_1080 : decode cL_law 1080 = .ok (.iaload, 1) := by decide +kernel
theorem dL_law_1081 : decode cL_law 1081 = .ok (.aload_n 0, 1) := by decide +kernel
theorem dL_law_1082 : decode cL_law 1082 = .ok (.iload 4, 2) := by decide +kernel
theorem dL_law_1084 : decode cL_law 1084 = .ok (.iconst 3, 1) := by decide +kernel
theorem dL_law_1085 : decode cL_law 1085 = .ok (.iadd, 1) := by decide +kernel
theorem dL_law_1086 : decode cL_law 1086 = .ok (.iaload, 1) := by decide +kernel
theorem dL_law_1087 : decode cL_law 1087 = .ok (.invokevirtual 142, 3) := by decide +kernel
theorem dL_law_1090 : decode cL_law 1090 = .ok (.istore 6, 2) := by decide +kernel
theorem dL_law_1092 : decode cL_law 1092 = .ok (.aload_n 2, 1) := by decide +kernel
theorem dL_law_1093 : decode cL_law 1093 = .ok (.invokevirtual 83, 3) := by decide +kernel
theorem dL_law_1096 : decode cL_law 1096 = .ok (.iload 5, 2) := by decide +kernel
theorem dL_law_1098 : decode cL_law 1098 = .ok (.if_icmp .eq 5, 3) := by decide +kernel
theorem dL_law_1101 : decode cL_law 1101 = .ok (.iconst 0, 1) := by decide +kernel
theorem dL_law_1102 : decode cL_law 1102 = .ok (.ireturn, 1) := by decide +kernel
theorem dL_law_1103 : decode cL_law 1103 = .ok (.iload 5, 2) := by decide +kernel
theorem dL_law_1105 : decode cL_law 1105 = .ok (.ifCond .ne 22, 3) := by decide +kernel
theorem dL_law_1108 : decode cL_law 1108 = .ok (.aload_n 3, 1) := by decide +kernel
theorem dL_law_1109 : decode cL_law 1109 = .ok (.iconst 0, 1) := by decide +kernel
theorem dL_law_1110 : decode cL_law 1110 = .ok (.laload, 1) := by decide +kernel
theorem dL_law_1111 : decode cL_law 1111 = .ok (.iload 6, 2) := by decide +kernel
theorem dL_law_1113 : decode cL_law 1113 = .ok (.ifCond .eq 7, 3) := by decide +kernel
theorem dL_law_1116 : decode cL_law 1116 = .ok (.lconst 1, 1) := by decide +kernel
theorem dL_law_1117 : decode cL_law 1117 = .ok (.goto 4, 3) := by decide +kernel
theorem dL_law_1120 : decode cL_law 1120 = .ok (.lconst 0, 1) := by decide +kernel
theorem dL_law_1121 : decode cL_law 1121 = .ok (.lcmp, 1) := by decide +kernel
theorem dL_law_1122 : decode cL_law 1122 = .ok (.ifCond .eq 5, 3) := by decide +kernel
theorem dL_law_1125 : decode cL_law 1125 = .ok (.iconst 0, 1) := by decide +kernel
theorem dL_law_1126 : decode cL_law 1126 = .ok (.ireturn, 1) := by decide +kernel
theorem dL_law_1127 : decode cL_law 1127 = .ok (.goto 207, 3) := by decide +kernel
theorem dL_law_1130 : decode cL_law 1130 = .ok (.aload_n 1, 1) := by decide +kernel
theorem dL_law_1131 : decode cL_law 1131 = .ok (.aload_n 0, 1) := by decide +kernel
theorem dL_law_1132 : decode cL_law 1132 = .ok (.iload 4, 2) := by decide +kernel
theorem dL_law_1134 : decode cL_law 1134 = .ok (.iconst 1, 1) := by decide +kernel
theorem dL_law_1135 : decode cL_law 1135 = .ok (.iadd, 1) := by decide +kernel
theorem dL_law_1136 : decode cL_law 1136 = .ok (.iaload, 1) := by decide +kernel
theorem dL_law_1137 : decode cL_law 1137 = .ok (.aload_n 0, 1) := by decide +kernel
theorem dL_law_1138 : decode cL_law 1138 = .ok (.iload 4, 2) := by decide +kernel
theorem dL_law_1140 : decode cL_law 1140 = .ok (.iconst 2, 1) := by decide +kernel
theorem dL_law_1141 : decode cL_law 1141 = .ok (.iadd, 1) := by decide +kernel
theorem dL_law_1142 : decode cL_law 1142 = .ok (.iaload, 1) := by decide +kernel
theorem dL_law_1143 : decode cL_law 1143 = .ok (.aload_n 3, 1) := by decide +kernel
theorem dL_law_1144 : decode cL_law 1144 = .ok (.invokestatic 143, 3) := by decide +kernel
theorem dL_law_1147 : decode cL_law 1147 = .ok (.istore 5, 2) := by decide +kernel
theorem dL_law_1149 : decode cL_law 1149 = .ok (.aload_n 2, 1) := by decide +kernel
theorem dL_law_1150 : decode cL_law 1150 = .ok (.aload_n 0, 1) := by decide +kernel
theorem dL_law_1151 : decode cL_law 1151 = .ok (.iload 4, 2) := by decide +kernel
theorem dL_law_1153 : decode cL_law 1153 = .ok (.iconst 1, 1) := by decide +kernel
theorem dL_law_1154 : decode cL_law 1154 = .ok (.iadd, 1) := by decide +kernel
theorem dL_law_1155 : decode cL_law 1155 = .ok (.iaload, 1) := by decide +kernel
theorem dL_law_1156 : decode cL_law 1156 = .ok (.aload_n 0, 1) := by decide +kernel
theorem dL_law_1157 : decode cL_law 1157 = .ok (.iload 4, 2) := by decide +kernel
theorem dL_law_1159 : decode cL_law 1159 = .ok (.iconst 2, 1) := by decide +kernel
theorem dL_law_1160 : decode cL_law 1160 = .ok (.iadd, 1) := by decide +kernel
theorem dL_law_1161 : decode cL_law 1161 = .ok (.iaload, 1) := by decide +kernel
theorem dL_law_1162 : decode cL_law 1162 = .ok (.invokevirtual 145, 3) := by decide +kernel
theorem dL_law_1165 : decode cL_law 1165 = .ok (.istore 6, 2) := by decide +kernel
theorem dL_law_1167 : decode cL_law 1167 = .ok (.aload_n 2, 1) := by decide +kernel
theorem dL_law_1168 : decode cL_law 1168 = .ok (.invokevirtual 83, 3) := by decide +kernel
theorem dL_law_1171 : decode cL_law 1171 = .ok (.iload 5, 2) := by decide +kernel
theorem dL_law_1173 : decode cL_law 1173 = .ok (.if_icmp .eq 5, 3) := by decide +kernel
theorem dL_law_1176 : decode cL_law 1176 = .ok (.iconst 0, 1) := by decide +kernel
theorem dL_law_1177 : decode cL_law 1177 = .ok (.ireturn, 1) := by decide +kernel
theorem dL_law_1178 : decode cL_law 1178 = .ok (.iload 5, 2) := by decide +kernel
theorem dL_law_1180 : decode cL_law 1180 = .ok (.ifCond .ne 15, 3) := by decide +kernel
theorem dL_law_1183 : decode cL_law 1183 = .ok (.aload_n 3, 1) := by decide +kernel
theorem dL_law_1184 : decode cL_law 1184 = .ok (.iconst 0, 1) := by decide +kernel
theorem dL_law_1185 : decode cL_law 1185 = .ok (.laload, 1) := by decide +kernel
theorem dL_law_1186 : decode cL_law 1186 = .ok (.iload 6, 2) := by decide +kernel
theorem dL_law_1188 : decode cL_law 1188 = .ok (.i2l, 1) := by decide +kernel
theorem dL_law_1189 : decode cL_law 1189 = .ok (.lcmp, 1) := by decide +kernel
theorem dL_law_1190 : decode cL_law 1190 = .ok (.ifCond .eq 5, 3) := by decide +kernel
theorem dL_law_1193 : decode cL_law 1193 = .ok (.iconst 0, 1) := by decide +kernel
theorem dL_law_1194 : decode cL_law 1194 = .ok (.ireturn, 1) := by decide +kernel
theorem dL_law_1195 : decode cL_law 1195 = .ok (.goto 139, 3) := by decide +kernel
theorem dL_law_1198 : decode cL_law 1198 = .ok (.aload_n 1, 1) := by decide +kernel
theorem dL_law_1199 : decode cL_law 1199 = .ok (.aload_n 0, 1) := by decide +kernel
theorem dL_law_1200 : decode cL_law 1200 = .ok (.iload 4, 2) := by decide +kernel
theorem dL_law_1202 : decode cL_law 1202 = .ok (.iconst 1, 1) := by decide +kernel
theorem dL_law_1203 : decode cL_law 1203 = .ok (.iadd, 1) := by decide +kernel
theorem dL_law_1204 : decode cL_law 1204 = .ok (.iaload, 1) := by decide +kernel
theorem dL_law_1205 : decode cL_law 1205 = .ok (.aload_n 3, 1) := by decide +kernel
theorem dL_law_1206 : decode cL_law 1206 = .ok (.invokestatic 146, 3) := by decide +kernel
theorem dL_law_1209 : decode cL_law 1209 = .ok (.istore 5, 2) := by decide +kernel
theorem dL_law_1211 : decode cL_law 1211 = .ok (.aload_n 2, 1) := by decide +kernel
theorem dL_law_1212 : decode cL_law 1212 = .ok (.aload_n 0, 1) := by decide +kernel
theorem dL_law_1213 : decode cL_law 1213 = .ok (.iload 4, 2) := by decide +kernel
theorem dL_law_1215 : decode cL_law 1215 = .ok (.iconst 1, 1) := by decide +kernel
theorem dL_law_1216 : decode cL_law 1216 = .ok (.iadd, 1) := by decide +kernel
theorem dL_law_1217 : decode cL_law 1217 = .ok (.iaload, 1) := by decide +kernel
theorem dL_law_1218 : decode cL_law 1218 = .ok (.invokevirtual 148, 3) := by decide +kernel
theorem dL_law_1221 : decode cL_law 1221 = .ok (.istore 6, 2) := by decide +kernel
theorem dL_law_1223 : decode cL_law 1223 = .ok (.aload_n 2, 1) := by decide +kernel
theorem dL_law_1224 : decode cL_law 1224 = .ok (.invokevirtual 83, 3) := by decide +kernel
theorem dL_law_1227 : decode cL_law 1227 = .ok (.iload 5, 2) := by decide +kernel
theorem dL_law_1229 : decode cL_law 1229 = .ok (.if_icmp .eq 5, 3) := by decide +kernel
theorem dL_law_1232 : decode cL_law 1232 = .ok (.iconst 0, 1) := by decide +kernel
theorem dL_law_1233 : decode cL_law 1233 = .ok (.ireturn, 1) := by decide +kernel
theorem dL_law_1234 : decode cL_law 1234 = .ok (.iload 5, 2) := by decide +kernel
theorem dL_law_1236 : decode cL_law 1236 = .ok (.ifCond .ne 15, 3) := by decide +kernel
theorem dL_law_1239 : decode cL_law 1239 = .ok (.aload_n 3, 1) := by decide +kernel
theorem dL_law_1240 : decode cL_law 1240 = .ok (.iconst 0, 1) := by decide +kernel
theorem dL_law_1241 : decode cL_law 1241 = .ok (.laload, 1) := by decide +kernel
theorem dL_law_1242 : decode cL_law 1242 = .ok (.iload 6, 2) := by decide +kernel
theorem dL_law_1244 : decode cL_law 1244 = .ok (.i2l, 1) := by decide +kernel
theorem dL_law_1245 : decode cL_law 1245 = .ok (.lcmp, 1) := by decide +kernel
theorem dL_law_1246 : decode cL_law 1246 = .ok (.ifCond .eq 5, 3) := by decide +kernel
theorem dL_law_1249 : decode cL_law 1249 = .ok (.iconst 0, 1) := by decide +kernel
theorem dL_law_1250 : decode cL_law 1250 = .ok (.ireturn, 1) := by decide +kernel
theorem dL_law_1251 : decode cL_law 1251 = .ok (.goto 83, 3) := by decide +kernel
theorem dL_law_1254 : decode cL_law 1254 = .ok (.aload_n 1, 1) := by decide +kernel
theorem dL_law_1255 : decode cL_law 1255 = .ok (.aload_n 0, 1) := by decide +kernel
theorem dL_law_1256 : decode cL_law 1256 = .ok (.iload 4, 2) := by decide +kernel
theorem dL_law_1258 : decode cL_law 1258 = .ok (.iconst 1, 1) := by decide +kernel
theorem dL_law_1259 : decode cL_law 1259 = .ok (.iadd, 1) := by decide +kernel
theorem dL_law_1260 : decode cL_law 1260 = .ok (.iaload, 1) := by decide +kernel
theorem dL_law_1261 : decode cL_law 1261 = .ok (.aload_n 0, 1) := by decide +kernel
theorem dL_law_1262 : decode cL_law 1262 = .ok (.iload 4, 2) := by decide +kernel
theorem dL_law_1264 : decode cL_law 1264 = .ok (.iconst 2, 1) := by decide +kernel
theorem dL_law_1265 : decode cL_law 1265 = .ok (.iadd, 1) := by decide +kernel
theorem dL_law_1266 : decode cL_law 1266 = .ok (.iaload, 1) := by decide +kernel
theorem dL_law_1267 : decode cL_law 1267 = .ok (.aload_n 0, 1) := by decide +kernel
theorem dL_law_1268 : decode cL_law 1268 = .ok (.iload 4, 2) := by decide +kernel
theorem dL_law_1270 : decode cL_law 1270 = .ok (.iconst 3, 1) := by decide +kernel
theorem dL_law_1271 : decode cL_law 1271 = .ok (.iadd, 1) := by decide +kernel
theorem dL_law_1272 : decode cL_law 1272 = .ok (.iaload, 1) := by decide +kernel
theorem dL_law_1273 : decode cL_law 1273 = .ok (.aload_n 3, 1) := by decide +kernel
theorem dL_law_1274 : decode cL_law 1274 = .ok (.invokestatic 149, 3) := by decide +kernel
theorem dL_law_1277 : decode cL_law 1277 = .ok (.istore 5, 2) := by decide +kernel
theorem dL_law_1279 : decode cL_law 1279 = .ok (.aload_n 2, 1) := by decide +kernel
theorem dL_law_1280 : decode cL_law 1280 = .ok (.aload_n 0, 1) := by decide +kernel
theorem dL_law_1281 : decode cL_law 1281 = .ok (.iload 4, 2) := by decide +kernel
theorem dL_law_1283 : decode cL_law 1283 = .ok (.iconst 1, 1) := by decide +kernel
theorem dL_law_1284 : decode cL_law 1284 = .ok (.iadd, 1) := by decide +kernel
theorem dL_law_1285 : decode cL_law 1285 = .ok (.iaload, 1) := by decide +kernel
theorem dL_law_1286 : decode cL_law 1286 = .ok (.aload_n 0, 1) := by decide +kernel
theorem dL_law_1287 : decode cL_law 1287 = .ok (.iload 4, 2) := by decide +kernel
theorem dL_law_1289 : decode cL_law 1289 = .ok (.iconst 2, 1) := by decide +kernel
theorem dL_law_1290 : decode cL_law 1290 = .ok (.iadd, 1) := by decide +kernel
theorem dL_law_1291 : decode cL_law 1291 = .ok (.iaload, 1) := by decide +kernel
theorem dL_law_1292 : decode cL_law 1292 = .ok (.aload_n 0, 1) := by decide +kernel
theorem dL_law_1293 : decode cL_law 1293 = .ok (.iload 4, 2) := by decide +kernel
theorem dL_law_1295 : decode cL_law 1295 = .ok (.iconst 3, 1) := by decide +kernel
theorem dL_law_1296 : decode cL_law 1296 = .ok (.iadd, 1) := by decide +kernel
theorem dL_law_1297 : decode cL_law 1297 = .ok (.iaload, 1) := by decide +kernel
theorem dL_law_1298 : decode cL_law 1298 = .ok (.invokevirtual 151, 3) := by decide +kernel
theorem dL_law_1301 : decode cL_law 1301 = .ok (.istore 6, 2) := by decide +kernel
theorem dL_law_1303 : decode cL_law 1303 = .ok (.aload_n 2, 1) := by decide +kernel
theorem dL_law_1304 : decode cL_law 1304 = .ok (.invokevirtual 83, 3) := by decide +kernel
theorem dL_law_1307 : decode cL_law 1307 = .ok (.iload 5, 2) := by decide +kernel
theorem dL_law_1309 : decode cL_law 1309 = .ok (.if_icmp .eq 5, 3) := by decide +kernel
theorem dL_law_1312 : decode cL_law 1312 = .ok (.iconst 0, 1) := by decide +kernel
theorem dL_law_1313 : decode cL_law 1313 = .ok (.ireturn, 1) := by decide +kernel
theorem dL_law_1314 : decode cL_law 1314 = .ok (.iload 5, 2) := by decide +kernel
theorem dL_law_1316 : decode cL_law 1316 = .ok (.ifCond .ne 15, 3) := by decide +kernel
theorem dL_law_1319 : decode cL_law 1319 = .ok (.aload_n 3, 1) := by decide +kernel
theorem dL_law_1320 : decode cL_law 1320 = .ok (.iconst 0, 1) := by decide +kernel
theorem dL_law_1321 : decode cL_law 1321 = .ok (.laload, 1) := by decide +kernel
theorem dL_law_1322 : decode cL_law 1322 = .ok (.iload 6, 2) := by decide +kernel
theorem dL_law_1324 : decode cL_law 1324 = .ok (.i2l, 1) := by decide +kernel
theorem dL_law_1325 : decode cL_law 1325 = .ok (.lcmp, 1) := by decide +kernel
theorem dL_law_1326 : decode cL_law 1326 = .ok (.ifCond .eq 5, 3) := by decide +kernel
theorem dL_law_1329 : decode cL_law 1329 = .ok (.iconst 0, 1) := by decide +kernel
theorem dL_law_1330 : decode cL_law 1330 = .ok (.ireturn, 1) := by decide +kernel
theorem dL_law_1331 : decode cL_law 1331 = .ok (.goto 3, 3) := by decide +kernel
theorem dL_law_1334 : decode cL_law 1334 = .ok (.iinc 4 4, 3) := by decide +kernel
theorem dL_law_1337 : decode cL_law 1337 = .ok (.goto (-1314), 3) := by decide +kernel
theorem dL_law_1340 : decode cL_law 1340 = .ok (.iconst 1, 1) := by decide +kernel
theorem dL_law_1341 : decode cL_law 1341 = .ok (.ireturn, 1) := by decide +kernel
end
section
/-! The functional world: one map from addresses to tagged entities; an ArrayList with its array is one entity. -/
abbrev fw_T : Type := Nat × Nat × Nat
abbrev fw_E : Type := va_E ⊕ (Nat × Nat × (Nat → Nat))
abbrev fw_F : Type := Nat → Option (fw_T × fw_E)
abbrev fw_obj (ci : Nat) (fs : List Value) : fw_E := .inl (.inr (ci, fs))
abbrev fw_ia (cA : ClassId) (n : Nat) (f : Nat → Int32) : fw_E := .inl (.inl (cA, n, .inl f))
abbrev fw_la (cA : ClassId) (n : Nat) (f : Nat → Int64) : fw_E := .inl (.inl (cA, n, .inr (.inl f)))
abbrev fw_ls (arr n : Nat) (f : Nat → Nat) : fw_E := .inr (arr, n, f)
/-- the tables' environment: where classes and fields lie; the classes of int[], boolean[], Object[], long[]; the static empty array -/
abbrev fw_G : Type := va_G × (ClassId × ClassId × ClassId × ClassId) × Nat × Nat
abbrev fw_cI (G : fw_G) : ClassId := G.2.1.1
abbrev fw_cZ (G : fw_G) : ClassId := G.2.1.2.1
abbrev fw_cO (G : fw_G) : ClassId := G.2.1.2.2.1
abbrev fw_cJ (G : fw_G) : ClassId := G.2.1.2.2.2
abbrev fw_ea (G : fw_G) : Nat := G.2.2.1
abbrev fw_mi (G : fw_G) : Nat := G.2.2.2
/-- private members of nest mates that are called, and the texts of the exceptions -/
abbrev fw_nest : List (String × Nat × MethodName × String) := [(RX8, 30, yX7_init, RX8), (RX8, 41, yX3_init, RX8), (RX1, 16, yX8_commonDivisor, RX8)]
abbrev fw_strs : List (Nat × String) := [(59, "module, least or most is out of range"), (70, "there are 10 cutters"), (78, "module or teeth is out of range"), (84, "module, driver or driven is out of range"), (89, "the draft has 4 stages"), (105, "the draft is empty"), (107, "the draft has another distance"), (113, "a gear of the draft has no cutter"), (115, "there are 8 trains"), (246, "no such train"), (244, "turns is out of range"), (158, "there are 12 orders"), (172, "ticks is out of range"), (250, "no such machine"), (248, "no such order"), (200, "load or hours is out of range"), (206, "the order is not done, or broken"), (222, "no such stage"), (230, "module, above or below is out of range")]
abbrev fw_tys (G : fw_G) : List (ClassId × FieldType) := [(fw_cI G, .int), (fw_cZ G, .boolean), (fw_cO G, .object "java/lang/Object"), (fw_cJ G, .long)]
/-- a list's two cells -/
def fw_lc (G : fw_G) (H : Heap) (a arr n : Nat) (f : Nat → Nat) : Prop := ∃ (mc : Int32) (cap : Nat) (row : Nat → Option Nat), va_at G.1 vwCl (a, .inr (0, [.int mc, .ref arr, .int (nI n)])) H ∧ n ≤ cap ∧ cap ≤ 160 ∧ (∀ i, i < n → row i = some (f i)) ∧ (∀ i, n ≤ i → row i = none) ∧ ((arr = fw_ea G ∧ cap = 0) ∨ (arr ≠ fw_ea G ∧ va_at G.1 vwCl (arr, .inl (fw_cO G, cap, .inr (.inr (.inr (.inr row))))) H))
def fw_c (G : fw_G) (H : Heap) (a : Nat) (e : fw_E) : Prop := match e with
  | .inl x => va_at G.1 vwCl (a, x) H
  | .inr q => fw_lc G H a q.1 q.2.1 q.2.2
def fw_P (G : fw_G) (F : fw_F) (H : Heap) : Prop := (∀ a t e, F a = some (t, e) → fw_c G H a e) ∧ (∀ a t arr n f, F a = some (t, fw_ls arr n f) → arr ≠ fw_ea G → F arr = none ∧ ∀ a' t' n' f', F a' = some (t', fw_ls arr n' f') → a' = a) ∧ (∀ a t arr n f, F a = some (t, fw_ls arr n f) → ∀ i, i < n → ∃ t' ci fs, F (f i) = some (t', fw_obj ci fs))
/-- what a method may write: its world's cells, and new ones -/
def fw_W (G : fw_G) (F : fw_F) (sz : Nat) (q : Nat) : Prop := (∃ x, F q = some x) ∨ (∃ a t n f, F a = some (t, fw_ls q n f) ∧ q ≠ fw_ea G) ∨ sz ≤ q
/-- the statics, strings and tables that methods read -/
def fw_Zv (G : fw_G) (U : State) : Prop := (∀ (ci : Nat) (q : vw_C), vwCl[ci]? = some q → va_Nw (.castable q.1 "java/lang/Object") U) ∧ (∀ q ∈ fw_nest, va_Nw (.methodLinkNest q.1 q.2.1 q.2.2.1 q.2.2.2) U) ∧ (∀ q ∈ fw_strs, ∃ a, vk_R RX8 q.1 q.2 a U) ∧ va_Mi "[Ljava/lang/Object;" (fw_mi G) U ∧ va_Dc U ∧ va_AO "java/lang/Object" U
theorem fw_Zv.to {G : fw_G} {s U : State} (h : fw_Zv G s) (hW : s.WarmedH U.vm) : fw_Zv G U := by
  refine ⟨fun ci q hc => va_Nw.warmC hW (h.1 ci q hc), fun q hq => va_Nw.warmM hW (h.2.1 q hq), fun q hq => ?_, h.2.2.2.1.moved hW.alike, h.2.2.2.2.1.moved hW.alike, h.2.2.2.2.2.moved hW.alike⟩
  obtain ⟨a, ha⟩ := h.2.2.1 q hq
  exact ⟨a, ha.warm hW⟩
def fw_Z (G : fw_G) (A : Nat → Prop) (U : State) (H : Heap) : Prop :=
  va_K G.1 vwCl (fw_tys G) U ∧ va_Z "java/util/ArrayList" "DEFAULTCAPACITY_EMPTY_ELEMENTDATA" "[Ljava/lang/Object;" (.ref (fw_ea G)) A U H ∧ va_T (.object "java/lang/Object") (fw_ea G) 0 (fun _ => .null) A U H ∧
  vx_Zq Bundle.tN "UNASSIGNED_STACK" Bundle.steD A U H ∧ vx_Zq Bundle.tN "SUPPRESSED_SENTINEL" Bundle.listD A U H ∧ fw_Zv G U
theorem fw_Z.to {G : fw_G} {A B : Nat → Prop} {s U : State} {H H1 : Heap} (h : fw_Z G A s H) (hW : s.WarmedH U.vm) (hq : ∀ a : Nat, a < H.size → ¬ A a → H1[a]? = H[a]?) (hAB : ∀ q, B q → A q) : fw_Z G B U H1 :=
  ⟨va_K.moved hW.alike h.1, ((h.2.1.moved hW.alike).kept hq).narrow hAB, ((h.2.2.1.moved hW.alike).kept hq).narrow hAB, ((h.2.2.2.1.moved hW.alike).kept hq).narrow hAB, ((h.2.2.2.2.1.moved hW.alike).kept hq).narrow hAB, h.2.2.2.2.2.to hW⟩
def fw_Pre (G : fw_G) (F : fw_F) (sz : Nat) (U : State) : Prop := U.heap.size = sz ∧ fw_P G F U.heap ∧ fw_Z G (fw_W G F sz) U U.heap
def fw_B (G : fw_G) (A : Nat → Prop) (F : fw_F) (t : State) : Prop := fw_P G F t.heap ∧ ∀ q, fw_W G F t.heap.size q → A q
/-- where a walk stands -/
def fw_S (G : fw_G) (A : Nat → Prop) (s : State) (F : fw_F) (H : Heap) (locs : List Loc) : Prop := fw_P G F H ∧ va_S A s.heap H locs ∧ ∀ q, fw_W G F H.size q → A q
theorem fw_at_lt {G : fw_G} {H : Heap} {a : Nat} {e : fw_E} (h : fw_c G H a e) : a < H.size := by
  cases e with
  | inl x => exact va_at.lt h
  | inr q =>
    obtain ⟨mc, cap, row, h1, -⟩ := h
    exact va_at.lt h1
theorem fw_arr_lt {G : fw_G} {H : Heap} {a arr n : Nat} {f : Nat → Nat} (h : fw_lc G H a arr n f) (hne : arr ≠ fw_ea G) : arr < H.size := by
  obtain ⟨mc, cap, row, -, -, -, -, -, h1⟩ := h
  rcases h1 with h1 | h1
  · exact absurd h1.1 hne
  · exact va_at.lt h1.2
theorem fw_c_kept {G : fw_G} {H H1 : Heap} {a : Nat} {e : fw_E} (h : fw_c G H a e) (h1 : H1[a]? = H[a]?) (h2 : ∀ arr n f, e = fw_ls arr n f → arr ≠ fw_ea G → H1[arr]? = H[arr]?) : fw_c G H1 a e := by
  cases e with
  | inl x => exact va_at.kept h h1
  | inr q =>
    obtain ⟨arr, n, f⟩ := q
    obtain ⟨mc, cap, row, g1, g2, g3, g4, g5, g6⟩ := h
    refine ⟨mc, cap, row, va_at.kept g1 h1, g2, g3, g4, g5, ?_⟩
    rcases g6 with g6 | g6
    · exact Or.inl g6
    · exact Or.inr ⟨g6.1, va_at.kept g6.2 (h2 arr n f rfl g6.1)⟩
/-- behind a write outside of the world's own cells -/
theorem fw_P_kept {G : fw_G} {F : fw_F} {H H1 : Heap} (h : fw_P G F H) (hq : ∀ q, q < H.size → ((∃ x, F q = some x) ∨ (∃ a t n f, F a = some (t, fw_ls q n f) ∧ q ≠ fw_ea G)) → H1[q]? = H[q]?) : fw_P G F H1 := by
  refine ⟨fun a t e he => ?_, h.2⟩
  have hc := h.1 a t e he
  refine fw_c_kept hc (hq a (fw_at_lt hc) (Or.inl ⟨_, he⟩)) (fun arr n f hf hne => ?_)
  subst hf
  exact hq arr (fw_arr_lt hc hne) (Or.inr ⟨a, t, n, f, he, hne⟩)
theorem fw_up_self {F : fw_F} {a : Nat} {x : fw_T × fw_E} : va_up F a (some x) a = some x := va_up_self F a _
theorem fw_up_tag {F : fw_F} {a b : Nat} {t t' u : fw_T} {e e' d : fw_E} (hb : F b = some (t', e')) (ha : F a = some (t, e)) (hne : t' ≠ t) : va_up F a (some (u, d)) b = some (t', e') := by
  rw [va_up_ne F _ (fun h => hne (by rw [h, ha] at hb; cases hb; rfl))]
  exact hb
theorem fw_up_new {F : fw_F} {q b : Nat} {x y : fw_T × fw_E} (hb : F b = some y) (hq : F q = none) : va_up F q (some x) b = some y := by
  rw [va_up_ne F _ (fun h => by rw [h, hq] at hb; cases hb)]
  exact hb
/-- an object's or array's cell gets another content (of its kind) -/
theorem fw_P_set {G : fw_G} {F : fw_F} {H H1 : Heap} {a : Nat} {t u : fw_T} {x y : va_E} (h : fw_P G F H) (ha : F a = some (t, .inl x)) (hy : va_at G.1 vwCl (a, y) H1) (oq : ∀ q : Nat, q ≠ a → H1[q]? = H[q]?) (hk : ∀ ci fs, x = .inr (ci, fs) → ∃ ci' fs', y = .inr (ci', fs')) : fw_P G (va_up F a (some (u, .inl y))) H1 := by
  have hls : ∀ b t' arr n f, va_up F a (some (u, .inl y)) b = some (t', fw_ls arr n f) → F b = some (t', fw_ls arr n f) := by
    intro b t' arr n f hb
    by_cases hba : b = a
    · subst hba
      rw [va_up_self] at hb
      cases hb
    · rwa [va_up_ne F _ hba] at hb
  refine ⟨fun b t' e hb => ?_, fun b t' arr n f hb hne => ?_, fun b t' arr n f hb i hi => ?_⟩
  · by_cases hba : b = a
    · subst hba
      rw [va_up_self] at hb
      cases hb
      exact hy
    · rw [va_up_ne F _ hba] at hb
      refine fw_c_kept (h.1 b t' e hb) (oq b hba) (fun arr n f he hne => oq arr ?_)
      subst he
      intro h9
      have h8 := (h.2.1 b t' arr n f hb hne).1
      rw [h9, ha] at h8
      cases h8
  · have hb' := hls b t' arr n f hb
    obtain ⟨h1, h2⟩ := h.2.1 b t' arr n f hb' hne
    refine ⟨?_, fun a' t'' n' f' h9 => h2 a' t'' n' f' (hls a' t'' arr n' f' h9)⟩
    rw [va_up_ne F _ (fun h9 => by rw [h9, ha] at h1; cases h1)]
    exact h1
  · obtain ⟨t1, ci, fs, h1⟩ := h.2.2 b t' arr n f (hls b t' arr n f hb) i hi
    by_cases hba : f i = a
    · rw [hba, ha] at h1
      cases h1
      obtain ⟨ci', fs', rfl⟩ := hk ci fs rfl
      exact ⟨u, ci', fs', by rw [hba, va_up_self]⟩
    · exact ⟨t1, ci, fs, by rw [va_up_ne F _ hba]; exact h1⟩
/-- a fresh cell -/
theorem fw_P_new {G : fw_G} {F : fw_F} {H H1 : Heap} {u : fw_T} {y : va_E} (h : fw_P G F H) (hy : va_at G.1 vwCl (H.size, y) H1) (oq : ∀ q : Nat, q < H.size → H1[q]? = H[q]?) : F H.size = none ∧ fw_P G (va_up F H.size (some (u, .inl y))) H1 := by
  have hn : F H.size = none := by
    cases hF : F H.size with
    | none => rfl
    | some z => exact absurd (fw_at_lt (h.1 _ z.1 z.2 hF)) (Nat.lt_irrefl _)
  have hls : ∀ b t' arr n f, va_up F H.size (some (u, .inl y)) b = some (t', fw_ls arr n f) → F b = some (t', fw_ls arr n f) := by
    intro b t' arr n f hb
    by_cases hba : b = H.size
    · subst hba
      rw [va_up_self] at hb
      cases hb
    · rwa [va_up_ne F _ hba] at hb
  refine ⟨hn, fun b t' e hb => ?_, fun b t' arr n f hb hne => ?_, fun b t' arr n f hb i hi => ?_⟩
  · by_cases hba : b = H.size
    · subst hba
      rw [va_up_self] at hb
      cases hb
      exact hy
    · rw [va_up_ne F _ hba] at hb
      have hc := h.1 b t' e hb
      refine fw_c_kept hc (oq b (fw_at_lt hc)) (fun arr n f he hne => ?_)
      subst he
      exact oq arr (fw_arr_lt hc hne)
  · have hb' := hls b t' arr n f hb
    obtain ⟨h1, h2⟩ := h.2.1 b t' arr n f hb' hne
    refine ⟨?_, fun a' t'' n' f' h9 => h2 a' t'' n' f' (hls a' t'' arr n' f' h9)⟩
    rw [va_up_ne F _ (Nat.ne_of_lt (fw_arr_lt (h.1 _ _ _ hb') hne))]
    exact h1
  · obtain ⟨t1, ci, fs, h1⟩ := h.2.2 b t' arr n f (hls b t' arr n f hb) i hi
    exact ⟨t1, ci, fs, fw_up_new h1 hn⟩
theorem fw_W_set {G : fw_G} {F : fw_F} {a : Nat} {t u : fw_T} {x y : va_E} {sz : Nat} (ha : F a = some (t, .inl x)) : ∀ q, fw_W G (va_up F a (some (u, .inl y))) sz q → fw_W G F sz q := by
  intro q h
  rcases h with ⟨z, h⟩ | ⟨b, t', n, f, h, hne⟩ | h
  · by_cases hq : q = a
    · exact Or.inl ⟨_, by rw [hq]; exact ha⟩
    · rw [va_up_ne F _ hq] at h
      exact Or.inl ⟨z, h⟩
  · refine Or.inr (Or.inl ⟨b, t', n, f, ?_, hne⟩)
    by_cases hq : b = a
    · rw [hq, va_up_self] at h
      cases h
    · rwa [va_up_ne F _ hq] at h
  · exact Or.inr (Or.inr h)
theorem fw_W_new {G : fw_G} {F : fw_F} {a : Nat} {u : fw_T} {y : va_E} {sz sz1 : Nat} (h1 : sz ≤ sz1) (h2 : sz ≤ a) : ∀ q, fw_W G (va_up F a (some (u, .inl y))) sz1 q → fw_W G F sz q := by
  intro q h
  rcases h with ⟨z, h⟩ | ⟨b, t', n, f, h, hne⟩ | h
  · by_cases hq : q = a
    · exact Or.inr (Or.inr (by omega))
    · rw [va_up_ne F _ hq] at h
      exact Or.inl ⟨z, h⟩
  · refine Or.inr (Or.inl ⟨b, t', n, f, ?_, hne⟩)
    by_cases hq : b = a
    · rw [hq, va_up_self] at h
      cases h
    · rwa [va_up_ne F _ hq] at h
  · exact Or.inr (Or.inr (by omega))
theorem fw_W_more {G : fw_G} {F : fw_F} {sz sz1 : Nat} (h1 : sz ≤ sz1) : ∀ q, fw_W G F sz1 q → fw_W G F sz q := by
  intro q h
  rcases h with h | h | h
  · exact Or.inl h
  · exact Or.inr (Or.inl h)
  · exact Or.inr (Or.inr (by omega))
/-- a tag is another: nothing of the heap changes -/
theorem fw_retag {G : fw_G} {F : fw_F} {H : Heap} {a : Nat} {t u : fw_T} {e : fw_E} (h : fw_P G F H) (ha : F a = some (t, e)) : fw_P G (va_up F a (some (u, e))) H := by
  have hls : ∀ b t' e', va_up F a (some (u, e)) b = some (t', e') → ∃ t0, F b = some (t0, e') := by
    intro b t' e' hb
    by_cases hba : b = a
    · subst hba
      rw [va_up_self] at hb
      cases hb
      exact ⟨_, ha⟩
    · rw [va_up_ne F _ hba] at hb
      exact ⟨_, hb⟩
  refine ⟨fun b t' e' hb => ?_, fun b t' arr n f hb hne => ?_, fun b t' arr n f hb i hi => ?_⟩
  · obtain ⟨t0, h0⟩ := hls b t' e' hb
    exact h.1 b t0 e' h0
  · obtain ⟨t0, h0⟩ := hls b t' _ hb
    obtain ⟨h1, h2⟩ := h.2.1 b t0 arr n f h0 hne
    refine ⟨?_, fun a' t'' n' f' h9 => ?_⟩
    · rw [va_up_ne F _ (fun h9 => by rw [h9, ha] at h1; cases h1)]
      exact h1
    · obtain ⟨t9, h8⟩ := hls a' t'' _ h9
      exact h2 a' t9 n' f' h8
  · obtain ⟨t0, h0⟩ := hls b t' _ hb
    obtain ⟨t1, ci, fs, h1⟩ := h.2.2 b t0 arr n f h0 i hi
    by_cases hba : f i = a
    · rw [hba, ha] at h1
      cases h1
      exact ⟨u, ci, fs, by rw [hba, va_up_self]⟩
    · exact ⟨t1, ci, fs, by rw [va_up_ne F _ hba]; exact h1⟩
theorem fw_W_retag {G : fw_G} {F : fw_F} {a : Nat} {t u : fw_T} {e : fw_E} {sz : Nat} (ha : F a = some (t, e)) : ∀ q, fw_W G (va_up F a (some (u, e))) sz q → fw_W G F sz q := by
  intro q h
  rcases h with ⟨z, h⟩ | ⟨b, t', n, f, h, hne⟩ | h
  · by_cases hq : q = a
    · exact Or.inl ⟨_, by rw [hq]; exact ha⟩
    · rw [va_up_ne F _ hq] at h
      exact Or.inl ⟨z, h⟩
  · by_cases hq : b = a
    · rw [hq, va_up_self] at h
      cases h
      exact Or.inr (Or.inl ⟨a, t, n, f, ha, hne⟩)
    · rw [va_up_ne F _ hq] at h
      exact Or.inr (Or.inl ⟨b, t', n, f, h, hne⟩)
  · exact Or.inr (Or.inr h)
theorem fw_S.retag {G : fw_G} {A : Nat → Prop} {s : State} {F : fw_F} {H : Heap} {locs : List Loc} {a : Nat} {t : fw_T} {e : fw_E} (h : fw_S G A s F H locs) (u : fw_T) (ha : F a = some (t, e)) : fw_S G A s (va_up F a (some (u, e))) H locs := ⟨fw_retag h.1 ha, h.2.1, fun q hq => h.2.2 q (fw_W_retag ha q hq)⟩
theorem fw_S.start {G : fw_G} {s : State} {F : fw_F} (h : fw_P G F s.heap) : fw_S G (fw_W G F s.heap.size) s F s.heap [] := ⟨h, va_S.rf, fun _ h => h⟩
theorem fw_S.at {G : fw_G} {A : Nat → Prop} {s : State} {F : fw_F} {H : Heap} {locs : List Loc} {a : Nat} {t : fw_T} {x : va_E} (h : fw_S G A s F H locs) (ha : F a = some (t, .inl x)) : va_P G.1 vwCl [(a, x)] H := by
  intro k q hk
  cases k with
  | zero => cases hk; exact h.1.1 a t _ ha
  | succ k => cases hk
theorem fw_S.inA {G : fw_G} {A : Nat → Prop} {s : State} {F : fw_F} {H : Heap} {locs : List Loc} {a : Nat} {x : fw_T × fw_E} (h : fw_S G A s F H locs) (ha : F a = some x) : A a := h.2.2 a (Or.inl ⟨_, ha⟩)
end
section
/-! The kit's rows over the functional world. -/
section FWR
variable {p : Program} {l : Launch} {e : Env} {R : Room} {s : State} {m : MethodId} {args : Array Value} {below : List Frame} {meth : Method} {c : Code} {H : Heap} {locs : List Loc} {cells slots : Nat} {Q : State → Prop}
variable {cc : ByteArray} {pc : Nat} {ls : Array Slot} {rest : List Value} {G : fw_G} {A : Nat → Prop} {a : Nat} {F : fw_F} {t : fw_T}
theorem fw_get (hexec : p.tables.exec = Jvm.exec) (hb : c.code = cc) {own ref C : String} {T : u_T} {N ci index : Nat} {Ts : List Cond} (hts : ∀ w ∈ Ts, w.before args s = true) (hin : ∀ w ∈ u_ws C T N, w ∈ Ts) (hown : s.vm.findClass own = some m.cls) (hz : fw_Z G A s s.heap) (hw : fw_S G A s F H locs) {fs : List Value} (he : F a = some (t, fw_obj ci fs)) (hc : vwCl[ci]? = some (C, T, N)) (k : Nat) (hk : k < N) (hlink : (Cond.fieldLink own index ref (T k).2.1 (T k).2.2.1).before args s = true) (hsame : ∀ x, s.fieldFound? (T k).1 (T k).2.1 (T k).2.2.1 = some x → s.fieldFound? ref (T k).2.1 (T k).2.2.1 = some x) {v : Value} (hv : fs[k]? = some v) (hdg : decode cc pc = .ok (.getfield index, 3))
    (kk : W p l e R s m args below meth c H locs cells slots Q (F0 m (pc + 3) ls (v :: rest))) : W p l e R s m args below meth c H locs cells slots Q (F0 m pc ls (.ref a :: rest)) :=
  va_get hexec hb hts hin hown hz.1 (hw.at he) 0 rfl hc k hk hlink hsame hv hdg kk
theorem fw_at_obj {cell : Cell} {ci : Nat} {fs : List Value} {r : vw_C} {H : Heap} (hc : vwCl[ci]? = some r) (h1 : H[a]? = some cell) (h2 : cell.cls = G.1.1 ci) (h3 : cell.vm = .none) (h4 : ∀ k, k < r.2.2 → cell.slots[G.1.2 ci k]? = some (vp_V fs k)) : va_at G.1 vwCl (a, .inr (ci, fs)) H := ⟨r, hc, cell, h1, h2, h3, h4⟩
/-- a write at one cell -/
theorem fw_S.set {H1 : Heap} {t u : fw_T} {x y : va_E} {k : Nat} (hw : fw_S G A s F H locs) (ha : F a = some (t, .inl x)) (hy : va_at G.1 vwCl (a, y) H1) (z : H1.size = H.size) (oq : ∀ q : Nat, q ≠ a → H1[q]? = H[q]?) (hk : ∀ ci fs, x = .inr (ci, fs) → ∃ ci' fs', y = .inr (ci', fs')) : fw_S G A s (va_up F a (some (u, .inl y))) H1 (locs ++ [⟨a, k⟩]) :=
  ⟨fw_P_set hw.1 ha hy oq hk, hw.2.1.put z oq (hw.inA ha), fun q hq => hw.2.2 q (by rw [z] at hq; exact fw_W_set ha q hq)⟩
theorem fw_S.new {H1 : Heap} {y : va_E} (u : fw_T) (hw : fw_S G A s F H locs) (hA : ∀ q, s.heap.size ≤ q → A q) (hy : va_at G.1 vwCl (H.size, y) H1) (z : H1.size = H.size + 1) (oq : ∀ q : Nat, q < H.size → H1[q]? = H[q]?) : F H.size = none ∧ fw_S G A s (va_up F H.size (some (u, .inl y))) H1 locs := by
  obtain ⟨h1, h2⟩ := fw_P_new (u := u) hw.1 hy oq
  refine ⟨h1, h2, ⟨Nat.le_trans hw.2.1.1 (by omega), fun q g1 g2 => ?_, hw.2.1.2.2⟩, fun q hq => hw.2.2 q (fw_W_new (by omega) (Nat.le_refl _) q hq)⟩
  rw [oq q (Nat.lt_of_lt_of_le g1 hw.2.1.1)]
  exact hw.2.1.2.1 q g1 g2
theorem fw_put (hexec : p.tables.exec = Jvm.exec) (hb : c.code = cc) {own ref C : String} {T : u_T} {N ci index : Nat} {Ts : List Cond} (hts : ∀ w ∈ Ts, w.before args s = true) (hin : ∀ w ∈ u_ws C T N, w ∈ Ts) (ty0 : Nat → FieldType) (hty : ∀ k, k < N → parseFieldDescriptor (T k).2.2.1 = some (ty0 k)) (hnm : ∀ a, a < N → ∀ b, b < N → a ≠ b → (T a).2.1 ≠ (T b).2.1) (hown : s.vm.findClass own = some m.cls) (hz : fw_Z G A s s.heap) (hw : fw_S G A s F H locs) {fs fs' : List Value} (he : F a = some (t, fw_obj ci fs)) (hc : vwCl[ci]? = some (C, T, N)) (k : Nat) (hk : k < N) (hlink : (Cond.fieldLink own index ref (T k).2.1 (T k).2.2.1).before args s = true) (hsame : ∀ x, s.fieldFound? (T k).1 (T k).2.1 (T k).2.2.1 = some x → s.fieldFound? ref (T k).2.1 (T k).2.2.1 = some x) (hfin : (T k).2.2.2 = false) {ty : FieldType} {v : Value} (hd : parseFieldDescriptor (T k).2.2.1 = some ty) (hn : narrow ty v = v) (hfit : fits ty v = true) (hl : k < fs.length) (hfs : fs.set k v = fs')
    (hdg : decode cc pc = .ok (.putfield index, 3)) (kk : ∀ (H1 : Heap) (locs1 : List Loc), fw_S G A s (va_up F a (some (t, fw_obj ci fs'))) H1 locs1 → W p l e R s m args below meth c H1 locs1 cells slots Q (F0 m (pc + 3) ls rest)) : W p l e R s m args below meth c H locs cells slots Q (F0 m pc ls (v :: .ref a :: rest)) := by
  subst hfs
  have hap := va_apart (own := own) hts hin ty0 hty hnm hz.1 hc
  obtain ⟨r, h1, cell, q1, q2, q3, q4⟩ := hw.at he 0 _ rfl
  have hr : r = (C, T, N) := Option.some.inj (h1.symm.trans hc)
  subst hr
  obtain ⟨hS, hfc, kC, hkC, hkind⟩ := hz.1.1 ci _ hc
  obtain ⟨cf, kf, fi, f, hi, hsl⟩ := hS k hk
  have hlay := hts _ (hin _ (u_in_lay hk))
  unfold u_lay at hlay
  rw [if_neg (by rw [hfin]; decide)] at hlay
  have hst := (u_facts hfc hkC (u_lays hts hin hk) hi).1
  have h6 := u_store hfc hkC hkind hlay hi hd hn hfit
  refine W.putK hexec hb (f := f) ⟨hown, hlink, ⟨_, _, _, hsame _ hi⟩, hst⟩ (by rw [q2]; exact h6) q1 q3 (by rw [hsl]; exact k2_hasslot (q4 k hk)) rfl rfl hdg fun H' e1 e2 e3 => ?_
  rw [hsl] at e1 ⊢
  exact kk H' _ (hw.set he ⟨_, hc, t_OB.to (V := updV (vp_V fs) k v) ⟨_, e1, q2, q3, t_set q4 hap hk v⟩ (fun j _ => vp_updV_set hl v j)⟩ e2 e3 (fun _ _ _ => ⟨_, _, rfl⟩))
theorem fw_putF (hexec : p.tables.exec = Jvm.exec) (hb : c.code = cc) {own ref C : String} {T : u_T} {N ci index : Nat} {Ts : List Cond} (hts : ∀ w ∈ Ts, w.before args s = true) (hin : ∀ w ∈ u_ws C T N, w ∈ Ts) (ty0 : Nat → FieldType) (hty : ∀ k, k < N → parseFieldDescriptor (T k).2.2.1 = some (ty0 k)) (hnm : ∀ a, a < N → ∀ b, b < N → a ≠ b → (T a).2.1 ≠ (T b).2.1) (hown : s.vm.findClass own = some m.cls) (hz : fw_Z G A s s.heap) (hw : fw_S G A s F H locs) {fs fs' : List Value} (he : F a = some (t, fw_obj ci fs)) (hc : vwCl[ci]? = some (C, T, N)) (k : Nat) (hk : k < N) (hlink : (Cond.fieldLink own index ref (T k).2.1 (T k).2.2.1).before args s = true) (hsame : ∀ x, s.fieldFound? (T k).1 (T k).2.1 (T k).2.2.1 = some x → s.fieldFound? ref (T k).2.1 (T k).2.2.1 = some x) (hfin : (T k).2.2.2 = true) (hin2 : meth.name = "<init>") (hdecl : (T k).1 = own) {ty : FieldType} {v : Value} (hd : parseFieldDescriptor (T k).2.2.1 = some ty) (hn : narrow ty v = v) (hfit : fits ty v = true) (hl : k < fs.length) (hfs : fs.set k v = fs')
    (hdg : decode cc pc = .ok (.putfield index, 3)) (kk : ∀ (H1 : Heap) (locs1 : List Loc), fw_S G A s (va_up F a (some (t, fw_obj ci fs'))) H1 locs1 → W p l e R s m args below meth c H1 locs1 cells slots Q (F0 m (pc + 3) ls rest)) : W p l e R s m args below meth c H locs cells slots Q (F0 m pc ls (v :: .ref a :: rest)) := by
  subst hfs
  have hap := va_apart (own := own) hts hin ty0 hty hnm hz.1 hc
  obtain ⟨r, h1, cell, q1, q2, q3, q4⟩ := hw.at he 0 _ rfl
  have hr : r = (C, T, N) := Option.some.inj (h1.symm.trans hc)
  subst hr
  obtain ⟨hS, hfc, kC, hkC, hkind⟩ := hz.1.1 ci _ hc
  obtain ⟨cf, kf, fi, f, hi, hsl⟩ := hS k hk
  have hlay := hts _ (hin _ (u_in_lay hk))
  unfold u_lay at hlay
  rw [if_pos hfin] at hlay
  have hst := (u_facts hfc hkC (u_lays hts hin hk) hi).1
  have hcf : m.cls = cf := by
    obtain ⟨_, _, c', _, _, _, -, -, hf', -, -, -, hown2, -⟩ := Cond.laysFinal_spec hlay
    have e1 : c' = cf := by have := hi.symm.trans hf'; simp at this; exact this.1.symm
    rw [hdecl] at hown2
    rw [← e1]; exact Option.some.inj (hown.symm.trans hown2)
  have h6 := u_fits hfc hkC hkind (Or.inr hlay) hi hd hn hfit
  refine W.putFinK hexec hb hown hlink (hsame _ hi) hst hcf hin2 (by rw [q2]; exact h6) q1 q3 (by rw [hsl]; exact k2_hasslot (q4 k hk)) rfl rfl hdg fun H' e1 e2 e3 => ?_
  rw [hsl] at e1 ⊢
  exact kk H' _ (hw.set he ⟨_, hc, t_OB.to (V := updV (vp_V fs) k v) ⟨_, e1, q2, q3, t_set q4 hap hk v⟩ (fun j _ => vp_updV_set hl v j)⟩ e2 e3 (fun _ _ _ => ⟨_, _, rfl⟩))
theorem fw_new (u : fw_T) {c0 : Code} (hexec : p.tables.exec = Jvm.exec) (hb : c0.code = cc) {own C : String} {T : u_T} {N ci index : Nat} {Ts : List Cond} (hts : ∀ w ∈ Ts, w.before args s = true) (hin : ∀ w ∈ u_ws C T N, w ∈ Ts) (ty : Nat → FieldType) (hty : ∀ k, k < N → parseFieldDescriptor (T k).2.2.1 = some (ty k)) (hown : s.vm.findClass own = some m.cls) (hcl : (Cond.classLink own index C).before args s = true) (hinst : (Cond.instantiable C N).before args s = true) (hini : (Cond.initialized C).before args s = true)
    (hz : fw_Z G A s s.heap) (hw : fw_S G A s F H locs) (hA : ∀ q, s.heap.size ≤ q → A q) (hc : vwCl[ci]? = some (C, T, N)) {fs : List Value} (hfs : ∀ j, j < N → defaultValue (ty j) = vp_V fs j) (hcells : cells + 1 ≤ R.cells) (hslots : slots + N ≤ R.slots) (hdg : decode cc pc = .ok (.new index, 3))
    (kk : ∀ (q : Nat) (H1 : Heap), F q = none → fw_S G A s (va_up F q (some (u, fw_obj ci fs))) H1 locs →
      W p l e R s m args below meth c0 H1 locs (cells + 1) (slots + N) Q (F0 m (pc + 3) ls (.ref q :: rest))) : W p l e R s m args below meth c0 H locs cells slots Q (F0 m pc ls rest) := by
  have hKn := hz.1.1 ci _ hc
  refine W.newcK hexec hb hown hcl hinst hini rfl hdg hcells hslots hKn.2.1 rfl fun H1 kC hkC e1 z1 o1 => ?_
  obtain ⟨g1, g2⟩ := hw.new (y := .inr (ci, fs)) u hA ⟨_, hc, (u_born ty hts hin hKn hkC e1 hty).to hfs⟩ z1 o1
  exact kk H.size H1 g1 g2
theorem fw_newa (u : fw_T) (hexec : p.tables.exec = Jvm.exec) (hb : c.code = cc) {atype : ArrayType} (harr : (Cond.arrayClass (newarray.typeOf atype)).before args s = true) {cA : ClassId} (hcA : ∀ cX : ClassId, s.vm.findClass ("[" ++ (newarray.typeOf atype).toString) = some cX → cX = cA)
    (hw : fw_S G A s F H locs) (hA : ∀ q, s.heap.size ≤ q → A q)
    {n : Int32} {N' : Nat} {a0 : vp_A} (ha : ∀ cA : ClassId, vp_cell cA a0 = arrV cA N' (fun _ => defaultValue (newarray.typeOf atype))) (hn : ¬ n < 0) (hN : n.toNatClampNeg = N') (hbytes : N' * componentBytes (newarray.typeOf atype) ≤ 536870912) (hcells : cells + 1 ≤ R.cells) (hslots : slots + N' ≤ R.slots) (hdg : decode cc pc = .ok (.newarray atype, 2))
    (kk : ∀ (q : Nat) (H1 : Heap), F q = none → fw_S G A s (va_up F q (some (u, .inl (.inl (cA, a0))))) H1 locs →
      W p l e R s m args below meth c H1 locs (cells + 1) (slots + N') Q (F0 m (pc + 2) ls (.ref q :: rest))) : W p l e R s m args below meth c H locs cells slots Q (F0 m pc ls (.int n :: rest)) := by
  refine va_newaK hexec hb harr rfl hdg rfl hn hN hbytes hcells hslots rfl fun H1 cX e1 z1 o1 hAr hNm => ?_
  obtain rfl := hcA cX hNm
  obtain ⟨g1, g2⟩ := hw.new (y := .inl (cX, a0)) u hA (show H1[H.size]? = some (vp_cell _ _) by rw [ha]; exact e1) z1 o1
  exact kk H.size H1 g1 g2
theorem fw_iald (hexec : p.tables.exec = Jvm.exec) (hb : c.code = cc) (hz : fw_Z G A s s.heap) (hw : fw_S G A s F H locs) {n : Nat} {f : Nat → Int32} (ha : F a = some (t, fw_ia (fw_cI G) n f)) {i : Int32} (hin : vp_in i n) (hdg : decode cc pc = .ok (.iaload, 1))
    (kk : W p l e R s m args below meth c H locs cells slots Q (F0 m (pc + 1) ls (.int (f i.toNatClampNeg) :: rest))) : W p l e R s m args below meth c H locs cells slots Q (F0 m pc ls (.int i :: .ref a :: rest)) :=
  va_iald hexec hb hz.1 (hw.at ha) 0 0 rfl rfl hin hdg kk
theorem fw_zald (hexec : p.tables.exec = Jvm.exec) (hb : c.code = cc) (hz : fw_Z G A s s.heap) (hw : fw_S G A s F H locs) {n : Nat} {f : Nat → Int32} (ha : F a = some (t, fw_ia (fw_cZ G) n f)) {i : Int32} (hin : vp_in i n) (hdg : decode cc pc = .ok (.baload, 1))
    (kk : W p l e R s m args below meth c H locs cells slots Q (F0 m (pc + 1) ls (.int (f i.toNatClampNeg) :: rest))) : W p l e R s m args below meth c H locs cells slots Q (F0 m pc ls (.int i :: .ref a :: rest)) :=
  va_zald hexec hb hz.1 (hw.at ha) 0 1 rfl rfl hin hdg kk
theorem fw_lald (hexec : p.tables.exec = Jvm.exec) (hb : c.code = cc) (hz : fw_Z G A s s.heap) (hw : fw_S G A s F H locs) {n : Nat} {f : Nat → Int64} (ha : F a = some (t, fw_la (fw_cJ G) n f)) {i : Int32} (hin : vp_in i n) (hdg : decode cc pc = .ok (.laload, 1))
    (kk : W p l e R s m args below meth c H locs cells slots Q (F0 m (pc + 1) ls (.long (f i.toNatClampNeg) :: rest))) : W p l e R s m args below meth c H locs cells slots Q (F0 m pc ls (.int i :: .ref a :: rest)) :=
  va_lald hexec hb hz.1 (hw.at ha) 0 3 rfl rfl hin hdg kk
theorem fw_iast (hexec : p.tables.exec = Jvm.exec) (hb : c.code = cc) (hz : fw_Z G A s s.heap) (hw : fw_S G A s F H locs) {n : Nat} {f : Nat → Int32} (ha : F a = some (t, fw_ia (fw_cI G) n f)) {i : Int32} {x : Int32} (hin : vp_in i n) (hdg : decode cc pc = .ok (.iastore, 1))
    (kk : ∀ (H1 : Heap) (locs1 : List Loc), fw_S G A s (va_up F a (some (t, fw_ia (fw_cI G) n (upd f i.toNatClampNeg x)))) H1 locs1 → W p l e R s m args below meth c H1 locs1 cells slots Q (F0 m (pc + 1) ls rest)) : W p l e R s m args below meth c H locs cells slots Q (F0 m pc ls (.int x :: .int i :: .ref a :: rest)) := by
  have hP := hw.at ha
  refine W.iast hexec hb (hP 0 _ rfl) ((hz.1.2 0 _ rfl).1 n (fun j => .int (f j))) (fun q => by cases q) (by show ¬ (i < 0 ∨ (arrV _ _ _).slots.size ≤ _); rw [arrV_size]; exact hin) rfl rfl hdg fun H1 e z oq => ?_
  refine kk H1 _ (hw.set ha ?_ z oq (fun _ _ h => by cases h))
  show H1[a]? = some (vp_cell _ _)
  rw [e]
  rw [vp_cell_i, vp_cell_i, arrV_store]
  congr 2
  funext q
  by_cases hq : q = i.toNatClampNeg
  · subst hq
    simp [updV, upd]
  · simp [updV, upd, hq]
theorem fw_zast (hexec : p.tables.exec = Jvm.exec) (hb : c.code = cc) (hz : fw_Z G A s s.heap) (hw : fw_S G A s F H locs) {n : Nat} {f : Nat → Int32} (ha : F a = some (t, fw_ia (fw_cZ G) n f)) {i : Int32} {x : Int32} (hin : vp_in i n) (hdg : decode cc pc = .ok (.bastore, 1))
    (kk : ∀ (H1 : Heap) (locs1 : List Loc), fw_S G A s (va_up F a (some (t, fw_ia (fw_cZ G) n (upd f i.toNatClampNeg (vp_nar .boolean x))))) H1 locs1 → W p l e R s m args below meth c H1 locs1 cells slots Q (F0 m (pc + 1) ls rest)) : W p l e R s m args below meth c H locs cells slots Q (F0 m pc ls (.int x :: .int i :: .ref a :: rest)) := by
  have hP := hw.at ha
  refine W.zast hexec hb (hP 0 _ rfl) ((hz.1.2 1 _ rfl).1 n (fun j => .int (f j))) (fun q => by cases q) (by show ¬ (i < 0 ∨ (arrV _ _ _).slots.size ≤ _); rw [arrV_size]; exact hin) rfl rfl hdg fun H1 e z oq => ?_
  refine kk H1 _ (hw.set ha ?_ z oq (fun _ _ h => by cases h))
  show H1[a]? = some (vp_cell _ _)
  rw [e]
  rw [vp_cell_i, vp_cell_i, arrV_store]
  congr 2
  funext q
  by_cases hq : q = i.toNatClampNeg
  · subst hq
    simp [updV, upd, vp_nar]
    try rfl
  · simp [updV, upd, hq]
theorem fw_last (hexec : p.tables.exec = Jvm.exec) (hb : c.code = cc) (hz : fw_Z G A s s.heap) (hw : fw_S G A s F H locs) {n : Nat} {f : Nat → Int64} (ha : F a = some (t, fw_la (fw_cJ G) n f)) {i : Int32} {x : Int64} (hin : vp_in i n) (hdg : decode cc pc = .ok (.lastore, 1))
    (kk : ∀ (H1 : Heap) (locs1 : List Loc), fw_S G A s (va_up F a (some (t, fw_la (fw_cJ G) n (vp_updL f i.toNatClampNeg x)))) H1 locs1 → W p l e R s m args below meth c H1 locs1 cells slots Q (F0 m (pc + 1) ls rest)) : W p l e R s m args below meth c H locs cells slots Q (F0 m pc ls (.long x :: .int i :: .ref a :: rest)) := by
  have hP := hw.at ha
  refine W.last hexec hb (hP 0 _ rfl) ((hz.1.2 3 _ rfl).1 n (fun j => .long (f j))) (fun q => by cases q) (by show ¬ (i < 0 ∨ (arrV _ _ _).slots.size ≤ _); rw [arrV_size]; exact hin) rfl rfl hdg fun H1 e z oq => ?_
  refine kk H1 _ (hw.set ha ?_ z oq (fun _ _ h => by cases h))
  show H1[a]? = some (vp_cell _ _)
  rw [e]
  rw [vp_cell_l, vp_cell_l, arrV_store]
  congr 2
  funext q
  by_cases hq : q = i.toNatClampNeg
  · subst hq
    simp [updV, vp_updL]
  · simp [updV, vp_updL, hq]
/-! the ends -/
theorem fw_end {v : Option Value} {post : fw_F → Prop} {Qc : Outcome → Prop} (hw : fw_S G A s F H locs) (hp : post F) : ∀ t : State, t.heap = H → s.WarmedH t.vm → ((∃ u : fw_F, post u ∧ fw_B G A u t) ∧ va_F A s t) := fun t ht _ => ⟨⟨F, hp, by rw [fw_B, ht]; exact ⟨hw.1, hw.2.2⟩⟩, hw.2.1.F ht⟩
theorem fw_iret {post : Int32 → fw_F → Prop} {v : Int32} (hexec : p.tables.exec = Jvm.exec) (hb : c.code = cc) (hr : meth.sig.returnType = some .int) (hlocks : meth.locks = false) {mc ms : Nat} (hc : cells ≤ mc) (hs : slots ≤ ms) (hw : fw_S G A s F H locs) (hdg : decode cc pc = .ok (.ireturn, 1)) (hp : post v F) :
    W p l e R s m args below meth c H locs cells slots (MQ below (va_Qi post (fw_B G A) A) args s mc ms A) (F0 m pc ls [.int v]) := by
  refine W.widen hc hs ?_
  exact W.iret hexec hb hr (fun t ht hW => ⟨⟨v, F, rfl, hp, by rw [fw_B, ht]; exact ⟨hw.1, hw.2.2⟩⟩, hw.2.1.F ht⟩) hw.2.1.2.2 hdg hlocks
theorem fw_zret {post : Int32 → fw_F → Prop} {v : Int32} (hexec : p.tables.exec = Jvm.exec) (hb : c.code = cc) (hr : meth.sig.returnType = some .boolean) (hn : narrow .boolean (.int v) = .int v) (hlocks : meth.locks = false) {mc ms : Nat} (hc : cells ≤ mc) (hs : slots ≤ ms) (hw : fw_S G A s F H locs) (hdg : decode cc pc = .ok (.ireturn, 1)) (hp : post v F) :
    W p l e R s m args below meth c H locs cells slots (MQ below (va_Qi post (fw_B G A) A) args s mc ms A) (F0 m pc ls [.int v]) := by
  refine W.widen hc hs ?_
  exact W.zret hexec hb hr hn (fun t ht hW => ⟨⟨v, F, rfl, hp, by rw [fw_B, ht]; exact ⟨hw.1, hw.2.2⟩⟩, hw.2.1.F ht⟩) hw.2.1.2.2 hdg hlocks
theorem fw_lret {post : Int64 → fw_F → Prop} {v : Int64} (hexec : p.tables.exec = Jvm.exec) (hb : c.code = cc) (hr : meth.sig.returnType = some .long) (hlocks : meth.locks = false) {mc ms : Nat} (hc : cells ≤ mc) (hs : slots ≤ ms) (hw : fw_S G A s F H locs) (hdg : decode cc pc = .ok (.lreturn, 1)) (hp : post v F) :
    W p l e R s m args below meth c H locs cells slots (MQ below (va_Ql post (fw_B G A) A) args s mc ms A) (F0 m pc ls [.long v]) := by
  refine W.widen hc hs ?_
  exact W.lret hexec hb hr (fun t ht hW => ⟨⟨v, F, rfl, hp, by rw [fw_B, ht]; exact ⟨hw.1, hw.2.2⟩⟩, hw.2.1.F ht⟩) hw.2.1.2.2 hdg hlocks
theorem fw_vret {post : fw_F → Prop} (hexec : p.tables.exec = Jvm.exec) (hb : c.code = cc) (hr : meth.sig.returnType = none) (hlocks : meth.locks = false) {mc ms : Nat} (hc : cells ≤ mc) (hs : slots ≤ ms) (hw : fw_S G A s F H locs) (hdg : decode cc pc = .ok (.return_, 1)) (hp : post F) :
    W p l e R s m args below meth c H locs cells slots (MQ below (va_Qv post (fw_B G A) A) args s mc ms A) (F0 m pc ls []) := by
  refine W.widen hc hs ?_
  exact W.vret hexec hb hr (fun t ht hW => ⟨⟨F, rfl, hp, by rw [fw_B, ht]; exact ⟨hw.1, hw.2.2⟩⟩, hw.2.1.F ht⟩) hw.2.1.2.2 hdg hlocks
/-- an answer that is a reference or null -/
def fw_Qo (post : Option Nat → fw_F → Prop) (B : fw_F → State → Prop) (A : Nat → Prop) : Array Value → State → Outcome → State → Prop := fun _ st oc t => (∃ (r : Option Nat) (u : fw_F), oc = .returned (some (va_rf r)) ∧ post r u ∧ B u t) ∧ va_F A st t
theorem fw_aret {post : Option Nat → fw_F → Prop} {v : Option Nat} {x : Value} {n : String} (hexec : p.tables.exec = Jvm.exec) (hb : c.code = cc) (hr : meth.sig.returnType = some (.object n)) (hlocks : meth.locks = false) {mc ms : Nat} (hc : cells ≤ mc) (hs : slots ≤ ms) (hw : fw_S G A s F H locs) (hdg : decode cc pc = .ok (.areturn, 1)) (hx : x = va_rf v) (hp : post v F) :
    W p l e R s m args below meth c H locs cells slots (MQ below (fw_Qo post (fw_B G A) A) args s mc ms A) (F0 m pc ls [x]) := by
  subst hx
  refine W.widen hc hs ?_
  refine W.aret hexec hb hr (Or.inl ⟨_, rfl⟩) ?_ (fun t ht hW => ⟨⟨v, F, rfl, hp, by rw [fw_B, ht]; exact ⟨hw.1, hw.2.2⟩⟩, hw.2.1.F ht⟩) hw.2.1.2.2 hdg hlocks
  cases v with
  | none => exact Or.inl rfl
  | some a => exact Or.inr ⟨a, rfl⟩
/-! calls -/
variable {y : MethodName} {bytes : ByteArray} {maxL nL mc ms n index : Nat} {ret : Option FieldType} {ws : List Cond} {rm : Room} {Ts : List Cond} {own C : String} {b : Addr} {As : List Value} {st0 : List Value}
abbrev fw_A (G : fw_G) (F : fw_F) (H : Heap) : Nat → Prop := fw_W G F H.size
theorem fw_S.stepA (hw : fw_S G A s F H locs) : (∀ q, q < H.size → fw_A G F H q → A q) ∧ ∀ q, fw_A G F H q → A q := ⟨fun q _ h => hw.2.2 q h, fun q h => hw.2.2 q h⟩
theorem fw_preS {as : List Value} (hz : fw_Z G A s s.heap) (hw : fw_S G A s F H locs) : PreS s H (va_Pc as (fw_Pre G F H.size)) as :=
  ⟨fun a U g mk q => ⟨q.1, q.2.1, q.2.2.1, q.2.2.2.to (State.WarmedH.refl U) (fun _ _ _ => rfl) (fun _ h => h)⟩, fun U hU hW => ⟨rfl, by rw [hU], by rw [hU]; exact hw.1, by rw [hU]; exact hz.to hW (fun q h1 h2 => hw.2.1.2.1 q h1 h2) hw.2.2⟩⟩
theorem fw_after {post : fw_F → Prop} {F1 : fw_F} {H1 : Heap} {locs1 : List Loc} {t : State} (hw : fw_S G A s F H locs) (ht : t.heap = H1) (hB : fw_B G (fw_A G F H) F1 t) (hS : va_S A s.heap H1 locs1) : fw_S G A s F1 H1 locs1 := by
  subst ht
  exact ⟨hB.1, hS, fun q hq => hw.2.2 q (hB.2 q hq)⟩
theorem fw_calli {post : Int32 → fw_F → Prop} {as : Array Value} (hr : va_Run p l e R s m args below meth c H locs cells slots mc ms (F0 m pc ls st0) rest (va_Qi post (fw_B G (fw_A G F H)) (fw_A G F H) as) (fw_A G F H)) (hw : fw_S G A s F H locs)
    (kk : ∀ (r : Int32) (F1 : fw_F) (H1 : Heap) (locs1 : List Loc), fw_S G A s F1 H1 locs1 → post r F1 → W p l e R s m args below meth c H1 locs1 (cells + mc) (slots + ms) Q (F0 m (pc + 3) ls (.int r :: rest))) : W p l e R s m args below meth c H locs cells slots Q (F0 m pc ls st0) :=
  va_calli hr hw.2.1 hw.stepA.1 hw.stepA.2 (fun r u t H1 locs1 ht _ hp hB _ _ hS => kk r u H1 locs1 (fw_after (post := post r) hw ht hB hS) hp)
theorem fw_calll {post : Int64 → fw_F → Prop} {as : Array Value} (hr : va_Run p l e R s m args below meth c H locs cells slots mc ms (F0 m pc ls st0) rest (va_Ql post (fw_B G (fw_A G F H)) (fw_A G F H) as) (fw_A G F H)) (hw : fw_S G A s F H locs)
    (kk : ∀ (r : Int64) (F1 : fw_F) (H1 : Heap) (locs1 : List Loc), fw_S G A s F1 H1 locs1 → post r F1 → W p l e R s m args below meth c H1 locs1 (cells + mc) (slots + ms) Q (F0 m (pc + 3) ls (.long r :: rest))) : W p l e R s m args below meth c H locs cells slots Q (F0 m pc ls st0) :=
  va_calll hr hw.2.1 hw.stepA.1 hw.stepA.2 (fun r u t H1 locs1 ht _ hp hB _ _ hS => kk r u H1 locs1 (fw_after (post := post r) hw ht hB hS) hp)
theorem fw_callv {post : fw_F → Prop} {as : Array Value} (hr : va_Run p l e R s m args below meth c H locs cells slots mc ms (F0 m pc ls st0) rest (va_Qv post (fw_B G (fw_A G F H)) (fw_A G F H) as) (fw_A G F H)) (hw : fw_S G A s F H locs)
    (kk : ∀ (F1 : fw_F) (H1 : Heap) (locs1 : List Loc), fw_S G A s F1 H1 locs1 → post F1 → W p l e R s m args below meth c H1 locs1 (cells + mc) (slots + ms) Q (F0 m (pc + 3) ls rest)) : W p l e R s m args below meth c H locs cells slots Q (F0 m pc ls st0) :=
  va_callv hr hw.2.1 hw.stepA.1 hw.stepA.2 (fun u t H1 locs1 ht _ hp hB _ _ hS => kk u H1 locs1 (fw_after (post := post) hw ht hB hS) hp)
theorem fw_callo {post : Option Nat → fw_F → Prop} {as : Array Value} (hr : va_Run p l e R s m args below meth c H locs cells slots mc ms (F0 m pc ls st0) rest (fw_Qo post (fw_B G (fw_A G F H)) (fw_A G F H) as) (fw_A G F H)) (hw : fw_S G A s F H locs)
    (kk : ∀ (r : Option Nat) (F1 : fw_F) (H1 : Heap) (locs1 : List Loc), fw_S G A s F1 H1 locs1 → post r F1 → W p l e R s m args below meth c H1 locs1 (cells + mc) (slots + ms) Q (F0 m (pc + 3) ls (va_rf r :: rest))) : W p l e R s m args below meth c H locs cells slots Q (F0 m pc ls st0) := by
  intro T hT X
  obtain ⟨v, st₀, t, T', L, h0, X', hL, e1, e2, ⟨⟨r, u, hv, hp, hb⟩, hz, hk⟩, st⟩ := hr T hT X
  cases hv
  rw [h0] at hz hk
  obtain ⟨t2, a1, b1⟩ := kk r u T'.heap (locs ++ L) (fw_after (post := post r) hw e1.symm hb ⟨Nat.le_trans hw.2.1.1 (by rw [e1]; exact hz), fun q h1 h2 => by rw [e1, hk q (Nat.lt_of_lt_of_le h1 hw.2.1.1) (fun z => h2 (hw.2.2 q z))]; exact hw.2.1.2.1 q h1 h2, fun q hq => by
      rcases List.mem_append.mp hq with h | h
      · exact hw.2.1.2.2 q h
      · exact hw.2.2 _ (hL q h)⟩) hp T' rfl X'
  exact ⟨t2, st t2 a1, b1⟩
theorem fw_rec (hz : fw_Z G A s s.heap) (hw : fw_S G A s F H locs) {ci : Nat} {fs : List Value} {q : vw_C} (hF : F b = some (t, fw_obj ci fs)) (hc : vwCl[ci]? = some q) : ∃ cell : Cell, H[b]? = some cell ∧ cell.vm.isStatics = false ∧ s.vm.findClass q.1 = some cell.cls := va_recv hz.1 (hw.at hF) hc (q0 := 0) rfl
theorem fw_recL (hz : fw_Z G A s s.heap) (hw : fw_S G A s F H locs) {arr k : Nat} {f : Nat → Nat} (hF : F b = some (t, fw_ls arr k f)) : ∃ cell : Cell, H[b]? = some cell ∧ cell.vm.isStatics = false ∧ s.vm.findClass RJx4a65c = some cell.cls := by
  obtain ⟨mc, cap, row, h1, -⟩ := hw.1.1 b t _ hF
  exact va_recv (q := (RJx4a65c, TJx4a65c, 3)) (ws := [(b, .inr (0, [.int mc, .ref arr, .int (nI k)]))]) (q0 := 0) (ci := 0) hz.1 (fun k q hk => by cases k with | zero => cases hk; exact h1 | succ k => cases hk) rfl rfl
theorem fw_runV {Qc : Array Value → State → Outcome → State → Prop} (S : CallFix p m c cc nL s args Ts own) (hz : fw_Z G A s s.heap) (hw : fw_S G A s F H locs) (hM : Met l y ws rm (va_Pc (.ref b :: As) (fw_Pre G F H.size)) Qc mc ms (fw_A G F H)) (cw : CallW R s args own C index y bytes maxL ret ws rm mc ms n)
    (hrec : ∃ cell : Cell, H[b]? = some cell ∧ cell.vm.isStatics = false ∧ s.vm.findClass C = some cell.cls) (hn : As.length = n) (hsize : ls.size = nL) (hstack : st0 = As.reverse ++ .ref b :: rest) (hW : (rest.map fun v => v.category).sum ≤ 8) (hdg : decode cc pc = .ok (.invokevirtual index, 3)) (hf : cells + mc ≤ R.cells ∧ slots + ms ≤ R.slots) :
    va_Run p l e R s m args below meth c H locs cells slots mc ms (F0 m pc ls st0) rest (Qc (Value.ref b :: As).toArray) (fw_A G F H) :=
  va_runV (rest := rest) S hM cw ⟨(fw_preS (as := .ref b :: As) hz hw).1, hrec, (fw_preS (as := .ref b :: As) hz hw).2⟩ rfl hn hsize hstack (lv_room (m := m) (pc := pc) (ls := ls) (rest := st0) hW) hdg hf
theorem fw_runS {Qc : Array Value → State → Outcome → State → Prop} (S : CallFix p m c cc nL s args Ts own) (hz : fw_Z G A s s.heap) (hw : fw_S G A s F H locs) (hM : Met l y ws rm (va_Pc As (fw_Pre G F H.size)) Qc mc ms (fw_A G F H)) (cw : CallB R s args own index y bytes maxL ret ws rm mc ms n ∧ (Cond.static y).before args s = true)
    (hn : As.length = n) (hsize : ls.size = nL) (hstack : st0 = As.reverse ++ rest) (hW : (rest.map fun v => v.category).sum ≤ 8) (hdg : decode cc pc = .ok (.invokestatic index, 3)) (hf : cells + mc ≤ R.cells ∧ slots + ms ≤ R.slots) :
    va_Run p l e R s m args below meth c H locs cells slots mc ms (F0 m pc ls st0) rest (Qc As.toArray) (fw_A G F H) :=
  va_runS (rest := rest) S hM cw (fw_preS hz hw) rfl hn hsize hstack (lv_room (m := m) (pc := pc) (ls := ls) (rest := st0) hW) hdg hf
theorem fw_runI {Qc : Array Value → State → Outcome → State → Prop} (S : CallFix p m c cc nL s args Ts own) (hz : fw_Z G A s s.heap) (hw : fw_S G A s F H locs) (hM : Met l y ws rm (va_Pc (.ref b :: As) (fw_Pre G F H.size)) Qc mc ms (fw_A G F H)) (cw : CallB R s args own index y bytes maxL none ws rm mc ms n ∧ y.name = "<init>" ∧ (Cond.instanceMethod y).before args s = true)
    (hn : As.length = n) (hsize : ls.size = nL) (hstack : st0 = As.reverse ++ .ref b :: rest) (hW : (rest.map fun v => v.category).sum ≤ 8) (hdg : decode cc pc = .ok (.invokespecial index, 3)) (hf : cells + mc ≤ R.cells ∧ slots + ms ≤ R.slots) :
    va_Run p l e R s m args below meth c H locs cells slots mc ms (F0 m pc ls st0) rest (Qc (Value.ref b :: As).toArray) (fw_A G F H) :=
  va_runI (rest := rest) S hM cw (fw_preS (as := .ref b :: As) hz hw) rfl hn hsize hstack (lv_room (m := m) (pc := pc) (ls := ls) (rest := st0) hW) hdg hf
end FWR
/-- a method's contract out of its walk -/
theorem fw_met {l : Launch} {y : MethodName} {rm : Room} {Qc : Array Value → State → Outcome → State → Prop} {mc ms : Nat} {cc : ByteArray} {maxL : Nat} {ret : Option FieldType} {G : fw_G} {F : fw_F} {sz : Nat} {As : List Value} {lv : List (Nat × Value)}
    (hy : plainName y.cls = true) (hlen : (lg_sl As).length ≤ maxL) (hlv : lv_args 0 As = lv)
    (body : ∀ (A : Nat → Prop), A = fw_W G F sz → ∀ (p : Program) (e : Env) (s : State) (m : MethodId) (below : List Frame) (meth : Method) (c : Code) (ls : Array Slot), p.tables.exec = Jvm.exec → c.code = cc → c.maxLocals = maxL → s.vm.findClass y.cls = some m.cls → (∀ w ∈ fw_tb, w.before As.toArray s = true) → meth.sig.returnType = ret → meth.locks = false → (y.name = "<init>" → meth.name = "<init>") → fw_Z G A s s.heap → s.heap.size = sz → fw_S G A s F s.heap [] → (∀ q, s.heap.size ≤ q → A q) → lv_has ls maxL lv →
      W p l e rm s m As.toArray below meth c s.heap [] 0 0 (MQ below Qc As.toArray s mc ms A) (F0 m 0 ls [])) : Met l y (fw_ws y cc maxL ret) rm (va_Pc As (fw_Pre G F sz)) Qc mc ms (fw_W G F sz) := by
  refine Met.ofW (cc := cc) (maxL := maxL) (ret := ret) hy rfl ?_
  intro p e s m args below meth c s₁ B hml hv
  obtain ⟨rfl, hsz, hP, hZ⟩ := hv
  subst hsz
  have hl := lv_entry As (n := maxL) hlen
  rw [lg_entry_eq]
  generalize (lg_sl As ++ List.replicate (maxL - (lg_sl As).length) Slot.unset).toArray = ls at hl ⊢
  rw [hlv] at hl
  exact body _ rfl p e s m below meth c ls B.exec B.bytes hml (findClass_of_methodNamed B.named) (fun w hw => atoms_spec (ws := fw_ws y cc maxL ret) B.pre w (List.mem_cons_of_mem _ hw)) B.returns B.notSynchronized (fun hn => by rw [← hn]; exact (name_of_methodNamed B.named B.method).1) hZ rfl (fw_S.start hP) (fun q hq => Or.inr (Or.inr hq)) hl
theorem fw_cwV {R : Room} {s : State} {args : Array Value} {own C : String} {index maxL mc ms n : Nat} {y : MethodName} {bytes : ByteArray} {ret : Option FieldType} {rm : Room} (ht : ∀ w ∈ fw_tb, w.before args s = true) (hl : Cond.methodLink own index y ∈ fw_tb) (h : fw_yV C y bytes maxL ret n) (hrc : rm.cells = mc) (hrs : rm.slots = ms) (hR : rm.frames + 1 ≤ R.frames ∧ 8 + (maxL + 11) + rm.locals ≤ R.locals) : CallW R s args own C index y bytes maxL ret (fw_ws y bytes maxL ret) rm mc ms n := cwV n ht (fw_gV hl h) rfl hrc hrs h.2.2.2.2 hR
theorem fw_cwS {R : Room} {s : State} {args : Array Value} {own C : String} {index maxL mc ms n : Nat} {y : MethodName} {bytes : ByteArray} {ret : Option FieldType} {rm : Room} (ht : ∀ w ∈ fw_tb, w.before args s = true) (hl : Cond.methodLink own index y ∈ fw_tb) (h : fw_yS C y bytes maxL ret n) (hrc : rm.cells = mc) (hrs : rm.slots = ms) (hR : rm.frames + 1 ≤ R.frames ∧ 8 + (maxL + 11) + rm.locals ≤ R.locals) : CallB R s args own index y bytes maxL ret (fw_ws y bytes maxL ret) rm mc ms n ∧ (Cond.static y).before args s = true := va_cwS n ht (fw_gS hl h) rfl hrc hrs h.2.2.2.2 hR
theorem fw_cwI {R : Room} {s : State} {args : Array Value} {own C : String} {index maxL mc ms n : Nat} {y : MethodName} {bytes : ByteArray} {rm : Room} (ht : ∀ w ∈ fw_tb, w.before args s = true) (hl : Cond.methodLink own index y ∈ fw_tb) (h : fw_yI C y bytes maxL n) (hrc : rm.cells = mc) (hrs : rm.slots = ms) (hR : rm.frames + 1 ≤ R.frames ∧ 8 + (maxL + 11) + rm.locals ≤ R.locals) : CallB R s args own index y bytes maxL none (fw_ws y bytes maxL none) rm mc ms n ∧ y.name = "<init>" ∧ (Cond.instanceMethod y).before args s = true := cwI n ht (fw_gw h.2.2.1) rfl hrc hrs (by rw [h.2.2.2.2.1]; exact ht _ h.2.1) (ht _ hl) (ht _ h.1) h.2.2.2.1 h.2.2.2.2.2 hR
end
section
/-! The reference's memory: scalars sc and arrays f by the places of the fields. -/
def mm_len : Nat → Nat
  | 2 => 10 | 3 => 10 | 4 => 10 | 6 => 12 | 8 => 8 | 9 => 96 | 10 => 8 | 12 => 12 | 13 => 12 | 14 => 12 | 15 => 48
  | 17 => 96 | 18 => 96 | 19 => 96 | 20 => 96 | 22 => 3 | 23 => 3 | 24 => 3 | _ => 0
abbrev mm_S : Type := Nat → Int32
abbrev mm_A : Type := Nat → Nat → Int32
def mm_fs (sc : mm_S) (ad : Nat → Nat) : List Value := [.int (sc 0), .int (sc 1), .ref (ad 2), .ref (ad 3), .ref (ad 4), .int (sc 5), .ref (ad 6), .int (sc 7), .ref (ad 8), .ref (ad 9), .ref (ad 10), .int (sc 11), .ref (ad 12), .ref (ad 13), .ref (ad 14), .ref (ad 15), .int (sc 16), .ref (ad 17), .ref (ad 18), .ref (ad 19), .ref (ad 20), .int (sc 21), .ref (ad 22), .ref (ad 23), .ref (ad 24)]
def mm_cl (G : fw_G) (k : Nat) : ClassId := if k = 14 then fw_cZ G else fw_cI G
def mm_W (G : fw_G) (F : fw_F) (y : Nat) (ad : Nat → Nat) (sc : mm_S) (f : mm_A) : Prop := F y = some ((100, 0, 0), fw_obj 10 (mm_fs sc ad)) ∧ ∀ k, mm_len k ≠ 0 → F (ad k) = some ((101, k, 0), fw_ia (mm_cl G k) (mm_len k) (f k))
/-- what isn't the reference's stays -/
def mm_keep (F F1 : fw_F) : Prop := ∀ (b : Nat) (t : fw_T) (e : fw_E), t.1 ≠ 100 → t.1 ≠ 101 → F b = some (t, e) → F1 b = some (t, e)
theorem mm_keep.rf {F : fw_F} : mm_keep F F := fun _ _ _ _ _ h => h
theorem mm_keep.tr {F F1 F2 : fw_F} (h : mm_keep F F1) (h2 : mm_keep F1 F2) : mm_keep F F2 := fun b t e g1 g2 h3 => h2 b t e g1 g2 (h b t e g1 g2 h3)
def mm_M (G : fw_G) (A : Nat → Prop) (s : State) (Fi : fw_F) (y : Nat) (ad : Nat → Nat) (sc : mm_S) (f : mm_A) (F : fw_F) (H : Heap) (locs : List Loc) : Prop := fw_S G A s F H locs ∧ mm_W G F y ad sc f ∧ mm_keep Fi F
def mm_post (G : fw_G) (y : Nat) (ad : Nat → Nat) (F : fw_F) (P : Int32 → mm_S → mm_A → Prop) : Int32 → fw_F → Prop := fun r F1 => ∃ sc f, mm_W G F1 y ad sc f ∧ mm_keep F F1 ∧ P r sc f
def mm_postv (G : fw_G) (y : Nat) (ad : Nat → Nat) (F : fw_F) (P : mm_S → mm_A → Prop) : fw_F → Prop := fun F1 => ∃ sc f, mm_W G F1 y ad sc f ∧ mm_keep F F1 ∧ P sc f
theorem mm_fs_put {sc : mm_S} {ad : Nat → Nat} {x : Int32} (k : Nat) (hk : k = 0 ∨ k = 1 ∨ k = 5 ∨ k = 7 ∨ k = 11 ∨ k = 16 ∨ k = 21) : (mm_fs sc ad).set k (.int x) = mm_fs (va_up sc k x) ad := by
  rcases hk with rfl | rfl | rfl | rfl | rfl | rfl | rfl <;> rfl
theorem mm_set {G : fw_G} {F : fw_F} {y : Nat} {ad : Nat → Nat} {sc sc' : mm_S} {f : mm_A} (h : mm_W G F y ad sc f) : mm_W G (va_up F y (some ((100, 0, 0), fw_obj 10 (mm_fs sc' ad)))) y ad sc' f :=
  ⟨fw_up_self, fun k hk => fw_up_tag (h.2 k hk) h.1 (by intro z; cases z)⟩
theorem mm_keep_set {Fi F : fw_F} {a : Nat} {t : fw_T} {e e' : fw_E} (h : mm_keep Fi F) (ha : F a = some (t, e)) (ht : t.1 = 100 ∨ t.1 = 101) : mm_keep Fi (va_up F a (some (t, e'))) := fun b u d g1 g2 h3 => fw_up_tag (h b u d g1 g2 h3) ha (fun z => by subst z; rcases ht with q | q <;> contradiction)
theorem mm_seta {G : fw_G} {F : fw_F} {y : Nat} {ad : Nat → Nat} {sc : mm_S} {f : mm_A} {k : Nat} {g : Nat → Int32} (h : mm_W G F y ad sc f) (hk : mm_len k ≠ 0) : mm_W G (va_up F (ad k) (some ((101, k, 0), fw_ia (mm_cl G k) (mm_len k) g))) y ad sc (va_up f k g) := by
  refine ⟨fw_up_tag h.1 (h.2 k hk) (by intro z; cases z), fun j hj => ?_⟩
  by_cases e : j = k
  · subst e
    rw [va_up_self f]
    exact fw_up_self
  · rw [va_up_ne f _ e]
    exact fw_up_tag (h.2 j hj) (h.2 k hk) (by intro z; injection z with z1 z2; injection z2 with z3 z4; exact e z3)
section MMR
variable {p : Program} {l : Launch} {e : Env} {R : Room} {s : State} {m : MethodId} {args : Array Value} {below : List Frame} {meth : Method} {c : Code} {H : Heap} {locs : List Loc} {cells slots : Nat} {Q : State → Prop}
variable {cc : ByteArray} {pc : Nat} {ls : Array Slot} {rest : List Value} {G : fw_G} {A : Nat → Prop} {F Fi : fw_F} {y : Nat} {ad : Nat → Nat} {sc : mm_S} {f : mm_A}
theorem mm_get (hx : p.tables.exec = Jvm.exec) (hb : c.code = cc) (hT : ∀ w ∈ fw_tb, w.before args s = true) (hown : s.vm.findClass RX9 = some m.cls) (hz : fw_Z G A s s.heap) (hm : mm_M G A s Fi y ad sc f F H locs) {index : Nat} (k : Nat) (hk : k < 25) (hl : Cond.fieldLink RX9 index RX9 (TX9 k).2.1 (TX9 k).2.2.1 ∈ fw_tb) (hsame : (TX9 k).1 = RX9) {v : Value} (hv : (mm_fs sc ad)[k]? = some v) (hdg : decode cc pc = .ok (.getfield index, 3))
    (kk : W p l e R s m args below meth c H locs cells slots Q (F0 m (pc + 3) ls (v :: rest))) : W p l e R s m args below meth c H locs cells slots Q (F0 m pc ls (.ref y :: rest)) :=
  fw_get hx hb hT fi_RX9 hown hz hm.1 hm.2.1.1 rfl k hk (hT _ hl) (fun _ h => by rw [hsame] at h; exact h) hv hdg kk
theorem mm_put (hx : p.tables.exec = Jvm.exec) (hb : c.code = cc) (hT : ∀ w ∈ fw_tb, w.before args s = true) (hown : s.vm.findClass RX9 = some m.cls) (hz : fw_Z G A s s.heap) (hm : mm_M G A s Fi y ad sc f F H locs) {index : Nat} (k : Nat) (hk : k = 0 ∨ k = 1 ∨ k = 5 ∨ k = 7 ∨ k = 11 ∨ k = 16 ∨ k = 21) (hl : Cond.fieldLink RX9 index RX9 (TX9 k).2.1 (TX9 k).2.2.1 ∈ fw_tb) {x : Int32} (hdg : decode cc pc = .ok (.putfield index, 3))
    (kk : ∀ F1 H1 locs1, mm_M G A s Fi y ad (va_up sc k x) f F1 H1 locs1 → W p l e R s m args below meth c H1 locs1 cells slots Q (F0 m (pc + 3) ls rest)) : W p l e R s m args below meth c H locs cells slots Q (F0 m pc ls (.int x :: .ref y :: rest)) := by
  have h9 : k < 25 ∧ (TX9 k).1 = RX9 ∧ (TX9 k).2.2.2 = false ∧ parseFieldDescriptor (TX9 k).2.2.1 = some .int := by
    rcases hk with rfl | rfl | rfl | rfl | rfl | rfl | rfl <;> decide +kernel
  exact fw_put hx hb hT fi_RX9 tyX9 tyX9_ok nmX9 hown hz hm.1 hm.2.1.1 rfl k h9.1 (hT _ hl) (fun _ h => by rw [h9.2.1] at h; exact h) h9.2.2.1 h9.2.2.2 rfl rfl h9.1 (mm_fs_put k hk) hdg (fun H1 locs1 hw => kk _ H1 locs1 ⟨hw, mm_set hm.2.1, mm_keep_set hm.2.2 hm.2.1.1 (Or.inl rfl)⟩)
theorem mm_len_le (k : Nat) : mm_len k ≤ 96 := by
  unfold mm_len
  split <;> decide
theorem mm_in {k j : Nat} (hj : j < mm_len k) : vp_in (nI j) (mm_len k) ∧ (nI j).toNatClampNeg = j := ⟨vp_in_nI hj (by have := mm_len_le k; omega), nI_clamp (by have := mm_len_le k; omega)⟩
theorem mm_ald (hx : p.tables.exec = Jvm.exec) (hb : c.code = cc) (hz : fw_Z G A s s.heap) (hm : mm_M G A s Fi y ad sc f F H locs) (k j : Nat) {i : Int32} (h14 : k ≠ 14) (hi : i = nI j) (hj : j < mm_len k) (hdg : decode cc pc = .ok (.iaload, 1))
    (kk : W p l e R s m args below meth c H locs cells slots Q (F0 m (pc + 1) ls (.int (f k j) :: rest))) : W p l e R s m args below meth c H locs cells slots Q (F0 m pc ls (.int i :: .ref (ad k) :: rest)) := by
  subst hi
  have h := hm.2.1.2 k (by omega)
  rw [mm_cl, if_neg h14] at h
  refine fw_iald hx hb hz hm.1 h (mm_in hj).1 hdg ?_
  rw [(mm_in hj).2]
  exact kk
theorem mm_zald (hx : p.tables.exec = Jvm.exec) (hb : c.code = cc) (hz : fw_Z G A s s.heap) (hm : mm_M G A s Fi y ad sc f F H locs) (j : Nat) {i : Int32} (hi : i = nI j) (hj : j < 12) (hdg : decode cc pc = .ok (.baload, 1))
    (kk : W p l e R s m args below meth c H locs cells slots Q (F0 m (pc + 1) ls (.int (f 14 j) :: rest))) : W p l e R s m args below meth c H locs cells slots Q (F0 m pc ls (.int i :: .ref (ad 14) :: rest)) := by
  subst hi
  have h := hm.2.1.2 14 (by decide)
  rw [mm_cl, if_pos rfl] at h
  refine fw_zald hx hb hz hm.1 h (mm_in (k := 14) hj).1 hdg ?_
  rw [(mm_in (k := 14) hj).2]
  exact kk
theorem mm_ast (hx : p.tables.exec = Jvm.exec) (hb : c.code = cc) (hz : fw_Z G A s s.heap) (hm : mm_M G A s Fi y ad sc f F H locs) (k j : Nat) {i x : Int32} (h14 : k ≠ 14) (hi : i = nI j) (hj : j < mm_len k) (hdg : decode cc pc = .ok (.iastore, 1))
    (kk : ∀ F1 H1 locs1, mm_M G A s Fi y ad sc (va_up f k (upd (f k) j x)) F1 H1 locs1 → W p l e R s m args below meth c H1 locs1 cells slots Q (F0 m (pc + 1) ls rest)) : W p l e R s m args below meth c H locs cells slots Q (F0 m pc ls (.int x :: .int i :: .ref (ad k) :: rest)) := by
  subst hi
  have h := hm.2.1.2 k (by omega)
  have h' := h
  rw [mm_cl, if_neg h14] at h'
  refine fw_iast hx hb hz hm.1 h' (mm_in hj).1 hdg (fun H1 locs1 hw => ?_)
  rw [(mm_in hj).2] at hw
  refine kk _ H1 locs1 ⟨hw, ?_, mm_keep_set hm.2.2 h' (Or.inr rfl)⟩
  have h5 := mm_seta (g := upd (f k) j x) hm.2.1 (k := k) (by omega)
  rw [mm_cl, if_neg h14] at h5
  exact h5
theorem mm_zast (hx : p.tables.exec = Jvm.exec) (hb : c.code = cc) (hz : fw_Z G A s s.heap) (hm : mm_M G A s Fi y ad sc f F H locs) (j : Nat) {i x : Int32} (hi : i = nI j) (hj : j < 12) (hdg : decode cc pc = .ok (.bastore, 1))
    (kk : ∀ F1 H1 locs1, mm_M G A s Fi y ad sc (va_up f 14 (upd (f 14) j (vp_nar .boolean x))) F1 H1 locs1 → W p l e R s m args below meth c H1 locs1 cells slots Q (F0 m (pc + 1) ls rest)) : W p l e R s m args below meth c H locs cells slots Q (F0 m pc ls (.int x :: .int i :: .ref (ad 14) :: rest)) := by
  subst hi
  have h := hm.2.1.2 14 (by decide)
  rw [mm_cl, if_pos rfl] at h
  refine fw_zast hx hb hz hm.1 h (mm_in (k := 14) hj).1 hdg (fun H1 locs1 hw => ?_)
  rw [(mm_in (k := 14) hj).2] at hw
  refine kk _ H1 locs1 ⟨hw, ?_, mm_keep_set hm.2.2 h (Or.inr rfl)⟩
  have h5 := mm_seta (g := upd (f 14) j (vp_nar .boolean x)) hm.2.1 (k := 14) (by decide)
  rw [mm_cl, if_pos rfl] at h5
  exact h5
/-! contracts of the reference's methods: Ci, Cv on the object, Si static and reading alone -/
abbrev mm_Ci (l : Launch) (G : fw_G) (F : fw_F) (sz y : Nat) (ad : Nat → Nat) (yy : MethodName) (bytes : ByteArray) (maxL : Nat) (ret : FieldType) (rm : Room) (As : List Value) (P : Int32 → mm_S → mm_A → Prop) : Prop :=
  Met l yy (fw_ws yy bytes maxL (some ret)) rm (va_Pc (.ref y :: As) (fw_Pre G F sz)) (va_Qi (mm_post G y ad F P) (fw_B G (fw_W G F sz)) (fw_W G F sz)) rm.cells rm.slots (fw_W G F sz)
abbrev mm_Cv (l : Launch) (G : fw_G) (F : fw_F) (sz y : Nat) (ad : Nat → Nat) (yy : MethodName) (bytes : ByteArray) (maxL : Nat) (rm : Room) (As : List Value) (P : mm_S → mm_A → Prop) : Prop :=
  Met l yy (fw_ws yy bytes maxL none) rm (va_Pc (.ref y :: As) (fw_Pre G F sz)) (va_Qv (mm_postv G y ad F P) (fw_B G (fw_W G F sz)) (fw_W G F sz)) rm.cells rm.slots (fw_W G F sz)
abbrev fw_Si (l : Launch) (G : fw_G) (F : fw_F) (sz : Nat) (yy : MethodName) (bytes : ByteArray) (maxL : Nat) (ret : FieldType) (rm : Room) (As : List Value) (P : Int32 → Prop) : Prop :=
  Met l yy (fw_ws yy bytes maxL (some ret)) rm (va_Pc As (fw_Pre G F sz)) (va_Qi (fun r F1 => F1 = F ∧ P r) (fw_B G (fw_W G F sz)) (fw_W G F sz)) rm.cells rm.slots (fw_W G F sz)
variable {yy : MethodName} {bytes : ByteArray} {maxL nL n index : Nat} {ret : FieldType} {rm : Room} {own C : String} {As : List Value} {st0 : List Value}
theorem mm_calli {P : Int32 → mm_S → mm_A → Prop} (S : CallFix p m c cc nL s args fw_tb own) (hz : fw_Z G A s s.heap) (hm : mm_M G A s Fi y ad sc f F H locs) (hM : mm_Ci l G F H.size y ad yy bytes maxL ret rm As P)
    (hl : Cond.methodLink own index yy ∈ fw_tb) (hy : fw_yV RX9 yy bytes maxL (some ret) n) (hR : rm.frames + 1 ≤ R.frames ∧ 8 + (maxL + 11) + rm.locals ≤ R.locals) (hn : As.length = n) (hsize : ls.size = nL) (hstack : st0 = As.reverse ++ .ref y :: rest) (hW : (rest.map fun v => v.category).sum ≤ 8) (hdg : decode cc pc = .ok (.invokevirtual index, 3)) (hf : cells + rm.cells ≤ R.cells ∧ slots + rm.slots ≤ R.slots)
    (kk : ∀ r sc1 f1 F1 H1 locs1, mm_M G A s Fi y ad sc1 f1 F1 H1 locs1 → P r sc1 f1 → W p l e R s m args below meth c H1 locs1 (cells + rm.cells) (slots + rm.slots) Q (F0 m (pc + 3) ls (.int r :: rest))) : W p l e R s m args below meth c H locs cells slots Q (F0 m pc ls st0) :=
  fw_calli (fw_runV (rest := rest) S hz hm.1 hM (fw_cwV S.2.2.2.2 hl hy rfl rfl hR) (fw_rec hz hm.1 hm.2.1.1 (q := (RX9, TX9, 25)) rfl) hn hsize hstack hW hdg hf) hm.1 (fun r F1 H1 locs1 hw hp => by
    obtain ⟨sc1, f1, h1, h2, h3⟩ := hp
    exact kk r sc1 f1 F1 H1 locs1 ⟨hw, h1, hm.2.2.tr h2⟩ h3)
theorem mm_callv {P : mm_S → mm_A → Prop} (S : CallFix p m c cc nL s args fw_tb own) (hz : fw_Z G A s s.heap) (hm : mm_M G A s Fi y ad sc f F H locs) (hM : mm_Cv l G F H.size y ad yy bytes maxL rm As P)
    (hl : Cond.methodLink own index yy ∈ fw_tb) (hy : fw_yV RX9 yy bytes maxL none n) (hR : rm.frames + 1 ≤ R.frames ∧ 8 + (maxL + 11) + rm.locals ≤ R.locals) (hn : As.length = n) (hsize : ls.size = nL) (hstack : st0 = As.reverse ++ .ref y :: rest) (hW : (rest.map fun v => v.category).sum ≤ 8) (hdg : decode cc pc = .ok (.invokevirtual index, 3)) (hf : cells + rm.cells ≤ R.cells ∧ slots + rm.slots ≤ R.slots)
    (kk : ∀ sc1 f1 F1 H1 locs1, mm_M G A s Fi y ad sc1 f1 F1 H1 locs1 → P sc1 f1 → W p l e R s m args below meth c H1 locs1 (cells + rm.cells) (slots + rm.slots) Q (F0 m (pc + 3) ls rest)) : W p l e R s m args below meth c H locs cells slots Q (F0 m pc ls st0) :=
  fw_callv (fw_runV (rest := rest) S hz hm.1 hM (fw_cwV S.2.2.2.2 hl hy rfl rfl hR) (fw_rec hz hm.1 hm.2.1.1 (q := (RX9, TX9, 25)) rfl) hn hsize hstack hW hdg hf) hm.1 (fun F1 H1 locs1 hw hp => by
    obtain ⟨sc1, f1, h1, h2, h3⟩ := hp
    exact kk sc1 f1 F1 H1 locs1 ⟨hw, h1, hm.2.2.tr h2⟩ h3)
/-- a static method that reads alone, called from anywhere -/
theorem fw_calls {P : Int32 → Prop} (S : CallFix p m c cc nL s args fw_tb own) (hz : fw_Z G A s s.heap) (hw : fw_S G A s F H locs) (hM : fw_Si l G F H.size yy bytes maxL ret rm As P)
    (hl : Cond.methodLink own index yy ∈ fw_tb) (hy : fw_yS C yy bytes maxL (some ret) n) (hR : rm.frames + 1 ≤ R.frames ∧ 8 + (maxL + 11) + rm.locals ≤ R.locals) (hn : As.length = n) (hsize : ls.size = nL) (hstack : st0 = As.reverse ++ rest) (hW : (rest.map fun v => v.category).sum ≤ 8) (hdg : decode cc pc = .ok (.invokestatic index, 3)) (hf : cells + rm.cells ≤ R.cells ∧ slots + rm.slots ≤ R.slots)
    (kk : ∀ r H1 locs1, fw_S G A s F H1 locs1 → P r → W p l e R s m args below meth c H1 locs1 (cells + rm.cells) (slots + rm.slots) Q (F0 m (pc + 3) ls (.int r :: rest))) : W p l e R s m args below meth c H locs cells slots Q (F0 m pc ls st0) :=
  fw_calli (fw_runS (rest := rest) S hz hw hM (fw_cwS S.2.2.2.2 hl hy rfl rfl hR) hn hsize hstack hW hdg hf) hw (fun r F1 H1 locs1 hw1 hp => by
    obtain ⟨h2, h3⟩ := hp
    subst h2
    exact kk r H1 locs1 hw1 h3)
theorem mm_calls {P : Int32 → Prop} (S : CallFix p m c cc nL s args fw_tb own) (hz : fw_Z G A s s.heap) (hm : mm_M G A s Fi y ad sc f F H locs) (hM : fw_Si l G F H.size yy bytes maxL ret rm As P)
    (hl : Cond.methodLink own index yy ∈ fw_tb) (hy : fw_yS C yy bytes maxL (some ret) n) (hR : rm.frames + 1 ≤ R.frames ∧ 8 + (maxL + 11) + rm.locals ≤ R.locals) (hn : As.length = n) (hsize : ls.size = nL) (hstack : st0 = As.reverse ++ rest) (hW : (rest.map fun v => v.category).sum ≤ 8) (hdg : decode cc pc = .ok (.invokestatic index, 3)) (hf : cells + rm.cells ≤ R.cells ∧ slots + rm.slots ≤ R.slots)
    (kk : ∀ r H1 locs1, mm_M G A s Fi y ad sc f F H1 locs1 → P r → W p l e R s m args below meth c H1 locs1 (cells + rm.cells) (slots + rm.slots) Q (F0 m (pc + 3) ls (.int r :: rest))) : W p l e R s m args below meth c H locs cells slots Q (F0 m pc ls st0) :=
  fw_calls S hz hm.1 hM hl hy hR hn hsize hstack hW hdg hf (fun r H1 locs1 hw hp => kk r H1 locs1 ⟨hw, hm.2⟩ hp)
theorem mm_iret {P : Int32 → mm_S → mm_A → Prop} {v : Int32} {mc ms : Nat} (hx : p.tables.exec = Jvm.exec) (hb : c.code = cc) (hr : meth.sig.returnType = some .int) (hlk : meth.locks = false) (hc : cells ≤ mc) (hs : slots ≤ ms) (hm : mm_M G A s Fi y ad sc f F H locs) (hdg : decode cc pc = .ok (.ireturn, 1)) (hp : P v sc f) :
    W p l e R s m args below meth c H locs cells slots (MQ below (va_Qi (mm_post G y ad Fi P) (fw_B G A) A) args s mc ms A) (F0 m pc ls [.int v]) :=
  fw_iret hx hb hr hlk hc hs hm.1 hdg ⟨sc, f, hm.2.1, hm.2.2, hp⟩
theorem mm_zret {P : Int32 → mm_S → mm_A → Prop} {v : Int32} {mc ms : Nat} (hx : p.tables.exec = Jvm.exec) (hb : c.code = cc) (hr : meth.sig.returnType = some .boolean) (hn : v = 0 ∨ v = 1) (hlk : meth.locks = false) (hc : cells ≤ mc) (hs : slots ≤ ms) (hm : mm_M G A s Fi y ad sc f F H locs) (hdg : decode cc pc = .ok (.ireturn, 1)) (hp : P v sc f) :
    W p l e R s m args below meth c H locs cells slots (MQ below (va_Qi (mm_post G y ad Fi P) (fw_B G A) A) args s mc ms A) (F0 m pc ls [.int v]) :=
  fw_zret hx hb hr (by rcases hn with rfl | rfl <;> rfl) hlk hc hs hm.1 hdg ⟨sc, f, hm.2.1, hm.2.2, hp⟩
theorem mm_vret {P : mm_S → mm_A → Prop} {mc ms : Nat} (hx : p.tables.exec = Jvm.exec) (hb : c.code = cc) (hr : meth.sig.returnType = none) (hlk : meth.locks = false) (hc : cells ≤ mc) (hs : slots ≤ ms) (hm : mm_M G A s Fi y ad sc f F H locs) (hdg : decode cc pc = .ok (.return_, 1)) (hp : P sc f) :
    W p l e R s m args below meth c H locs cells slots (MQ below (va_Qv (mm_postv G y ad Fi P) (fw_B G A) A) args s mc ms A) (F0 m pc ls []) :=
  fw_vret hx hb hr hlk hc hs hm.1 hdg ⟨sc, f, hm.2.1, hm.2.2, hp⟩
/-- the value on top is another name of the same -/
theorem fw_top {x x' : Int32} (h : x = x') (k : W p l e R s m args below meth c H locs cells slots Q (F0 m pc ls (.int x' :: rest))) : W p l e R s m args below meth c H locs cells slots Q (F0 m pc ls (.int x :: rest)) := by
  rw [h]
  exact k
end MMR
end
section
/-! The reference's methods: reads. -/
def fw_b (b : Bool) : Int32 := if b then 1 else 0
theorem fw_b0 {b : Bool} (h : fw_b b = 0) : b = false := by cases b <;> first | rfl | exact absurd h (by decide)
theorem fw_b1 {b : Bool} (h : ¬ fw_b b = 0) : b = true := by cases b <;> first | rfl | exact absurd rfl h
theorem fw_b01 (b : Bool) : fw_b b = 0 ∨ fw_b b = 1 := by cases b <;> first | exact Or.inl rfl | exact Or.inr rfl
def rf_in (v lo hi : Int32) : Bool := decide (lo ≤ v) && decide (v ≤ hi)
theorem rf_in_t {v lo hi : Int32} : rf_in v lo hi = true ↔ lo ≤ v ∧ v ≤ hi := by simp [rf_in]
theorem rf_in_f1 {v lo hi : Int32} (h : v < lo) : rf_in v lo hi = false := by
  cases q : rf_in v lo hi with
  | false => rfl
  | true => exact absurd (rf_in_t.mp q).1 (Int32.not_le.mpr h)
theorem rf_in_f2 {v lo hi : Int32} (h : hi < v) : rf_in v lo hi = false := by
  cases q : rf_in v lo hi with
  | false => rfl
  | true => exact absurd (rf_in_t.mp q).2 (Int32.not_le.mpr h)
theorem fw_m1 (x : Int32) : x + (-1) = x - nI 1 := by rw [show nI 1 = (1 : Int32) from rfl, Int32.sub_eq_add_neg]
/-- t is a number below n -/
def rf_ix (t : Int32) (n : Nat) : Bool := rf_in t (nI 0) (nI n - nI 1)
/-- the reference's lowest cutter, from the cutters below j, if 'its' were those above -/
def rf_cutL (f : mm_A) (mo te : Int32) : Nat → Int32 → Int32
  | 0, its => its
  | j + 1, its => rf_cutL f mo te j (if f 2 j = mo ∧ rf_in te (f 3 j) (f 4 j) = true then nI j else its)
def rf_cut (f : mm_A) (n : Nat) (mo te : Int32) : Int32 := rf_cutL f mo te n (-1)
set_option maxHeartbeats 4000000 in
set_option maxRecDepth 100000 in
/-- in(v, low, high) -/
theorem c_X9_in (l : Launch) (G : fw_G) (F : fw_F) (sz : Nat) (v lo hi : Int32) : fw_Si l G F sz yX9_in cX9_in 3 (.boolean) { frames := 0, cells := 0, slots := 0, locals := 0 } [.int v, .int lo, .int hi] (fun r => r = fw_b (rf_in v lo hi)) := by
  refine fw_met (lv := [(0, .int v), (1, .int lo), (2, .int hi)]) (by decide +kernel) (Nat.le_of_ble_eq_true rfl) rfl ?_
  intro A hA p e s m below meth c ls hx hb hml hown hT hr hlk hin hz hsz hw hAn hl
  rw [← hA]
  have hown : s.vm.findClass RX9 = some m.cls := hown
  have C : CallFix p m c cX9_in 3 s _ fw_tb RX9 := ⟨hx, hb, hml, hown, hT⟩
  refine lv_iload_n hx hb dX9_in_0 rfl (lv_at hl 0 rfl) ?_
  refine lv_iload_n hx hb dX9_in_1 rfl (lv_at hl 1 rfl) ?_
  refine lv_icmp_lt (tgt := 14) hx hb dX9_in_2 (by decide) (fun c => ?_) (fun c => ?_)
  · refine lv_iconst (v := (nI 0)) hx hb dX9_in_14 (by decide) ?_
    exact fw_zret hx hb hr (by decide) hlk (Nat.le_of_ble_eq_true rfl) (Nat.le_of_ble_eq_true rfl) hw dX9_in_15 ⟨rfl, by rw [rf_in_f1 c]; rfl⟩
  · refine lv_iload_n hx hb dX9_in_5 rfl (lv_at hl 0 rfl) ?_
    refine lv_iload_n hx hb dX9_in_6 rfl (lv_at hl 2 rfl) ?_
    refine lv_icmp_gt (tgt := 14) hx hb dX9_in_7 (by decide) (fun c2 => ?_) (fun c2 => ?_)
    · refine lv_iconst (v := (nI 0)) hx hb dX9_in_14 (by decide) ?_
      exact fw_zret hx hb hr (by decide) hlk (Nat.le_of_ble_eq_true rfl) (Nat.le_of_ble_eq_true rfl) hw dX9_in_15 ⟨rfl, by rw [rf_in_f2 c2]; rfl⟩
    · refine lv_iconst (v := (nI 1)) hx hb dX9_in_10 (by decide) ?_
      refine lv_goto (tgt := 15) hx hb dX9_in_11 (by decide) ?_
      exact fw_zret hx hb hr (by decide) hlk (Nat.le_of_ble_eq_true rfl) (Nat.le_of_ble_eq_true rfl) hw dX9_in_15 ⟨rfl, by rw [rf_in_t.mpr ⟨Int32.not_lt.mp c, Int32.not_lt.mp c2⟩]; rfl⟩
set_option maxHeartbeats 4000000 in
set_option maxRecDepth 100000 in
theorem c_X9_thrown (l : Launch) (G : fw_G) (F : fw_F) (sz y : Nat) (ad : Nat → Nat) (sc : mm_S) (f : mm_A) (hW : mm_W G F y ad sc f) : mm_Ci l G F sz y ad yX9_thrown cX9_thrown 1 (.int) { frames := 0, cells := 0, slots := 0, locals := 0 } [] (fun r sc1 f1 => sc1 = sc ∧ f1 = f ∧ r = sc 0) := by
  refine fw_met (lv := [(0, .ref y)]) (by decide +kernel) (Nat.le_of_ble_eq_true rfl) rfl ?_
  intro A hA p e s m below meth c ls hx hb hml hown hT hr hlk hin hz hsz hw hAn hl
  rw [← hA]
  have hown : s.vm.findClass RX9 = some m.cls := hown
  have C : CallFix p m c cX9_thrown 1 s _ fw_tb RX9 := ⟨hx, hb, hml, hown, hT⟩
  have hm : mm_M G A s F y ad sc f F s.heap [] := ⟨hw, hW, mm_keep.rf⟩
  refine lv_aload_n hx hb dX9_thrown_0 rfl (lv_at hl 0 rfl) ?_
  refine mm_get hx hb hT hown hz hm 0 (by decide) wd_735 rfl (v := .int (sc 0)) rfl dX9_thrown_1 ?_
  exact mm_iret hx hb hr hlk (Nat.le_of_ble_eq_true rfl) (Nat.le_of_ble_eq_true rfl) hm dX9_thrown_4 (⟨rfl, rfl, rfl⟩)
set_option maxHeartbeats 4000000 in
set_option maxRecDepth 100000 in
theorem c_X9_isTrain (l : Launch) (G : fw_G) (F : fw_F) (sz y : Nat) (ad : Nat → Nat) (sc : mm_S) (f : mm_A) (nT : Nat) (t : Int32) (hW : mm_W G F y ad sc f) (e7 : sc 7 = nI nT) : mm_Ci l G F sz y ad yX9_isTrain cX9_isTrain 2 (.boolean) { frames := 1, cells := 0, slots := 0, locals := 22 } [.int t] (fun r sc1 f1 => sc1 = va_up sc 0 (fw_b (!rf_ix t nT)) ∧ f1 = f ∧ r = fw_b (rf_ix t nT)) := by
  refine fw_met (lv := [(0, .ref y), (1, .int t)]) (by decide +kernel) (Nat.le_of_ble_eq_true rfl) rfl ?_
  intro A hA p e s m below meth c ls hx hb hml hown hT hr hlk hin hz hsz hw hAn hl
  rw [← hA]
  have hown : s.vm.findClass RX9 = some m.cls := hown
  have C : CallFix p m c cX9_isTrain 2 s _ fw_tb RX9 := ⟨hx, hb, hml, hown, hT⟩
  have hm : mm_M G A s F y ad sc f F s.heap [] := ⟨hw, hW, mm_keep.rf⟩
  refine lv_aload_n hx hb dX9_isTrain_0 rfl (lv_at hl 0 rfl) ?_
  refine lv_iload_n hx hb dX9_isTrain_1 rfl (lv_at hl 1 rfl) ?_
  refine lv_iconst (v := (nI 0)) hx hb dX9_isTrain_2 (by decide) ?_
  refine lv_aload_n hx hb dX9_isTrain_3 rfl (lv_at hl 0 rfl) ?_
  refine mm_get hx hb hT hown hz hm 7 (by decide) wd_742 rfl (v := .int (sc 7)) rfl dX9_isTrain_4 ?_
  refine fw_top (e7) ?_
  refine lv_iconst (v := (nI 1)) hx hb dX9_isTrain_7 (by decide) ?_
  refine lv_isub hx hb dX9_isTrain_8 ?_
  refine mm_calls (As := [.int t, .int (nI 0), .int ((nI nT) - (nI 1))]) (rest := [.ref y]) C hz hm (c_X9_in l G _ _ t (nI 0) (nI nT - nI 1)) wd_821 ySX9_in ⟨Nat.le_of_ble_eq_true rfl, Nat.le_of_ble_eq_true rfl⟩ rfl hl.1 rfl (Nat.le_of_ble_eq_true rfl) dX9_isTrain_9 ⟨Nat.le_of_ble_eq_true rfl, Nat.le_of_ble_eq_true rfl⟩ (fun r H locs hm hp => ?_)
  refine W.widen (k := 0) (n := 0) (Nat.le_of_ble_eq_true rfl) (Nat.le_of_ble_eq_true rfl) ?_
  subst hp
  refine lv_if_eq (tgt := 19) hx hb dX9_isTrain_12 (by decide) (fun c => ?_) (fun c => ?_)
  · have c := fw_b0 c
    refine lv_iconst (v := (nI 1)) hx hb dX9_isTrain_19 (by decide) ?_
    refine mm_put hx hb hT hown hz hm 0 (by decide) wd_735 dX9_isTrain_20 (fun F1 H locs hm => ?_)
    refine lv_aload_n hx hb dX9_isTrain_23 rfl (lv_at hl 0 rfl) ?_
    refine mm_get hx hb hT hown hz hm 0 (by decide) wd_735 rfl (v := .int (nI 1)) rfl dX9_isTrain_24 ?_
    refine lv_if_ne (tgt := 34) hx hb dX9_isTrain_27 (by decide) (fun c2 => ?_) (fun c2 => ?_)
    · have c2 : ¬ 1 = 0 := fun h9 => c2 ((nI_eq (a := 1) (b := 0) (by omega) (by omega)).mpr h9)
      refine lv_iconst (v := (nI 0)) hx hb dX9_isTrain_34 (by decide) ?_
      exact mm_zret hx hb hr (by decide) hlk (Nat.le_of_ble_eq_true rfl) (Nat.le_of_ble_eq_true rfl) hm dX9_isTrain_35 (⟨by rw [show rf_ix t nT = false from c]; rfl, rfl, by rw [show rf_ix t nT = false from c]; rfl⟩)
    · have c2 := (nI_eq (a := 1) (b := 0) (by omega) (by omega)).mp c2
      refine lv_iconst (v := (nI 1)) hx hb dX9_isTrain_30 (by decide) ?_
      refine lv_goto (tgt := 35) hx hb dX9_isTrain_31 (by decide) ?_
      exact absurd c2 (by decide)
  · have c := fw_b1 c
    refine lv_iconst (v := (nI 0)) hx hb dX9_isTrain_15 (by decide) ?_
    refine lv_goto (tgt := 20) hx hb dX9_isTrain_16 (by decide) ?_
    refine mm_put hx hb hT hown hz hm 0 (by decide) wd_735 dX9_isTrain_20 (fun F1 H locs hm => ?_)
    refine lv_aload_n hx hb dX9_isTrain_23 rfl (lv_at hl 0 rfl) ?_
    refine mm_get hx hb hT hown hz hm 0 (by decide) wd_735 rfl (v := .int (nI 0)) rfl dX9_isTrain_24 ?_
    refine lv_if_ne (tgt := 34) hx hb dX9_isTrain_27 (by decide) (fun c2 => ?_) (fun c2 => ?_)
    · have c2 : ¬ 0 = 0 := fun h9 => c2 ((nI_eq (a := 0) (b := 0) (by omega) (by omega)).mpr h9)
      refine lv_iconst (v := (nI 0)) hx hb dX9_isTrain_34 (by decide) ?_
      exact absurd c2 (by decide)
    · have c2 := (nI_eq (a := 0) (b := 0) (by omega) (by omega)).mp c2
      refine lv_iconst (v := (nI 1)) hx hb dX9_isTrain_30 (by decide) ?_
      refine lv_goto (tgt := 35) hx hb dX9_isTrain_31 (by decide) ?_
      exact mm_zret hx hb hr (by decide) hlk (Nat.le_of_ble_eq_true rfl) (Nat.le_of_ble_eq_true rfl) hm dX9_isTrain_35 (⟨by rw [show rf_ix t nT = true from c]; rfl, rfl, by rw [show rf_ix t nT = true from c]; rfl⟩)
set_option maxHeartbeats 4000000 in
set_option maxRecDepth 100000 in
theorem c_X9_isOrder (l : Launch) (G : fw_G) (F : fw_F) (sz y : Nat) (ad : Nat → Nat) (sc : mm_S) (f : mm_A) (nO : Nat) (t : Int32) (hW : mm_W G F y ad sc f) (e7 : sc 11 = nI nO) : mm_Ci l G F sz y ad yX9_isOrder cX9_isOrder 2 (.boolean) { frames := 1, cells := 0, slots := 0, locals := 22 } [.int t] (fun r sc1 f1 => sc1 = va_up sc 0 (fw_b (!rf_ix t nO)) ∧ f1 = f ∧ r = fw_b (rf_ix t nO)) := by
  refine fw_met (lv := [(0, .ref y), (1, .int t)]) (by decide +kernel) (Nat.le_of_ble_eq_true rfl) rfl ?_
  intro A hA p e s m below meth c ls hx hb hml hown hT hr hlk hin hz hsz hw hAn hl
  rw [← hA]
  have hown : s.vm.findClass RX9 = some m.cls := hown
  have C : CallFix p m c cX9_isOrder 2 s _ fw_tb RX9 := ⟨hx, hb, hml, hown, hT⟩
  have hm : mm_M G A s F y ad sc f F s.heap [] := ⟨hw, hW, mm_keep.rf⟩
  refine lv_aload_n hx hb dX9_isOrder_0 rfl (lv_at hl 0 rfl) ?_
  refine lv_iload_n hx hb dX9_isOrder_1 rfl (lv_at hl 1 rfl) ?_
  refine lv_iconst (v := (nI 0)) hx hb dX9_isOrder_2 (by decide) ?_
  refine lv_aload_n hx hb dX9_isOrder_3 rfl (lv_at hl 0 rfl) ?_
  refine mm_get hx hb hT hown hz hm 11 (by decide) wd_746 rfl (v := .int (sc 11)) rfl dX9_isOrder_4 ?_
  refine fw_top (e7) ?_
  refine lv_iconst (v := (nI 1)) hx hb dX9_isOrder_7 (by decide) ?_
  refine lv_isub hx hb dX9_isOrder_8 ?_
  refine mm_calls (As := [.int t, .int (nI 0), .int ((nI nO) - (nI 1))]) (rest := [.ref y]) C hz hm (c_X9_in l G _ _ t (nI 0) (nI nO - nI 1)) wd_821 ySX9_in ⟨Nat.le_of_ble_eq_true rfl, Nat.le_of_ble_eq_true rfl⟩ rfl hl.1 rfl (Nat.le_of_ble_eq_true rfl) dX9_isOrder_9 ⟨Nat.le_of_ble_eq_true rfl, Nat.le_of_ble_eq_true rfl⟩ (fun r H locs hm hp => ?_)
  refine W.widen (k := 0) (n := 0) (Nat.le_of_ble_eq_true rfl) (Nat.le_of_ble_eq_true rfl) ?_
  subst hp
  refine lv_if_eq (tgt := 19) hx hb dX9_isOrder_12 (by decide) (fun c => ?_) (fun c => ?_)
  · have c := fw_b0 c
    refine lv_iconst (v := (nI 1)) hx hb dX9_isOrder_19 (by decide) ?_
    refine mm_put hx hb hT hown hz hm 0 (by decide) wd_735 dX9_isOrder_20 (fun F1 H locs hm => ?_)
    refine lv_aload_n hx hb dX9_isOrder_23 rfl (lv_at hl 0 rfl) ?_
    refine mm_get hx hb hT hown hz hm 0 (by decide) wd_735 rfl (v := .int (nI 1)) rfl dX9_isOrder_24 ?_
    refine lv_if_ne (tgt := 34) hx hb dX9_isOrder_27 (by decide) (fun c2 => ?_) (fun c2 => ?_)
    · have c2 : ¬ 1 = 0 := fun h9 => c2 ((nI_eq (a := 1) (b := 0) (by omega) (by omega)).mpr h9)
      refine lv_iconst (v := (nI 0)) hx hb dX9_isOrder_34 (by decide) ?_
      exact mm_zret hx hb hr (by decide) hlk (Nat.le_of_ble_eq_true rfl) (Nat.le_of_ble_eq_true rfl) hm dX9_isOrder_35 (⟨by rw [show rf_ix t nO = false from c]; rfl, rfl, by rw [show rf_ix t nO = false from c]; rfl⟩)
    · have c2 := (nI_eq (a := 1) (b := 0) (by omega) (by omega)).mp c2
      refine lv_iconst (v := (nI 1)) hx hb dX9_isOrder_30 (by decide) ?_
      refine lv_goto (tgt := 35) hx hb dX9_isOrder_31 (by decide) ?_
      exact absurd c2 (by decide)
  · have c := fw_b1 c
    refine lv_iconst (v := (nI 0)) hx hb dX9_isOrder_15 (by decide) ?_
    refine lv_goto (tgt := 20) hx hb dX9_isOrder_16 (by decide) ?_
    refine mm_put hx hb hT hown hz hm 0 (by decide) wd_735 dX9_isOrder_20 (fun F1 H locs hm => ?_)
    refine lv_aload_n hx hb dX9_isOrder_23 rfl (lv_at hl 0 rfl) ?_
    refine mm_get hx hb hT hown hz hm 0 (by decide) wd_735 rfl (v := .int (nI 0)) rfl dX9_isOrder_24 ?_
    refine lv_if_ne (tgt := 34) hx hb dX9_isOrder_27 (by decide) (fun c2 => ?_) (fun c2 => ?_)
    · have c2 : ¬ 0 = 0 := fun h9 => c2 ((nI_eq (a := 0) (b := 0) (by omega) (by omega)).mpr h9)
      refine lv_iconst (v := (nI 0)) hx hb dX9_isOrder_34 (by decide) ?_
      exact absurd c2 (by decide)
    · have c2 := (nI_eq (a := 0) (b := 0) (by omega) (by omega)).mp c2
      refine lv_iconst (v := (nI 1)) hx hb dX9_isOrder_30 (by decide) ?_
      refine lv_goto (tgt := 35) hx hb dX9_isOrder_31 (by decide) ?_
      exact mm_zret hx hb hr (by decide) hlk (Nat.le_of_ble_eq_true rfl) (Nat.le_of_ble_eq_true rfl) hm dX9_isOrder_35 (⟨by rw [show rf_ix t nO = true from c]; rfl, rfl, by rw [show rf_ix t nO = true from c]; rfl⟩)
set_option maxHeartbeats 4000000 in
set_option maxRecDepth 100000 in
theorem c_X9_isMachine (l : Launch) (G : fw_G) (F : fw_F) (sz y : Nat) (ad : Nat → Nat) (sc : mm_S) (f : mm_A) (t : Int32) (hW : mm_W G F y ad sc f) : mm_Ci l G F sz y ad yX9_isMachine cX9_isMachine 2 (.boolean) { frames := 1, cells := 0, slots := 0, locals := 22 } [.int t] (fun r sc1 f1 => sc1 = va_up sc 0 (fw_b (!rf_in t (nI 0) (nI 2))) ∧ f1 = f ∧ r = fw_b (rf_in t (nI 0) (nI 2))) := by
  refine fw_met (lv := [(0, .ref y), (1, .int t)]) (by decide +kernel) (Nat.le_of_ble_eq_true rfl) rfl ?_
  intro A hA p e s m below meth c ls hx hb hml hown hT hr hlk hin hz hsz hw hAn hl
  rw [← hA]
  have hown : s.vm.findClass RX9 = some m.cls := hown
  have C : CallFix p m c cX9_isMachine 2 s _ fw_tb RX9 := ⟨hx, hb, hml, hown, hT⟩
  have hm : mm_M G A s F y ad sc f F s.heap [] := ⟨hw, hW, mm_keep.rf⟩
  refine lv_aload_n hx hb dX9_isMachine_0 rfl (lv_at hl 0 rfl) ?_
  refine lv_iload_n hx hb dX9_isMachine_1 rfl (lv_at hl 1 rfl) ?_
  refine lv_iconst (v := (nI 0)) hx hb dX9_isMachine_2 (by decide) ?_
  refine lv_iconst (v := (nI 2)) hx hb dX9_isMachine_3 (by decide) ?_
  refine mm_calls (As := [.int t, .int (nI 0), .int (nI 2)]) (rest := [.ref y]) C hz hm (c_X9_in l G _ _ t (nI 0) (nI 2)) wd_821 ySX9_in ⟨Nat.le_of_ble_eq_true rfl, Nat.le_of_ble_eq_true rfl⟩ rfl hl.1 rfl (Nat.le_of_ble_eq_true rfl) dX9_isMachine_4 ⟨Nat.le_of_ble_eq_true rfl, Nat.le_of_ble_eq_true rfl⟩ (fun r H locs hm hp => ?_)
  refine W.widen (k := 0) (n := 0) (Nat.le_of_ble_eq_true rfl) (Nat.le_of_ble_eq_true rfl) ?_
  subst hp
  refine lv_if_eq (tgt := 14) hx hb dX9_isMachine_7 (by decide) (fun c => ?_) (fun c => ?_)
  · have c := fw_b0 c
    refine lv_iconst (v := (nI 1)) hx hb dX9_isMachine_14 (by decide) ?_
    refine mm_put hx hb hT hown hz hm 0 (by decide) wd_735 dX9_isMachine_15 (fun F1 H locs hm => ?_)
    refine lv_aload_n hx hb dX9_isMachine_18 rfl (lv_at hl 0 rfl) ?_
    refine mm_get hx hb hT hown hz hm 0 (by decide) wd_735 rfl (v := .int (nI 1)) rfl dX9_isMachine_19 ?_
    refine lv_if_ne (tgt := 29) hx hb dX9_isMachine_22 (by decide) (fun c2 => ?_) (fun c2 => ?_)
    · have c2 : ¬ 1 = 0 := fun h9 => c2 ((nI_eq (a := 1) (b := 0) (by omega) (by omega)).mpr h9)
      refine lv_iconst (v := (nI 0)) hx hb dX9_isMachine_29 (by decide) ?_
      exact mm_zret hx hb hr (by decide) hlk (Nat.le_of_ble_eq_true rfl) (Nat.le_of_ble_eq_true rfl) hm dX9_isMachine_30 (⟨by rw [show rf_in t (nI 0) (nI 2) = false from c]; rfl, rfl, by rw [show rf_in t (nI 0) (nI 2) = false from c]; rfl⟩)
    · have c2 := (nI_eq (a := 1) (b := 0) (by omega) (by omega)).mp c2
      refine lv_iconst (v := (nI 1)) hx hb dX9_isMachine_25 (by decide) ?_
      refine lv_goto (tgt := 30) hx hb dX9_isMachine_26 (by decide) ?_
      exact absurd c2 (by decide)
  · have c := fw_b1 c
    refine lv_iconst (v := (nI 0)) hx hb dX9_isMachine_10 (by decide) ?_
    refine lv_goto (tgt := 15) hx hb dX9_isMachine_11 (by decide) ?_
    refine mm_put hx hb hT hown hz hm 0 (by decide) wd_735 dX9_isMachine_15 (fun F1 H locs hm => ?_)
    refine lv_aload_n hx hb dX9_isMachine_18 rfl (lv_at hl 0 rfl) ?_
    refine mm_get hx hb hT hown hz hm 0 (by decide) wd_735 rfl (v := .int (nI 0)) rfl dX9_isMachine_19 ?_
    refine lv_if_ne (tgt := 29) hx hb dX9_isMachine_22 (by decide) (fun c2 => ?_) (fun c2 => ?_)
    · have c2 : ¬ 0 = 0 := fun h9 => c2 ((nI_eq (a := 0) (b := 0) (by omega) (by omega)).mpr h9)
      refine lv_iconst (v := (nI 0)) hx hb dX9_isMachine_29 (by decide) ?_
      exact absurd c2 (by decide)
    · have c2 := (nI_eq (a := 0) (b := 0) (by omega) (by omega)).mp c2
      refine lv_iconst (v := (nI 1)) hx hb dX9_isMachine_25 (by decide) ?_
      refine lv_goto (tgt := 30) hx hb dX9_isMachine_26 (by decide) ?_
      exact mm_zret hx hb hr (by decide) hlk (Nat.le_of_ble_eq_true rfl) (Nat.le_of_ble_eq_true rfl) hm dX9_isMachine_30 (⟨by rw [show rf_in t (nI 0) (nI 2) = true from c]; rfl, rfl, by rw [show rf_in t (nI 0) (nI 2) = true from c]; rfl⟩)
set_option maxHeartbeats 4000000 in
set_option maxRecDepth 100000 in
theorem c_X9_cutter (l : Launch) (G : fw_G) (F : fw_F) (sz y : Nat) (ad : Nat → Nat) (sc : mm_S) (f : mm_A) (nC : Nat) (mo te : Int32) (hW : mm_W G F y ad sc f) (e1 : sc 1 = nI nC) (hC : nC ≤ 10) : mm_Ci l G F sz y ad yX9_cutter cX9_cutter 5 (.int) { frames := 1, cells := 0, slots := 0, locals := 22 } [.int mo, .int te] (fun r sc1 f1 => sc1 = sc ∧ f1 = f ∧ r = rf_cut f nC mo te) := by
  refine fw_met (lv := [(0, .ref y), (1, .int mo), (2, .int te)]) (by decide +kernel) (Nat.le_of_ble_eq_true rfl) rfl ?_
  intro A hA p e s m below meth c ls hx hb hml hown hT hr hlk hin hz hsz hw hAn hl
  rw [← hA]
  have hown : s.vm.findClass RX9 = some m.cls := hown
  have C : CallFix p m c cX9_cutter 5 s _ fw_tb RX9 := ⟨hx, hb, hml, hown, hT⟩
  have hm : mm_M G A s F y ad sc f F s.heap [] := ⟨hw, hW, mm_keep.rf⟩
  refine lv_iconst (v := (-1)) hx hb dX9_cutter_0 (by decide) ?_
  refine lv_istore_n (lv' := [(3, .int (-1)), (0, .ref y), (1, .int mo), (2, .int te)]) hx hb dX9_cutter_1 rfl hl (by decide) rfl (fun ls hl => ?_)
  refine lv_aload_n hx hb dX9_cutter_2 rfl (lv_at hl 1 rfl) ?_
  refine mm_get hx hb hT hown hz hm 1 (by decide) wd_736 rfl (v := .int (sc 1)) rfl dX9_cutter_3 ?_
  refine fw_top (e1) ?_
  refine lv_iconst (v := (nI 1)) hx hb dX9_cutter_6 (by decide) ?_
  refine lv_isub hx hb dX9_cutter_7 ?_
  refine lv_istore (lv' := [(4, .int ((nI nC) - (nI 1))), (3, .int (-1)), (0, .ref y), (1, .int mo), (2, .int te)]) hx hb dX9_cutter_8 hl (by decide) rfl (fun ls hl => ?_)
  suffices hlp : ∀ (j : Nat) (its : Int32), j ≤ nC → rf_cutL f mo te j its = rf_cut f nC mo te → ∀ (H : Heap) (locs : List Loc) (ls : Array Slot), mm_M G A s F y ad sc f F H locs → lv_has ls 5 [(4, .int (nI j - nI 1)), (3, .int its), (0, .ref y), (1, .int mo), (2, .int te)] → W p l e { frames := 1, cells := 0, slots := 0, locals := 22 } s m ([.ref y, .int mo, .int te] : List Value).toArray below meth c H locs 0 0 (MQ below (va_Qi (mm_post G y ad F (fun r sc1 f1 => sc1 = sc ∧ f1 = f ∧ r = rf_cut f nC mo te)) (fw_B G A) A) ([.ref y, .int mo, .int te] : List Value).toArray s 0 0 A) (F0 m 10 ls []) by
    exact hlp nC (-1) (Nat.le_refl _) rfl _ _ _ hm (lv_sub hl [0, 1, 2, 3, 4] rfl)
  intro j
  induction j with
  | zero =>
    intro its hj hi H locs ls hm hl
    refine lv_iload hx hb dX9_cutter_10 (lv_at hl 0 rfl) ?_
    refine lv_if_lt (tgt := 60) hx hb dX9_cutter_12 (by decide) (fun c => ?_) (fun c => ?_)
    · refine lv_iload_n hx hb dX9_cutter_60 rfl (lv_at hl 1 rfl) ?_
      exact mm_iret hx hb hr hlk (Nat.le_of_ble_eq_true rfl) (Nat.le_of_ble_eq_true rfl) hm dX9_cutter_61 (⟨rfl, rfl, hi⟩)
    · exact absurd (by decide) c
  | succ j ih =>
    intro its hj hi H locs ls hm hl
    rw [pk_sub (a := j + 1) (b := 1) (by omega), Nat.add_sub_cancel] at hl
    refine lv_iload hx hb dX9_cutter_10 (lv_at hl 0 rfl) ?_
    refine lv_if_lt (tgt := 60) hx hb dX9_cutter_12 (by decide) (fun c => ?_) (fun c => ?_)
    · have c := (nI_ltI (a := j) (b := 0) (by omega) (by omega)).mp c
      exact absurd c (Nat.not_lt_zero _)
    · have c : ¬ j < 0 := fun h9 => c ((nI_ltI (a := j) (b := 0) (by omega) (by omega)).mpr h9)
      refine lv_aload_n hx hb dX9_cutter_15 rfl (lv_at hl 2 rfl) ?_
      refine mm_get hx hb hT hown hz hm 2 (by decide) wd_737 rfl (v := .ref (ad 2)) rfl dX9_cutter_16 ?_
      refine lv_iload hx hb dX9_cutter_19 (lv_at hl 0 rfl) ?_
      refine mm_ald hx hb hz hm 2 (j) (by decide) rfl (show j < 10 by omega) dX9_cutter_21 ?_
      refine lv_iload_n hx hb dX9_cutter_22 rfl (lv_at hl 3 rfl) ?_
      refine lv_icmp_ne (tgt := 52) hx hb dX9_cutter_23 (by decide) (fun c2 => ?_) (fun c2 => ?_)
      · refine lv_iload_n hx hb dX9_cutter_52 rfl (lv_at hl 1 rfl) ?_
        refine lv_istore_n (lv' := [(3, .int its), (4, .int (nI j)), (0, .ref y), (1, .int mo), (2, .int te)]) hx hb dX9_cutter_53 rfl hl (by decide) rfl (fun ls hl => ?_)
        refine lv_iinc (v := (nI j - nI 1)) (lv' := [(4, .int (nI j - nI 1)), (3, .int its), (0, .ref y), (1, .int mo), (2, .int te)]) hx hb dX9_cutter_54 hl (k := 1) rfl (fw_m1 _) (by decide) rfl (fun ls hl => ?_)
        refine lv_goto (tgt := 10) hx hb dX9_cutter_57 (by decide) ?_
        exact ih its (by omega) (by rw [← hi, rf_cutL, if_neg (fun h => c2 h.1)]) _ _ _ hm (lv_sub hl [0, 1, 2, 3, 4] rfl)
      · refine lv_iload_n hx hb dX9_cutter_26 rfl (lv_at hl 4 rfl) ?_
        refine lv_aload_n hx hb dX9_cutter_27 rfl (lv_at hl 2 rfl) ?_
        refine mm_get hx hb hT hown hz hm 3 (by decide) wd_738 rfl (v := .ref (ad 3)) rfl dX9_cutter_28 ?_
        refine lv_iload hx hb dX9_cutter_31 (lv_at hl 0 rfl) ?_
        refine mm_ald hx hb hz hm 3 (j) (by decide) rfl (show j < 10 by omega) dX9_cutter_33 ?_
        refine lv_aload_n hx hb dX9_cutter_34 rfl (lv_at hl 2 rfl) ?_
        refine mm_get hx hb hT hown hz hm 4 (by decide) wd_739 rfl (v := .ref (ad 4)) rfl dX9_cutter_35 ?_
        refine lv_iload hx hb dX9_cutter_38 (lv_at hl 0 rfl) ?_
        refine mm_ald hx hb hz hm 4 (j) (by decide) rfl (show j < 10 by omega) dX9_cutter_40 ?_
        refine mm_calls (As := [.int te, .int (f 3 j), .int (f 4 j)]) (rest := []) C hz hm (c_X9_in l G _ _ te (f 3 j) (f 4 j)) wd_821 ySX9_in ⟨Nat.le_of_ble_eq_true rfl, Nat.le_of_ble_eq_true rfl⟩ rfl hl.1 rfl (Nat.le_of_ble_eq_true rfl) dX9_cutter_41 ⟨Nat.le_of_ble_eq_true rfl, Nat.le_of_ble_eq_true rfl⟩ (fun r H locs hm hp => ?_)
        refine W.widen (k := 0) (n := 0) (Nat.le_of_ble_eq_true rfl) (Nat.le_of_ble_eq_true rfl) ?_
        subst hp
        refine lv_if_eq (tgt := 52) hx hb dX9_cutter_44 (by decide) (fun c3 => ?_) (fun c3 => ?_)
        · have c3 := fw_b0 c3
          refine lv_iload_n hx hb dX9_cutter_52 rfl (lv_at hl 1 rfl) ?_
          refine lv_istore_n (lv' := [(3, .int its), (4, .int (nI j)), (0, .ref y), (1, .int mo), (2, .int te)]) hx hb dX9_cutter_53 rfl hl (by decide) rfl (fun ls hl => ?_)
          refine lv_iinc (v := (nI j - nI 1)) (lv' := [(4, .int (nI j - nI 1)), (3, .int its), (0, .ref y), (1, .int mo), (2, .int te)]) hx hb dX9_cutter_54 hl (k := 1) rfl (fw_m1 _) (by decide) rfl (fun ls hl => ?_)
          refine lv_goto (tgt := 10) hx hb dX9_cutter_57 (by decide) ?_
          exact ih its (by omega) (by rw [← hi, rf_cutL, if_neg (fun h => by rw [c3] at h; cases h.2)]) _ _ _ hm (lv_sub hl [0, 1, 2, 3, 4] rfl)
        · have c3 := fw_b1 c3
          refine lv_iload hx hb dX9_cutter_47 (lv_at hl 0 rfl) ?_
          refine lv_goto (tgt := 53) hx hb dX9_cutter_49 (by decide) ?_
          refine lv_istore_n (lv' := [(3, .int (nI j)), (4, .int (nI j)), (0, .ref y), (1, .int mo), (2, .int te)]) hx hb dX9_cutter_53 rfl hl (by decide) rfl (fun ls hl => ?_)
          refine lv_iinc (v := (nI j - nI 1)) (lv' := [(4, .int (nI j - nI 1)), (3, .int (nI j)), (0, .ref y), (1, .int mo), (2, .int te)]) hx hb dX9_cutter_54 hl (k := 1) rfl (fw_m1 _) (by decide) rfl (fun ls hl => ?_)
          refine lv_goto (tgt := 10) hx hb dX9_cutter_57 (by decide) ?_
          exact ih (nI j) (by omega) (by rw [← hi, rf_cutL, if_pos ⟨c2, c3⟩]) _ _ _ hm (lv_sub hl [0, 1, 2, 3, 4] rfl)
end
section
/-! The reference's methods: sums, products, searches. -/
def rf_dist (f : mm_A) : Nat → Int32
  | 0 => 0
  | k + 1 => rf_dist f k + f 6 (3 * k) * (f 6 (3 * k + 1) + f 6 (3 * k + 2))
def rf_prod (f : mm_A) (t w : Nat) : Nat → Int32
  | 0 => 1
  | k + 1 => rf_prod f t w k * f 9 (12 * t + 3 * k + w)
def rf_on (f : mm_A) (c : Int32) : Nat → Bool
  | 0 => false
  | k + 1 => rf_on f c k || decide (f 22 k = c)
theorem rf_on_s (f : mm_A) (c : Int32) (k : Nat) : rf_on f c (k + 1) = (rf_on f c k || decide (f 22 k = c)) := rfl
def rf_can (f : mm_A) (mc : Nat) (same : Bool) (j : Nat) : Bool := if same then decide (f 18 j = f 22 mc) else !(rf_on f (f 18 j) 3)
def rf_firstL (f : mm_A) (mc : Nat) (same : Bool) : Nat → Int32 → Int32
  | 0, its => its
  | j + 1, its => rf_firstL f mc same j (if f 20 j = -1 ∧ rf_can f mc same j = true then nI j else its)
def rf_first (f : mm_A) (n mc : Nat) (same : Bool) : Int32 := rf_firstL f mc same n (-1)
def rf_left (f : mm_A) (o : Int32) : Nat → Nat
  | 0 => 0
  | k + 1 => rf_left f o k + (if f 17 k = o ∧ ¬ f 20 k = -2 then 1 else 0)
def rf_wait (f : mm_A) : Nat → Nat
  | 0 => 0
  | k + 1 => rf_wait f k + (if f 20 k = -1 then 1 else 0)
theorem rf_left_s (f : mm_A) (o : Int32) (k : Nat) : rf_left f o (k + 1) = rf_left f o k + (if f 17 k = o ∧ ¬ f 20 k = -2 then 1 else 0) := rfl
theorem rf_wait_s (f : mm_A) (k : Nat) : rf_wait f (k + 1) = rf_wait f k + (if f 20 k = -1 then 1 else 0) := rfl
theorem rf_left_le (f : mm_A) (o : Int32) : ∀ n, rf_left f o n ≤ n
  | 0 => Nat.le_refl _
  | n + 1 => by have := rf_left_le f o n; rw [rf_left]; split <;> omega
theorem rf_wait_le (f : mm_A) : ∀ n, rf_wait f n ≤ n
  | 0 => Nat.le_refl _
  | n + 1 => by have := rf_wait_le f n; rw [rf_wait]; split <;> omega
set_option maxHeartbeats 4000000 in
set_option maxRecDepth 100000 in
theorem c_X9_draftDistance (l : Launch) (G : fw_G) (F : fw_F) (sz y : Nat) (ad : Nat → Nat) (sc : mm_S) (f : mm_A) (nD : Nat) (hW : mm_W G F y ad sc f) (e5 : sc 5 = nI nD) (hD : nD ≤ 4) : mm_Ci l G F sz y ad yX9_draftDistance cX9_draftDistance 3 (.int) { frames := 0, cells := 0, slots := 0, locals := 0 } [] (fun r sc1 f1 => sc1 = sc ∧ f1 = f ∧ r = rf_dist f nD) := by
  refine fw_met (lv := [(0, .ref y)]) (by decide +kernel) (Nat.le_of_ble_eq_true rfl) rfl ?_
  intro A hA p e s m below meth c ls hx hb hml hown hT hr hlk hin hz hsz hw hAn hl
  rw [← hA]
  have hown : s.vm.findClass RX9 = some m.cls := hown
  have C : CallFix p m c cX9_draftDistance 3 s _ fw_tb RX9 := ⟨hx, hb, hml, hown, hT⟩
  have hm : mm_M G A s F y ad sc f F s.heap [] := ⟨hw, hW, mm_keep.rf⟩
  refine lv_iconst (v := (nI 0)) hx hb dX9_draftDistance_0 (by decide) ?_
  refine lv_istore_n (lv' := [(1, .int (nI 0)), (0, .ref y)]) hx hb dX9_draftDistance_1 rfl hl (by decide) rfl (fun ls hl => ?_)
  refine lv_iconst (v := (nI 0)) hx hb dX9_draftDistance_2 (by decide) ?_
  refine lv_istore_n (lv' := [(2, .int (nI 0)), (1, .int (nI 0)), (0, .ref y)]) hx hb dX9_draftDistance_3 rfl hl (by decide) rfl (fun ls hl => ?_)
  suffices hlp : ∀ (d k : Nat), k + d = nD →  ∀ (F1 : fw_F) (H : Heap) (locs : List Loc) (ls : Array Slot), mm_M G A s F y ad sc f F1 H locs → lv_has ls 3 [(2, .int (nI k)), (1, .int (rf_dist f k)), (0, .ref y)] → W p l e { frames := 0, cells := 0, slots := 0, locals := 0 } s m ([.ref y] : List Value).toArray below meth c H locs 0 0 (MQ below (va_Qi (mm_post G y ad F (fun r sc1 f1 => sc1 = sc ∧ f1 = f ∧ r = rf_dist f nD)) (fw_B G A) A) ([.ref y] : List Value).toArray s 0 0 A) (F0 m 4 ls []) by
    exact hlp nD 0  (Nat.zero_add _)  _ _ _ _ hm (lv_sub hl [0, 1, 2] rfl)
  intro d
  induction d with
  | zero =>
    intro k  hk  F1 H locs ls hm hl
    refine lv_iload_n hx hb dX9_draftDistance_4 rfl (lv_at hl 0 rfl) ?_
    refine lv_aload_n hx hb dX9_draftDistance_5 rfl (lv_at hl 2 rfl) ?_
    refine mm_get hx hb hT hown hz hm 5 (by decide) wd_740 rfl (v := .int (sc 5)) rfl dX9_draftDistance_6 ?_
    refine fw_top (e5) ?_
    refine lv_icmp_ge (tgt := 51) hx hb dX9_draftDistance_9 (by decide) (fun c1 => ?_) (fun c1 => ?_)
    · have c1 := (nI_leI (a := nD) (b := k) (by omega) (by omega)).mp c1
      refine lv_iload_n hx hb dX9_draftDistance_51 rfl (lv_at hl 1 rfl) ?_
      exact mm_iret hx hb hr hlk (Nat.le_of_ble_eq_true rfl) (Nat.le_of_ble_eq_true rfl) hm dX9_draftDistance_52 (⟨rfl, rfl, by rw [show k = nD by omega]⟩)
    · have c1 : ¬ nD ≤ k := fun h9 => c1 ((nI_leI (a := nD) (b := k) (by omega) (by omega)).mpr h9)
      omega
  | succ d ih =>
    intro k  hk  F1 H locs ls hm hl
    refine lv_iload_n hx hb dX9_draftDistance_4 rfl (lv_at hl 0 rfl) ?_
    refine lv_aload_n hx hb dX9_draftDistance_5 rfl (lv_at hl 2 rfl) ?_
    refine mm_get hx hb hT hown hz hm 5 (by decide) wd_740 rfl (v := .int (sc 5)) rfl dX9_draftDistance_6 ?_
    refine fw_top (e5) ?_
    refine lv_icmp_ge (tgt := 51) hx hb dX9_draftDistance_9 (by decide) (fun c1 => ?_) (fun c1 => ?_)
    · have c1 := (nI_leI (a := nD) (b := k) (by omega) (by omega)).mp c1
      omega
    · have c1 : ¬ nD ≤ k := fun h9 => c1 ((nI_leI (a := nD) (b := k) (by omega) (by omega)).mpr h9)
      refine lv_iload_n hx hb dX9_draftDistance_12 rfl (lv_at hl 1 rfl) ?_
      refine lv_aload_n hx hb dX9_draftDistance_13 rfl (lv_at hl 2 rfl) ?_
      refine mm_get hx hb hT hown hz hm 6 (by decide) wd_741 rfl (v := .ref (ad 6)) rfl dX9_draftDistance_14 ?_
      refine lv_iconst (v := (nI 3)) hx hb dX9_draftDistance_17 (by decide) ?_
      refine lv_iload_n hx hb dX9_draftDistance_18 rfl (lv_at hl 0 rfl) ?_
      refine lv_imul hx hb dX9_draftDistance_19 ?_
      refine fw_top (pk_mul _ _) ?_
      refine mm_ald hx hb hz hm 6 (3 * k) (by decide) rfl (show 3 * k < 12 by omega) dX9_draftDistance_20 ?_
      refine lv_aload_n hx hb dX9_draftDistance_21 rfl (lv_at hl 2 rfl) ?_
      refine mm_get hx hb hT hown hz hm 6 (by decide) wd_741 rfl (v := .ref (ad 6)) rfl dX9_draftDistance_22 ?_
      refine lv_iconst (v := (nI 3)) hx hb dX9_draftDistance_25 (by decide) ?_
      refine lv_iload_n hx hb dX9_draftDistance_26 rfl (lv_at hl 0 rfl) ?_
      refine lv_imul hx hb dX9_draftDistance_27 ?_
      refine fw_top (pk_mul _ _) ?_
      refine lv_iconst (v := (nI 1)) hx hb dX9_draftDistance_28 (by decide) ?_
      refine lv_iadd hx hb dX9_draftDistance_29 ?_
      refine fw_top (nI_add _ _) ?_
      refine mm_ald hx hb hz hm 6 ((3 * k) + 1) (by decide) rfl (show (3 * k) + 1 < 12 by omega) dX9_draftDistance_30 ?_
      refine lv_aload_n hx hb dX9_draftDistance_31 rfl (lv_at hl 2 rfl) ?_
      refine mm_get hx hb hT hown hz hm 6 (by decide) wd_741 rfl (v := .ref (ad 6)) rfl dX9_draftDistance_32 ?_
      refine lv_iconst (v := (nI 3)) hx hb dX9_draftDistance_35 (by decide) ?_
      refine lv_iload_n hx hb dX9_draftDistance_36 rfl (lv_at hl 0 rfl) ?_
      refine lv_imul hx hb dX9_draftDistance_37 ?_
      refine fw_top (pk_mul _ _) ?_
      refine lv_iconst (v := (nI 2)) hx hb dX9_draftDistance_38 (by decide) ?_
      refine lv_iadd hx hb dX9_draftDistance_39 ?_
      refine fw_top (nI_add _ _) ?_
      refine mm_ald hx hb hz hm 6 ((3 * k) + 2) (by decide) rfl (show (3 * k) + 2 < 12 by omega) dX9_draftDistance_40 ?_
      refine lv_iadd hx hb dX9_draftDistance_41 ?_
      refine lv_imul hx hb dX9_draftDistance_42 ?_
      refine lv_iadd hx hb dX9_draftDistance_43 ?_
      refine lv_istore_n (lv' := [(1, .int ((rf_dist f k) + ((f 6 (3 * k)) * ((f 6 ((3 * k) + 1)) + (f 6 ((3 * k) + 2)))))), (2, .int (nI k)), (0, .ref y)]) hx hb dX9_draftDistance_44 rfl hl (by decide) rfl (fun ls hl => ?_)
      refine lv_iinc (v := (nI (k + 1))) (lv' := [(2, .int (nI (k + 1))), (1, .int ((rf_dist f k) + ((f 6 (3 * k)) * ((f 6 ((3 * k) + 1)) + (f 6 ((3 * k) + 2)))))), (0, .ref y)]) hx hb dX9_draftDistance_45 hl (k := 1) rfl (nI_1 _) (by decide) rfl (fun ls hl => ?_)
      refine lv_goto (tgt := 4) hx hb dX9_draftDistance_48 (by decide) ?_
      exact ih (k + 1)  (by omega)  _ _ _ _ hm (lv_sub hl [0, 1, 2] rfl)
set_option maxHeartbeats 4000000 in
set_option maxRecDepth 100000 in
theorem c_X9_product (l : Launch) (G : fw_G) (F : fw_F) (sz y : Nat) (ad : Nat → Nat) (sc : mm_S) (f : mm_A) (t w sm : Nat) (hW : mm_W G F y ad sc f) (e8 : f 8 t = nI sm) (ht : t < 8) (hs : sm ≤ 4) (hw3 : w < 3) : mm_Ci l G F sz y ad yX9_product cX9_product 5 (.int) { frames := 0, cells := 0, slots := 0, locals := 0 } [.int (nI t), .int (nI w)] (fun r sc1 f1 => sc1 = sc ∧ f1 = f ∧ r = rf_prod f t w sm) := by
  refine fw_met (lv := [(0, .ref y), (1, .int (nI t)), (2, .int (nI w))]) (by decide +kernel) (Nat.le_of_ble_eq_true rfl) rfl ?_
  intro A hA p e s m below meth c ls hx hb hml hown hT hr hlk hin hz hsz hw hAn hl
  rw [← hA]
  have hown : s.vm.findClass RX9 = some m.cls := hown
  have C : CallFix p m c cX9_product 5 s _ fw_tb RX9 := ⟨hx, hb, hml, hown, hT⟩
  have hm : mm_M G A s F y ad sc f F s.heap [] := ⟨hw, hW, mm_keep.rf⟩
  refine lv_iconst (v := (nI 1)) hx hb dX9_product_0 (by decide) ?_
  refine lv_istore_n (lv' := [(3, .int (nI 1)), (0, .ref y), (1, .int (nI t)), (2, .int (nI w))]) hx hb dX9_product_1 rfl hl (by decide) rfl (fun ls hl => ?_)
  refine lv_iconst (v := (nI 0)) hx hb dX9_product_2 (by decide) ?_
  refine lv_istore (lv' := [(4, .int (nI 0)), (3, .int (nI 1)), (0, .ref y), (1, .int (nI t)), (2, .int (nI w))]) hx hb dX9_product_3 hl (by decide) rfl (fun ls hl => ?_)
  suffices hlp : ∀ (d k : Nat), k + d = sm →  ∀ (F1 : fw_F) (H : Heap) (locs : List Loc) (ls : Array Slot), mm_M G A s F y ad sc f F1 H locs → lv_has ls 5 [(4, .int (nI k)), (3, .int (rf_prod f t w k)), (0, .ref y), (1, .int (nI t)), (2, .int (nI w))] → W p l e { frames := 0, cells := 0, slots := 0, locals := 0 } s m ([.ref y, .int (nI t), .int (nI w)] : List Value).toArray below meth c H locs 0 0 (MQ below (va_Qi (mm_post G y ad F (fun r sc1 f1 => sc1 = sc ∧ f1 = f ∧ r = rf_prod f t w sm)) (fw_B G A) A) ([.ref y, .int (nI t), .int (nI w)] : List Value).toArray s 0 0 A) (F0 m 5 ls []) by
    exact hlp sm 0  (Nat.zero_add _)  _ _ _ _ hm (lv_sub hl [0, 1, 2, 3, 4] rfl)
  intro d
  induction d with
  | zero =>
    intro k  hk  F1 H locs ls hm hl
    refine lv_iload hx hb dX9_product_5 (lv_at hl 0 rfl) ?_
    refine lv_aload_n hx hb dX9_product_7 rfl (lv_at hl 2 rfl) ?_
    refine mm_get hx hb hT hown hz hm 8 (by decide) wd_743 rfl (v := .ref (ad 8)) rfl dX9_product_8 ?_
    refine lv_iload_n hx hb dX9_product_11 rfl (lv_at hl 3 rfl) ?_
    refine mm_ald hx hb hz hm 8 (t) (by decide) rfl (show t < 8 by omega) dX9_product_12 ?_
    refine fw_top (x' := (nI sm)) (e8) ?_
    refine lv_icmp_ge (tgt := 41) hx hb dX9_product_13 (by decide) (fun c1 => ?_) (fun c1 => ?_)
    · have c1 := (nI_leI (a := sm) (b := k) (by omega) (by omega)).mp c1
      refine lv_iload_n hx hb dX9_product_41 rfl (lv_at hl 1 rfl) ?_
      exact mm_iret hx hb hr hlk (Nat.le_of_ble_eq_true rfl) (Nat.le_of_ble_eq_true rfl) hm dX9_product_42 (⟨rfl, rfl, by rw [show k = sm by omega]⟩)
    · have c1 : ¬ sm ≤ k := fun h9 => c1 ((nI_leI (a := sm) (b := k) (by omega) (by omega)).mpr h9)
      omega
  | succ d ih =>
    intro k  hk  F1 H locs ls hm hl
    refine lv_iload hx hb dX9_product_5 (lv_at hl 0 rfl) ?_
    refine lv_aload_n hx hb dX9_product_7 rfl (lv_at hl 2 rfl) ?_
    refine mm_get hx hb hT hown hz hm 8 (by decide) wd_743 rfl (v := .ref (ad 8)) rfl dX9_product_8 ?_
    refine lv_iload_n hx hb dX9_product_11 rfl (lv_at hl 3 rfl) ?_
    refine mm_ald hx hb hz hm 8 (t) (by decide) rfl (show t < 8 by omega) dX9_product_12 ?_
    refine fw_top (x' := (nI sm)) (e8) ?_
    refine lv_icmp_ge (tgt := 41) hx hb dX9_product_13 (by decide) (fun c1 => ?_) (fun c1 => ?_)
    · have c1 := (nI_leI (a := sm) (b := k) (by omega) (by omega)).mp c1
      omega
    · have c1 : ¬ sm ≤ k := fun h9 => c1 ((nI_leI (a := sm) (b := k) (by omega) (by omega)).mpr h9)
      refine lv_iload_n hx hb dX9_product_16 rfl (lv_at hl 1 rfl) ?_
      refine lv_aload_n hx hb dX9_product_17 rfl (lv_at hl 2 rfl) ?_
      refine mm_get hx hb hT hown hz hm 9 (by decide) wd_744 rfl (v := .ref (ad 9)) rfl dX9_product_18 ?_
      refine lv_bipush (v := (nI 12)) hx hb dX9_product_21 (by decide) ?_
      refine lv_iload_n hx hb dX9_product_23 rfl (lv_at hl 3 rfl) ?_
      refine lv_imul hx hb dX9_product_24 ?_
      refine fw_top (pk_mul _ _) ?_
      refine lv_iconst (v := (nI 3)) hx hb dX9_product_25 (by decide) ?_
      refine lv_iload hx hb dX9_product_26 (lv_at hl 0 rfl) ?_
      refine lv_imul hx hb dX9_product_28 ?_
      refine fw_top (pk_mul _ _) ?_
      refine lv_iadd hx hb dX9_product_29 ?_
      refine fw_top (nI_add _ _) ?_
      refine lv_iload_n hx hb dX9_product_30 rfl (lv_at hl 4 rfl) ?_
      refine lv_iadd hx hb dX9_product_31 ?_
      refine fw_top (nI_add _ _) ?_
      refine mm_ald hx hb hz hm 9 (((12 * t) + (3 * k)) + w) (by decide) rfl (show ((12 * t) + (3 * k)) + w < 96 by omega) dX9_product_32 ?_
      refine lv_imul hx hb dX9_product_33 ?_
      refine lv_istore_n (lv' := [(3, .int ((rf_prod f t w k) * (f 9 (((12 * t) + (3 * k)) + w)))), (4, .int (nI k)), (0, .ref y), (1, .int (nI t)), (2, .int (nI w))]) hx hb dX9_product_34 rfl hl (by decide) rfl (fun ls hl => ?_)
      refine lv_iinc (v := (nI (k + 1))) (lv' := [(4, .int (nI (k + 1))), (3, .int ((rf_prod f t w k) * (f 9 (((12 * t) + (3 * k)) + w)))), (0, .ref y), (1, .int (nI t)), (2, .int (nI w))]) hx hb dX9_product_35 hl (k := 1) rfl (nI_1 _) (by decide) rfl (fun ls hl => ?_)
      refine lv_goto (tgt := 5) hx hb dX9_product_38 (by decide) ?_
      exact ih (k + 1)  (by omega)  _ _ _ _ hm (lv_sub hl [0, 1, 2, 3, 4] rfl)
set_option maxHeartbeats 4000000 in
set_option maxRecDepth 100000 in
theorem c_X9_isOn (l : Launch) (G : fw_G) (F : fw_F) (sz y : Nat) (ad : Nat → Nat) (sc : mm_S) (f : mm_A) (cu : Int32) (hW : mm_W G F y ad sc f) : mm_Ci l G F sz y ad yX9_isOn cX9_isOn 4 (.boolean) { frames := 0, cells := 0, slots := 0, locals := 0 } [.int cu] (fun r sc1 f1 => sc1 = sc ∧ f1 = f ∧ r = fw_b (rf_on f cu 3)) := by
  refine fw_met (lv := [(0, .ref y), (1, .int cu)]) (by decide +kernel) (Nat.le_of_ble_eq_true rfl) rfl ?_
  intro A hA p e s m below meth c ls hx hb hml hown hT hr hlk hin hz hsz hw hAn hl
  rw [← hA]
  have hown : s.vm.findClass RX9 = some m.cls := hown
  have C : CallFix p m c cX9_isOn 4 s _ fw_tb RX9 := ⟨hx, hb, hml, hown, hT⟩
  have hm : mm_M G A s F y ad sc f F s.heap [] := ⟨hw, hW, mm_keep.rf⟩
  refine lv_iconst (v := (nI 0)) hx hb dX9_isOn_0 (by decide) ?_
  refine lv_istore_n (lv' := [(2, .int (nI 0)), (0, .ref y), (1, .int cu)]) hx hb dX9_isOn_1 rfl hl (by decide) rfl (fun ls hl => ?_)
  refine lv_iconst (v := (nI 0)) hx hb dX9_isOn_2 (by decide) ?_
  refine lv_istore_n (lv' := [(3, .int (nI 0)), (2, .int (nI 0)), (0, .ref y), (1, .int cu)]) hx hb dX9_isOn_3 rfl hl (by decide) rfl (fun ls hl => ?_)
  suffices hlp : ∀ (d k : Nat), k + d = 3 →  ∀ (F1 : fw_F) (H : Heap) (locs : List Loc) (ls : Array Slot), mm_M G A s F y ad sc f F1 H locs → lv_has ls 4 [(3, .int (nI k)), (2, .int (fw_b (rf_on f cu k))), (0, .ref y), (1, .int cu)] → W p l e { frames := 0, cells := 0, slots := 0, locals := 0 } s m ([.ref y, .int cu] : List Value).toArray below meth c H locs 0 0 (MQ below (va_Qi (mm_post G y ad F (fun r sc1 f1 => sc1 = sc ∧ f1 = f ∧ r = fw_b (rf_on f cu 3))) (fw_B G A) A) ([.ref y, .int cu] : List Value).toArray s 0 0 A) (F0 m 4 ls []) by
    exact hlp 3 0  (Nat.zero_add _)  _ _ _ _ hm (lv_sub hl [0, 1, 2, 3] rfl)
  intro d
  induction d with
  | zero =>
    intro k  hk  F1 H locs ls hm hl
    refine lv_iload_n hx hb dX9_isOn_4 rfl (lv_at hl 0 rfl) ?_
    refine lv_iconst (v := (nI 3)) hx hb dX9_isOn_5 (by decide) ?_
    refine lv_icmp_ge (tgt := 35) hx hb dX9_isOn_6 (by decide) (fun c1 => ?_) (fun c1 => ?_)
    · have c1 := (nI_leI (a := 3) (b := k) (by omega) (by omega)).mp c1
      refine lv_iload_n hx hb dX9_isOn_35 rfl (lv_at hl 1 rfl) ?_
      exact mm_zret hx hb hr (fw_b01 _) hlk (Nat.le_of_ble_eq_true rfl) (Nat.le_of_ble_eq_true rfl) hm dX9_isOn_36 (⟨rfl, rfl, by rw [show k = 3 by omega]⟩)
    · have c1 : ¬ 3 ≤ k := fun h9 => c1 ((nI_leI (a := 3) (b := k) (by omega) (by omega)).mpr h9)
      omega
  | succ d ih =>
    intro k  hk  F1 H locs ls hm hl
    refine lv_iload_n hx hb dX9_isOn_4 rfl (lv_at hl 0 rfl) ?_
    refine lv_iconst (v := (nI 3)) hx hb dX9_isOn_5 (by decide) ?_
    refine lv_icmp_ge (tgt := 35) hx hb dX9_isOn_6 (by decide) (fun c1 => ?_) (fun c1 => ?_)
    · have c1 := (nI_leI (a := 3) (b := k) (by omega) (by omega)).mp c1
      omega
    · have c1 : ¬ 3 ≤ k := fun h9 => c1 ((nI_leI (a := 3) (b := k) (by omega) (by omega)).mpr h9)
      refine lv_iload_n hx hb dX9_isOn_9 rfl (lv_at hl 1 rfl) ?_
      refine lv_if_ne (tgt := 23) hx hb dX9_isOn_10 (by decide) (fun c2 => ?_) (fun c2 => ?_)
      · have c2 := fw_b1 c2
        refine lv_iconst (v := (nI 1)) hx hb dX9_isOn_23 (by decide) ?_
        refine lv_goto (tgt := 28) hx hb dX9_isOn_24 (by decide) ?_
        refine fw_top (x' := (fw_b (rf_on f cu (k + 1)))) (by rw [rf_on_s, c2]; rfl) ?_
        refine lv_istore_n (lv' := [(2, .int (fw_b (rf_on f cu (k + 1)))), (3, .int (nI k)), (0, .ref y), (1, .int cu)]) hx hb dX9_isOn_28 rfl hl (by decide) rfl (fun ls hl => ?_)
        refine lv_iinc (v := (nI (k + 1))) (lv' := [(3, .int (nI (k + 1))), (2, .int (fw_b (rf_on f cu (k + 1)))), (0, .ref y), (1, .int cu)]) hx hb dX9_isOn_29 hl (k := 1) rfl (nI_1 _) (by decide) rfl (fun ls hl => ?_)
        refine lv_goto (tgt := 4) hx hb dX9_isOn_32 (by decide) ?_
        exact ih (k + 1)  (by omega)  _ _ _ _ hm (lv_sub hl [0, 1, 2, 3] rfl)
      · have c2 := fw_b0 c2
        refine lv_aload_n hx hb dX9_isOn_13 rfl (lv_at hl 2 rfl) ?_
        refine mm_get hx hb hT hown hz hm 22 (by decide) wd_757 rfl (v := .ref (ad 22)) rfl dX9_isOn_14 ?_
        refine lv_iload_n hx hb dX9_isOn_17 rfl (lv_at hl 0 rfl) ?_
        refine mm_ald hx hb hz hm 22 (k) (by decide) rfl (show k < 3 by omega) dX9_isOn_18 ?_
        refine lv_iload_n hx hb dX9_isOn_19 rfl (lv_at hl 3 rfl) ?_
        refine lv_icmp_ne (tgt := 27) hx hb dX9_isOn_20 (by decide) (fun c3 => ?_) (fun c3 => ?_)
        · refine lv_iconst (v := (nI 0)) hx hb dX9_isOn_27 (by decide) ?_
          refine fw_top (x' := (fw_b (rf_on f cu (k + 1)))) (by rw [rf_on_s, c2, decide_eq_false c3]; rfl) ?_
          refine lv_istore_n (lv' := [(2, .int (fw_b (rf_on f cu (k + 1)))), (3, .int (nI k)), (0, .ref y), (1, .int cu)]) hx hb dX9_isOn_28 rfl hl (by decide) rfl (fun ls hl => ?_)
          refine lv_iinc (v := (nI (k + 1))) (lv' := [(3, .int (nI (k + 1))), (2, .int (fw_b (rf_on f cu (k + 1)))), (0, .ref y), (1, .int cu)]) hx hb dX9_isOn_29 hl (k := 1) rfl (nI_1 _) (by decide) rfl (fun ls hl => ?_)
          refine lv_goto (tgt := 4) hx hb dX9_isOn_32 (by decide) ?_
          exact ih (k + 1)  (by omega)  _ _ _ _ hm (lv_sub hl [0, 1, 2, 3] rfl)
        · refine lv_iconst (v := (nI 1)) hx hb dX9_isOn_23 (by decide) ?_
          refine lv_goto (tgt := 28) hx hb dX9_isOn_24 (by decide) ?_
          refine fw_top (x' := (fw_b (rf_on f cu (k + 1)))) (by rw [rf_on_s, c2, decide_eq_true c3]; rfl) ?_
          refine lv_istore_n (lv' := [(2, .int (fw_b (rf_on f cu (k + 1)))), (3, .int (nI k)), (0, .ref y), (1, .int cu)]) hx hb dX9_isOn_28 rfl hl (by decide) rfl (fun ls hl => ?_)
          refine lv_iinc (v := (nI (k + 1))) (lv' := [(3, .int (nI (k + 1))), (2, .int (fw_b (rf_on f cu (k + 1)))), (0, .ref y), (1, .int cu)]) hx hb dX9_isOn_29 hl (k := 1) rfl (nI_1 _) (by decide) rfl (fun ls hl => ?_)
          refine lv_goto (tgt := 4) hx hb dX9_isOn_32 (by decide) ?_
          exact ih (k + 1)  (by omega)  _ _ _ _ hm (lv_sub hl [0, 1, 2, 3] rfl)
set_option maxHeartbeats 4000000 in
set_option maxRecDepth 100000 in
theorem c_X9_toCut (l : Launch) (G : fw_G) (F : fw_F) (sz y : Nat) (ad : Nat → Nat) (sc : mm_S) (f : mm_A) (nJ : Nat) (o : Int32) (hW : mm_W G F y ad sc f) (e16 : sc 16 = nI nJ) (hJ : nJ ≤ 96) : mm_Ci l G F sz y ad yX9_toCut cX9_toCut 4 (.int) { frames := 0, cells := 0, slots := 0, locals := 0 } [.int o] (fun r sc1 f1 => sc1 = sc ∧ f1 = f ∧ r = nI (rf_left f o nJ)) := by
  refine fw_met (lv := [(0, .ref y), (1, .int o)]) (by decide +kernel) (Nat.le_of_ble_eq_true rfl) rfl ?_
  intro A hA p e s m below meth c ls hx hb hml hown hT hr hlk hin hz hsz hw hAn hl
  rw [← hA]
  have hown : s.vm.findClass RX9 = some m.cls := hown
  have C : CallFix p m c cX9_toCut 4 s _ fw_tb RX9 := ⟨hx, hb, hml, hown, hT⟩
  have hm : mm_M G A s F y ad sc f F s.heap [] := ⟨hw, hW, mm_keep.rf⟩
  refine lv_iconst (v := (nI 0)) hx hb dX9_toCut_0 (by decide) ?_
  refine lv_istore_n (lv' := [(2, .int (nI 0)), (0, .ref y), (1, .int o)]) hx hb dX9_toCut_1 rfl hl (by decide) rfl (fun ls hl => ?_)
  refine lv_iconst (v := (nI 0)) hx hb dX9_toCut_2 (by decide) ?_
  refine lv_istore_n (lv' := [(3, .int (nI 0)), (2, .int (nI 0)), (0, .ref y), (1, .int o)]) hx hb dX9_toCut_3 rfl hl (by decide) rfl (fun ls hl => ?_)
  suffices hlp : ∀ (d k : Nat), k + d = nJ →  ∀ (F1 : fw_F) (H : Heap) (locs : List Loc) (ls : Array Slot), mm_M G A s F y ad sc f F1 H locs → lv_has ls 4 [(3, .int (nI k)), (2, .int (nI (rf_left f o k))), (0, .ref y), (1, .int o)] → W p l e { frames := 0, cells := 0, slots := 0, locals := 0 } s m ([.ref y, .int o] : List Value).toArray below meth c H locs 0 0 (MQ below (va_Qi (mm_post G y ad F (fun r sc1 f1 => sc1 = sc ∧ f1 = f ∧ r = nI (rf_left f o nJ))) (fw_B G A) A) ([.ref y, .int o] : List Value).toArray s 0 0 A) (F0 m 4 ls []) by
    exact hlp nJ 0  (Nat.zero_add _)  _ _ _ _ hm (lv_sub hl [0, 1, 2, 3] rfl)
  intro d
  induction d with
  | zero =>
    intro k  hk  F1 H locs ls hm hl
    refine lv_iload_n hx hb dX9_toCut_4 rfl (lv_at hl 0 rfl) ?_
    refine lv_aload_n hx hb dX9_toCut_5 rfl (lv_at hl 2 rfl) ?_
    refine mm_get hx hb hT hown hz hm 16 (by decide) wd_751 rfl (v := .int (sc 16)) rfl dX9_toCut_6 ?_
    refine fw_top (e16) ?_
    refine lv_icmp_ge (tgt := 47) hx hb dX9_toCut_9 (by decide) (fun c1 => ?_) (fun c1 => ?_)
    · have c1 := (nI_leI (a := nJ) (b := k) (by omega) (by omega)).mp c1
      refine lv_iload_n hx hb dX9_toCut_47 rfl (lv_at hl 1 rfl) ?_
      exact mm_iret hx hb hr hlk (Nat.le_of_ble_eq_true rfl) (Nat.le_of_ble_eq_true rfl) hm dX9_toCut_48 (⟨rfl, rfl, by rw [show k = nJ by omega]⟩)
    · have c1 : ¬ nJ ≤ k := fun h9 => c1 ((nI_leI (a := nJ) (b := k) (by omega) (by omega)).mpr h9)
      omega
  | succ d ih =>
    intro k  hk  F1 H locs ls hm hl
    refine lv_iload_n hx hb dX9_toCut_4 rfl (lv_at hl 0 rfl) ?_
    refine lv_aload_n hx hb dX9_toCut_5 rfl (lv_at hl 2 rfl) ?_
    refine mm_get hx hb hT hown hz hm 16 (by decide) wd_751 rfl (v := .int (sc 16)) rfl dX9_toCut_6 ?_
    refine fw_top (e16) ?_
    refine lv_icmp_ge (tgt := 47) hx hb dX9_toCut_9 (by decide) (fun c1 => ?_) (fun c1 => ?_)
    · have c1 := (nI_leI (a := nJ) (b := k) (by omega) (by omega)).mp c1
      omega
    · have c1 : ¬ nJ ≤ k := fun h9 => c1 ((nI_leI (a := nJ) (b := k) (by omega) (by omega)).mpr h9)
      refine lv_iload_n hx hb dX9_toCut_12 rfl (lv_at hl 1 rfl) ?_
      refine lv_aload_n hx hb dX9_toCut_13 rfl (lv_at hl 2 rfl) ?_
      refine mm_get hx hb hT hown hz hm 17 (by decide) wd_752 rfl (v := .ref (ad 17)) rfl dX9_toCut_14 ?_
      refine lv_iload_n hx hb dX9_toCut_17 rfl (lv_at hl 0 rfl) ?_
      refine mm_ald hx hb hz hm 17 (k) (by decide) rfl (show k < 96 by omega) dX9_toCut_18 ?_
      refine lv_iload_n hx hb dX9_toCut_19 rfl (lv_at hl 3 rfl) ?_
      refine lv_icmp_ne (tgt := 38) hx hb dX9_toCut_20 (by decide) (fun c2 => ?_) (fun c2 => ?_)
      · refine lv_iconst (v := (nI 0)) hx hb dX9_toCut_38 (by decide) ?_
        refine lv_iadd hx hb dX9_toCut_39 ?_
        refine fw_top (nI_add _ _) ?_
        refine fw_top (x' := (nI (rf_left f o (k + 1)))) (by rw [rf_left_s, if_neg (fun h => c2 h.1)]) ?_
        refine lv_istore_n (lv' := [(2, .int (nI (rf_left f o (k + 1)))), (3, .int (nI k)), (0, .ref y), (1, .int o)]) hx hb dX9_toCut_40 rfl hl (by decide) rfl (fun ls hl => ?_)
        refine lv_iinc (v := (nI (k + 1))) (lv' := [(3, .int (nI (k + 1))), (2, .int (nI (rf_left f o (k + 1)))), (0, .ref y), (1, .int o)]) hx hb dX9_toCut_41 hl (k := 1) rfl (nI_1 _) (by decide) rfl (fun ls hl => ?_)
        refine lv_goto (tgt := 4) hx hb dX9_toCut_44 (by decide) ?_
        exact ih (k + 1)  (by omega)  _ _ _ _ hm (lv_sub hl [0, 1, 2, 3] rfl)
      · refine lv_aload_n hx hb dX9_toCut_23 rfl (lv_at hl 2 rfl) ?_
        refine mm_get hx hb hT hown hz hm 20 (by decide) wd_755 rfl (v := .ref (ad 20)) rfl dX9_toCut_24 ?_
        refine lv_iload_n hx hb dX9_toCut_27 rfl (lv_at hl 0 rfl) ?_
        refine mm_ald hx hb hz hm 20 (k) (by decide) rfl (show k < 96 by omega) dX9_toCut_28 ?_
        refine lv_bipush (v := (-2)) hx hb dX9_toCut_29 (by decide) ?_
        refine lv_icmp_eq (tgt := 38) hx hb dX9_toCut_31 (by decide) (fun c3 => ?_) (fun c3 => ?_)
        · refine lv_iconst (v := (nI 0)) hx hb dX9_toCut_38 (by decide) ?_
          refine lv_iadd hx hb dX9_toCut_39 ?_
          refine fw_top (nI_add _ _) ?_
          refine fw_top (x' := (nI (rf_left f o (k + 1)))) (by rw [rf_left_s, if_neg (fun h => h.2 c3)]) ?_
          refine lv_istore_n (lv' := [(2, .int (nI (rf_left f o (k + 1)))), (3, .int (nI k)), (0, .ref y), (1, .int o)]) hx hb dX9_toCut_40 rfl hl (by decide) rfl (fun ls hl => ?_)
          refine lv_iinc (v := (nI (k + 1))) (lv' := [(3, .int (nI (k + 1))), (2, .int (nI (rf_left f o (k + 1)))), (0, .ref y), (1, .int o)]) hx hb dX9_toCut_41 hl (k := 1) rfl (nI_1 _) (by decide) rfl (fun ls hl => ?_)
          refine lv_goto (tgt := 4) hx hb dX9_toCut_44 (by decide) ?_
          exact ih (k + 1)  (by omega)  _ _ _ _ hm (lv_sub hl [0, 1, 2, 3] rfl)
        · refine lv_iconst (v := (nI 1)) hx hb dX9_toCut_34 (by decide) ?_
          refine lv_goto (tgt := 39) hx hb dX9_toCut_35 (by decide) ?_
          refine lv_iadd hx hb dX9_toCut_39 ?_
          refine fw_top (nI_add _ _) ?_
          refine fw_top (x' := (nI (rf_left f o (k + 1)))) (by rw [rf_left_s, if_pos ⟨c2, c3⟩]) ?_
          refine lv_istore_n (lv' := [(2, .int (nI (rf_left f o (k + 1)))), (3, .int (nI k)), (0, .ref y), (1, .int o)]) hx hb dX9_toCut_40 rfl hl (by decide) rfl (fun ls hl => ?_)
          refine lv_iinc (v := (nI (k + 1))) (lv' := [(3, .int (nI (k + 1))), (2, .int (nI (rf_left f o (k + 1)))), (0, .ref y), (1, .int o)]) hx hb dX9_toCut_41 hl (k := 1) rfl (nI_1 _) (by decide) rfl (fun ls hl => ?_)
          refine lv_goto (tgt := 4) hx hb dX9_toCut_44 (by decide) ?_
          exact ih (k + 1)  (by omega)  _ _ _ _ hm (lv_sub hl [0, 1, 2, 3] rfl)
set_option maxHeartbeats 4000000 in
set_option maxRecDepth 100000 in
theorem c_X9_waiting (l : Launch) (G : fw_G) (F : fw_F) (sz y : Nat) (ad : Nat → Nat) (sc : mm_S) (f : mm_A) (nJ : Nat) (hW : mm_W G F y ad sc f) (e16 : sc 16 = nI nJ) (hJ : nJ ≤ 96) : mm_Ci l G F sz y ad yX9_waiting cX9_waiting 3 (.int) { frames := 0, cells := 0, slots := 0, locals := 0 } [] (fun r sc1 f1 => sc1 = va_up sc 0 (nI 0) ∧ f1 = f ∧ r = nI (rf_wait f nJ)) := by
  refine fw_met (lv := [(0, .ref y)]) (by decide +kernel) (Nat.le_of_ble_eq_true rfl) rfl ?_
  intro A hA p e s m below meth c ls hx hb hml hown hT hr hlk hin hz hsz hw hAn hl
  rw [← hA]
  have hown : s.vm.findClass RX9 = some m.cls := hown
  have C : CallFix p m c cX9_waiting 3 s _ fw_tb RX9 := ⟨hx, hb, hml, hown, hT⟩
  have hm : mm_M G A s F y ad sc f F s.heap [] := ⟨hw, hW, mm_keep.rf⟩
  refine lv_aload_n hx hb dX9_waiting_0 rfl (lv_at hl 0 rfl) ?_
  refine lv_iconst (v := (nI 0)) hx hb dX9_waiting_1 (by decide) ?_
  refine mm_put hx hb hT hown hz hm 0 (by decide) wd_735 dX9_waiting_2 (fun F1 H locs hm => ?_)
  refine lv_iconst (v := (nI 0)) hx hb dX9_waiting_5 (by decide) ?_
  refine lv_istore_n (lv' := [(1, .int (nI 0)), (0, .ref y)]) hx hb dX9_waiting_6 rfl hl (by decide) rfl (fun ls hl => ?_)
  refine lv_iconst (v := (nI 0)) hx hb dX9_waiting_7 (by decide) ?_
  refine lv_istore_n (lv' := [(2, .int (nI 0)), (1, .int (nI 0)), (0, .ref y)]) hx hb dX9_waiting_8 rfl hl (by decide) rfl (fun ls hl => ?_)
  suffices hlp : ∀ (d k : Nat), k + d = nJ →  ∀ (F1 : fw_F) (H : Heap) (locs : List Loc) (ls : Array Slot), mm_M G A s F y ad (va_up sc 0 (nI 0)) f F1 H locs → lv_has ls 3 [(2, .int (nI k)), (1, .int (nI (rf_wait f k))), (0, .ref y)] → W p l e { frames := 0, cells := 0, slots := 0, locals := 0 } s m ([.ref y] : List Value).toArray below meth c H locs 0 0 (MQ below (va_Qi (mm_post G y ad F (fun r sc1 f1 => sc1 = va_up sc 0 (nI 0) ∧ f1 = f ∧ r = nI (rf_wait f nJ))) (fw_B G A) A) ([.ref y] : List Value).toArray s 0 0 A) (F0 m 9 ls []) by
    exact hlp nJ 0  (Nat.zero_add _)  _ _ _ _ hm (lv_sub hl [0, 1, 2] rfl)
  intro d
  induction d with
  | zero =>
    intro k  hk  F1 H locs ls hm hl
    refine lv_iload_n hx hb dX9_waiting_9 rfl (lv_at hl 0 rfl) ?_
    refine lv_aload_n hx hb dX9_waiting_10 rfl (lv_at hl 2 rfl) ?_
    refine mm_get hx hb hT hown hz hm 16 (by decide) wd_751 rfl (v := .int ((va_up sc 0 (nI 0)) 16)) rfl dX9_waiting_11 ?_
    refine fw_top (e16) ?_
    refine lv_icmp_ge (tgt := 41) hx hb dX9_waiting_14 (by decide) (fun c1 => ?_) (fun c1 => ?_)
    · have c1 := (nI_leI (a := nJ) (b := k) (by omega) (by omega)).mp c1
      refine lv_iload_n hx hb dX9_waiting_41 rfl (lv_at hl 1 rfl) ?_
      exact mm_iret hx hb hr hlk (Nat.le_of_ble_eq_true rfl) (Nat.le_of_ble_eq_true rfl) hm dX9_waiting_42 (⟨rfl, rfl, by rw [show k = nJ by omega]⟩)
    · have c1 : ¬ nJ ≤ k := fun h9 => c1 ((nI_leI (a := nJ) (b := k) (by omega) (by omega)).mpr h9)
      omega
  | succ d ih =>
    intro k  hk  F1 H locs ls hm hl
    refine lv_iload_n hx hb dX9_waiting_9 rfl (lv_at hl 0 rfl) ?_
    refine lv_aload_n hx hb dX9_waiting_10 rfl (lv_at hl 2 rfl) ?_
    refine mm_get hx hb hT hown hz hm 16 (by decide) wd_751 rfl (v := .int ((va_up sc 0 (nI 0)) 16)) rfl dX9_waiting_11 ?_
    refine fw_top (e16) ?_
    refine lv_icmp_ge (tgt := 41) hx hb dX9_waiting_14 (by decide) (fun c1 => ?_) (fun c1 => ?_)
    · have c1 := (nI_leI (a := nJ) (b := k) (by omega) (by omega)).mp c1
      omega
    · have c1 : ¬ nJ ≤ k := fun h9 => c1 ((nI_leI (a := nJ) (b := k) (by omega) (by omega)).mpr h9)
      refine lv_iload_n hx hb dX9_waiting_17 rfl (lv_at hl 1 rfl) ?_
      refine lv_aload_n hx hb dX9_waiting_18 rfl (lv_at hl 2 rfl) ?_
      refine mm_get hx hb hT hown hz hm 20 (by decide) wd_755 rfl (v := .ref (ad 20)) rfl dX9_waiting_19 ?_
      refine lv_iload_n hx hb dX9_waiting_22 rfl (lv_at hl 0 rfl) ?_
      refine mm_ald hx hb hz hm 20 (k) (by decide) rfl (show k < 96 by omega) dX9_waiting_23 ?_
      refine lv_iconst (v := (-1)) hx hb dX9_waiting_24 (by decide) ?_
      refine lv_icmp_ne (tgt := 32) hx hb dX9_waiting_25 (by decide) (fun c2 => ?_) (fun c2 => ?_)
      · refine lv_iconst (v := (nI 0)) hx hb dX9_waiting_32 (by decide) ?_
        refine lv_iadd hx hb dX9_waiting_33 ?_
        refine fw_top (nI_add _ _) ?_
        refine fw_top (x' := (nI (rf_wait f (k + 1)))) (by rw [rf_wait_s, if_neg c2]) ?_
        refine lv_istore_n (lv' := [(1, .int (nI (rf_wait f (k + 1)))), (2, .int (nI k)), (0, .ref y)]) hx hb dX9_waiting_34 rfl hl (by decide) rfl (fun ls hl => ?_)
        refine lv_iinc (v := (nI (k + 1))) (lv' := [(2, .int (nI (k + 1))), (1, .int (nI (rf_wait f (k + 1)))), (0, .ref y)]) hx hb dX9_waiting_35 hl (k := 1) rfl (nI_1 _) (by decide) rfl (fun ls hl => ?_)
        refine lv_goto (tgt := 9) hx hb dX9_waiting_38 (by decide) ?_
        exact ih (k + 1)  (by omega)  _ _ _ _ hm (lv_sub hl [0, 1, 2] rfl)
      · refine lv_iconst (v := (nI 1)) hx hb dX9_waiting_28 (by decide) ?_
        refine lv_goto (tgt := 33) hx hb dX9_waiting_29 (by decide) ?_
        refine lv_iadd hx hb dX9_waiting_33 ?_
        refine fw_top (nI_add _ _) ?_
        refine fw_top (x' := (nI (rf_wait f (k + 1)))) (by rw [rf_wait_s, if_pos c2]) ?_
        refine lv_istore_n (lv' := [(1, .int (nI (rf_wait f (k + 1)))), (2, .int (nI k)), (0, .ref y)]) hx hb dX9_waiting_34 rfl hl (by decide) rfl (fun ls hl => ?_)
        refine lv_iinc (v := (nI (k + 1))) (lv' := [(2, .int (nI (k + 1))), (1, .int (nI (rf_wait f (k + 1)))), (0, .ref y)]) hx hb dX9_waiting_35 hl (k := 1) rfl (nI_1 _) (by decide) rfl (fun ls hl => ?_)
        refine lv_goto (tgt := 9) hx hb dX9_waiting_38 (by decide) ?_
        exact ih (k + 1)  (by omega)  _ _ _ _ hm (lv_sub hl [0, 1, 2] rfl)
set_option maxHeartbeats 4000000 in
set_option maxRecDepth 100000 in
theorem c_X9_lacks (l : Launch) (G : fw_G) (F : fw_F) (sz y : Nat) (ad : Nat → Nat) (sc : mm_S) (f : mm_A) (nC : Nat) (mo te : Int32) (hW : mm_W G F y ad sc f) (e1 : sc 1 = nI nC) (hC : nC ≤ 10) : mm_Ci l G F sz y ad yX9_lacks cX9_lacks 3 (.int) { frames := 2, cells := 0, slots := 0, locals := 46 } [.int mo, .int te] (fun r sc1 f1 => sc1 = sc ∧ f1 = f ∧ r = fw_b (decide (rf_cut f nC mo te = -1))) := by
  refine fw_met (lv := [(0, .ref y), (1, .int mo), (2, .int te)]) (by decide +kernel) (Nat.le_of_ble_eq_true rfl) rfl ?_
  intro A hA p e s m below meth c ls hx hb hml hown hT hr hlk hin hz hsz hw hAn hl
  rw [← hA]
  have hown : s.vm.findClass RX9 = some m.cls := hown
  have C : CallFix p m c cX9_lacks 3 s _ fw_tb RX9 := ⟨hx, hb, hml, hown, hT⟩
  have hm : mm_M G A s F y ad sc f F s.heap [] := ⟨hw, hW, mm_keep.rf⟩
  refine lv_aload_n hx hb dX9_lacks_0 rfl (lv_at hl 0 rfl) ?_
  refine lv_iload_n hx hb dX9_lacks_1 rfl (lv_at hl 1 rfl) ?_
  refine lv_iload_n hx hb dX9_lacks_2 rfl (lv_at hl 2 rfl) ?_
  refine mm_calli (As := [.int mo, .int te]) (rest := []) C hz hm (c_X9_cutter l G _ _ y ad _ _ nC mo te hm.2.1 e1 hC) wd_828 yVX9_cutter ⟨Nat.le_of_ble_eq_true rfl, Nat.le_of_ble_eq_true rfl⟩ rfl hl.1 rfl (Nat.le_of_ble_eq_true rfl) dX9_lacks_3 ⟨Nat.le_of_ble_eq_true rfl, Nat.le_of_ble_eq_true rfl⟩ (fun r sc1 f1 F1 H locs hm hp => ?_)
  refine W.widen (k := 0) (n := 0) (Nat.le_of_ble_eq_true rfl) (Nat.le_of_ble_eq_true rfl) ?_
  obtain ⟨h7, h8, h9⟩ := hp
  rw [h7, h8] at hm
  subst h9
  refine lv_iconst (v := (-1)) hx hb dX9_lacks_6 (by decide) ?_
  refine lv_icmp_ne (tgt := 14) hx hb dX9_lacks_7 (by decide) (fun c1 => ?_) (fun c1 => ?_)
  · refine lv_iconst (v := (nI 0)) hx hb dX9_lacks_14 (by decide) ?_
    exact mm_iret hx hb hr hlk (Nat.le_of_ble_eq_true rfl) (Nat.le_of_ble_eq_true rfl) hm dX9_lacks_15 (⟨rfl, rfl, by rw [decide_eq_false c1]; rfl⟩)
  · refine lv_iconst (v := (nI 1)) hx hb dX9_lacks_10 (by decide) ?_
    refine lv_goto (tgt := 15) hx hb dX9_lacks_11 (by decide) ?_
    exact mm_iret hx hb hr hlk (Nat.le_of_ble_eq_true rfl) (Nat.le_of_ble_eq_true rfl) hm dX9_lacks_15 (⟨rfl, rfl, by rw [decide_eq_true c1]; rfl⟩)
set_option maxHeartbeats 4000000 in
set_option maxRecDepth 100000 in
theorem c_X9_time (l : Launch) (G : fw_G) (F : fw_F) (sz y : Nat) (ad : Nat → Nat) (sc : mm_S) (f : mm_A) (hW : mm_W G F y ad sc f) : mm_Ci l G F sz y ad yX9_time cX9_time 1 (.int) { frames := 0, cells := 0, slots := 0, locals := 0 } [] (fun r sc1 f1 => sc1 = va_up sc 0 (nI 0) ∧ f1 = f ∧ r = sc 21) := by
  refine fw_met (lv := [(0, .ref y)]) (by decide +kernel) (Nat.le_of_ble_eq_true rfl) rfl ?_
  intro A hA p e s m below meth c ls hx hb hml hown hT hr hlk hin hz hsz hw hAn hl
  rw [← hA]
  have hown : s.vm.findClass RX9 = some m.cls := hown
  have C : CallFix p m c cX9_time 1 s _ fw_tb RX9 := ⟨hx, hb, hml, hown, hT⟩
  have hm : mm_M G A s F y ad sc f F s.heap [] := ⟨hw, hW, mm_keep.rf⟩
  refine lv_aload_n hx hb dX9_time_0 rfl (lv_at hl 0 rfl) ?_
  refine lv_iconst (v := (nI 0)) hx hb dX9_time_1 (by decide) ?_
  refine mm_put hx hb hT hown hz hm 0 (by decide) wd_735 dX9_time_2 (fun F1 H locs hm => ?_)
  refine lv_aload_n hx hb dX9_time_5 rfl (lv_at hl 0 rfl) ?_
  refine mm_get hx hb hT hown hz hm 21 (by decide) wd_756 rfl (v := .int (sc 21)) rfl dX9_time_6 ?_
  exact mm_iret hx hb hr hlk (Nat.le_of_ble_eq_true rfl) (Nat.le_of_ble_eq_true rfl) hm dX9_time_9 (⟨rfl, rfl, rfl⟩)
set_option maxHeartbeats 4000000 in
set_option maxRecDepth 100000 in
theorem c_X9_scrap (l : Launch) (G : fw_G) (F : fw_F) (sz y : Nat) (ad : Nat → Nat) (sc : mm_S) (f : mm_A) (hW : mm_W G F y ad sc f) : mm_Ci l G F sz y ad yX9_scrap cX9_scrap 2 (.int) { frames := 0, cells := 0, slots := 0, locals := 0 } [] (fun r sc1 f1 => sc1 = va_up (va_up sc 0 (nI 0)) 5 (nI 0) ∧ f1 = f ∧ r = sc 5) := by
  refine fw_met (lv := [(0, .ref y)]) (by decide +kernel) (Nat.le_of_ble_eq_true rfl) rfl ?_
  intro A hA p e s m below meth c ls hx hb hml hown hT hr hlk hin hz hsz hw hAn hl
  rw [← hA]
  have hown : s.vm.findClass RX9 = some m.cls := hown
  have C : CallFix p m c cX9_scrap 2 s _ fw_tb RX9 := ⟨hx, hb, hml, hown, hT⟩
  have hm : mm_M G A s F y ad sc f F s.heap [] := ⟨hw, hW, mm_keep.rf⟩
  refine lv_aload_n hx hb dX9_scrap_0 rfl (lv_at hl 0 rfl) ?_
  refine lv_iconst (v := (nI 0)) hx hb dX9_scrap_1 (by decide) ?_
  refine mm_put hx hb hT hown hz hm 0 (by decide) wd_735 dX9_scrap_2 (fun F1 H locs hm => ?_)
  refine lv_aload_n hx hb dX9_scrap_5 rfl (lv_at hl 0 rfl) ?_
  refine mm_get hx hb hT hown hz hm 5 (by decide) wd_740 rfl (v := .int (sc 5)) rfl dX9_scrap_6 ?_
  refine lv_istore_n (lv' := [(1, .int (sc 5)), (0, .ref y)]) hx hb dX9_scrap_9 rfl hl (by decide) rfl (fun ls hl => ?_)
  refine lv_aload_n hx hb dX9_scrap_10 rfl (lv_at hl 1 rfl) ?_
  refine lv_iconst (v := (nI 0)) hx hb dX9_scrap_11 (by decide) ?_
  refine mm_put hx hb hT hown hz hm 5 (by decide) wd_740 dX9_scrap_12 (fun F1 H locs hm => ?_)
  refine lv_iload_n hx hb dX9_scrap_15 rfl (lv_at hl 0 rfl) ?_
  exact mm_iret hx hb hr hlk (Nat.le_of_ble_eq_true rfl) (Nat.le_of_ble_eq_true rfl) hm dX9_scrap_16 (⟨rfl, rfl, rfl⟩)
end
section
/-! The reference's methods: cutters, drafts, answers of one place. -/
def rf_okG (mo te : Int32) : Bool := rf_in mo (nI 1) (nI 4) && rf_in te (nI 8) (nI 60)
def rf_okC (mo le mx : Int32) : Bool := rf_in mo (nI 1) (nI 4) && rf_in le (nI 8) (nI 60) && rf_in mx le (nI 60)
def rf_okS (mo a b : Int32) : Bool := rf_in mo (nI 1) (nI 4) && rf_in a (nI 8) (nI 60) && rf_in b (nI 8) (nI 60)
theorem rf_ix_t {t : Int32} {n : Nat} (hn : n ≤ 100) (h : rf_ix t n = true) : ∃ j, j < n ∧ t = nI j := by
  obtain ⟨h1, h2⟩ := rf_in_t.mp h
  obtain ⟨j, hj, rfl⟩ := nI_of (x := t) (Int32.not_lt.mpr h1)
  cases n with
  | zero =>
    exfalso
    rw [Int32.le_iff_toInt_le, nI_toInt hj] at h2
    have : (nI 0 - nI 1).toInt = -1 := by decide
    omega
  | succ n =>
    rw [pk_sub (a := n + 1) (b := 1) (by omega), nI_leI (by omega) (by omega)] at h2
    exact ⟨j, by omega, rfl⟩
set_option maxHeartbeats 4000000 in
set_option maxRecDepth 100000 in
theorem c_X9_cutterFor (l : Launch) (G : fw_G) (F : fw_F) (sz y : Nat) (ad : Nat → Nat) (sc : mm_S) (f : mm_A) (nC : Nat) (mo te : Int32) (hW : mm_W G F y ad sc f) (e1 : sc 1 = nI nC) (hC : nC ≤ 10) : mm_Ci l G F sz y ad yX9_cutterFor cX9_cutterFor 3 (.int) { frames := 2, cells := 0, slots := 0, locals := 46 } [.int mo, .int te] (fun r sc1 f1 => f1 = f ∧ (rf_okG mo te = false → sc1 = va_up sc 0 (nI 1)) ∧ (rf_okG mo te = true → sc1 = va_up sc 0 (nI 0) ∧ r = rf_cut f nC mo te)) := by
  refine fw_met (lv := [(0, .ref y), (1, .int mo), (2, .int te)]) (by decide +kernel) (Nat.le_of_ble_eq_true rfl) rfl ?_
  intro A hA p e s m below meth c ls hx hb hml hown hT hr hlk hin hz hsz hw hAn hl
  rw [← hA]
  have hown : s.vm.findClass RX9 = some m.cls := hown
  have C : CallFix p m c cX9_cutterFor 3 s _ fw_tb RX9 := ⟨hx, hb, hml, hown, hT⟩
  have hm : mm_M G A s F y ad sc f F s.heap [] := ⟨hw, hW, mm_keep.rf⟩
  refine lv_aload_n hx hb dX9_cutterFor_0 rfl (lv_at hl 0 rfl) ?_
  refine lv_iload_n hx hb dX9_cutterFor_1 rfl (lv_at hl 1 rfl) ?_
  refine lv_iconst (v := (nI 1)) hx hb dX9_cutterFor_2 (by decide) ?_
  refine lv_iconst (v := (nI 4)) hx hb dX9_cutterFor_3 (by decide) ?_
  refine mm_calls (As := [.int mo, .int (nI 1), .int (nI 4)]) (rest := [.ref y]) C hz hm (c_X9_in l G _ _ mo (nI 1) (nI 4)) wd_821 ySX9_in ⟨Nat.le_of_ble_eq_true rfl, Nat.le_of_ble_eq_true rfl⟩ rfl hl.1 rfl (Nat.le_of_ble_eq_true rfl) dX9_cutterFor_4 ⟨Nat.le_of_ble_eq_true rfl, Nat.le_of_ble_eq_true rfl⟩ (fun r H locs hm hp => ?_)
  refine W.widen (k := 0) (n := 0) (Nat.le_of_ble_eq_true rfl) (Nat.le_of_ble_eq_true rfl) ?_
  subst hp
  refine lv_if_eq (tgt := 25) hx hb dX9_cutterFor_7 (by decide) (fun c0 => ?_) (fun c0 => ?_)
  · have c0 := fw_b0 c0
    refine lv_iconst (v := (nI 1)) hx hb dX9_cutterFor_25 (by decide) ?_
    refine mm_put hx hb hT hown hz hm 0 (by decide) wd_735 dX9_cutterFor_26 (fun F1 H locs hm => ?_)
    refine lv_aload_n hx hb dX9_cutterFor_29 rfl (lv_at hl 0 rfl) ?_
    refine mm_get hx hb hT hown hz hm 0 (by decide) wd_735 rfl (v := .int (nI 1)) rfl dX9_cutterFor_30 ?_
    refine lv_if_le (tgt := 40) hx hb dX9_cutterFor_33 (by decide) (fun cx => absurd cx (by decide)) (fun cx => ?_)
    refine lv_iconst (v := (nI 0)) hx hb dX9_cutterFor_36 (by decide) ?_
    refine lv_goto (tgt := 46) hx hb dX9_cutterFor_37 (by decide) ?_
    exact mm_iret hx hb hr hlk (Nat.le_of_ble_eq_true rfl) (Nat.le_of_ble_eq_true rfl) hm dX9_cutterFor_46 (by refine ⟨rfl, fun _ => rfl, fun h => ?_⟩; simp [rf_okG, c0] at h)
  · have c0 := fw_b1 c0
    refine lv_iload_n hx hb dX9_cutterFor_10 rfl (lv_at hl 2 rfl) ?_
    refine lv_bipush (v := (nI 8)) hx hb dX9_cutterFor_11 (by decide) ?_
    refine lv_bipush (v := (nI 60)) hx hb dX9_cutterFor_13 (by decide) ?_
    refine mm_calls (As := [.int te, .int (nI 8), .int (nI 60)]) (rest := [.ref y]) C hz hm (c_X9_in l G _ _ te (nI 8) (nI 60)) wd_821 ySX9_in ⟨Nat.le_of_ble_eq_true rfl, Nat.le_of_ble_eq_true rfl⟩ rfl hl.1 rfl (Nat.le_of_ble_eq_true rfl) dX9_cutterFor_15 ⟨Nat.le_of_ble_eq_true rfl, Nat.le_of_ble_eq_true rfl⟩ (fun r H locs hm hp => ?_)
    refine W.widen (k := 0) (n := 0) (Nat.le_of_ble_eq_true rfl) (Nat.le_of_ble_eq_true rfl) ?_
    subst hp
    refine lv_if_eq (tgt := 25) hx hb dX9_cutterFor_18 (by decide) (fun c1 => ?_) (fun c1 => ?_)
    · have c1 := fw_b0 c1
      refine lv_iconst (v := (nI 1)) hx hb dX9_cutterFor_25 (by decide) ?_
      refine mm_put hx hb hT hown hz hm 0 (by decide) wd_735 dX9_cutterFor_26 (fun F1 H locs hm => ?_)
      refine lv_aload_n hx hb dX9_cutterFor_29 rfl (lv_at hl 0 rfl) ?_
      refine mm_get hx hb hT hown hz hm 0 (by decide) wd_735 rfl (v := .int (nI 1)) rfl dX9_cutterFor_30 ?_
      refine lv_if_le (tgt := 40) hx hb dX9_cutterFor_33 (by decide) (fun cx => absurd cx (by decide)) (fun cx => ?_)
      refine lv_iconst (v := (nI 0)) hx hb dX9_cutterFor_36 (by decide) ?_
      refine lv_goto (tgt := 46) hx hb dX9_cutterFor_37 (by decide) ?_
      exact mm_iret hx hb hr hlk (Nat.le_of_ble_eq_true rfl) (Nat.le_of_ble_eq_true rfl) hm dX9_cutterFor_46 (by refine ⟨rfl, fun _ => rfl, fun h => ?_⟩; simp [rf_okG, c0, c1] at h)
    · have c1 := fw_b1 c1
      refine lv_iconst (v := (nI 0)) hx hb dX9_cutterFor_21 (by decide) ?_
      refine lv_goto (tgt := 26) hx hb dX9_cutterFor_22 (by decide) ?_
      refine mm_put hx hb hT hown hz hm 0 (by decide) wd_735 dX9_cutterFor_26 (fun F1 H locs hm => ?_)
      refine lv_aload_n hx hb dX9_cutterFor_29 rfl (lv_at hl 0 rfl) ?_
      refine mm_get hx hb hT hown hz hm 0 (by decide) wd_735 rfl (v := .int (nI 0)) rfl dX9_cutterFor_30 ?_
      refine lv_if_le (tgt := 40) hx hb dX9_cutterFor_33 (by decide) (fun cx => ?_) (fun cx => absurd cx (by decide))
      refine lv_aload_n hx hb dX9_cutterFor_40 rfl (lv_at hl 0 rfl) ?_
      refine lv_iload_n hx hb dX9_cutterFor_41 rfl (lv_at hl 1 rfl) ?_
      refine lv_iload_n hx hb dX9_cutterFor_42 rfl (lv_at hl 2 rfl) ?_
      refine mm_calli (As := [.int mo, .int te]) (rest := []) C hz hm (c_X9_cutter l G _ _ y ad _ _ nC mo te hm.2.1 e1 hC) wd_828 yVX9_cutter ⟨Nat.le_of_ble_eq_true rfl, Nat.le_of_ble_eq_true rfl⟩ rfl hl.1 rfl (Nat.le_of_ble_eq_true rfl) dX9_cutterFor_43 ⟨Nat.le_of_ble_eq_true rfl, Nat.le_of_ble_eq_true rfl⟩ (fun r sc1 f1 F1 H locs hm hp => ?_)
      refine W.widen (k := 0) (n := 0) (Nat.le_of_ble_eq_true rfl) (Nat.le_of_ble_eq_true rfl) ?_
      obtain ⟨h7, h8, h9⟩ := hp
      rw [h7, h8] at hm
      subst h9
      exact mm_iret hx hb hr hlk (Nat.le_of_ble_eq_true rfl) (Nat.le_of_ble_eq_true rfl) hm dX9_cutterFor_46 (by refine ⟨rfl, fun h => ?_, fun _ => ⟨rfl, rfl⟩⟩; simp [rf_okG, c0, c1] at h)
set_option maxHeartbeats 4000000 in
set_option maxRecDepth 100000 in
theorem c_X9_addCutter (l : Launch) (G : fw_G) (F : fw_F) (sz y : Nat) (ad : Nat → Nat) (sc : mm_S) (f : mm_A) (nC : Nat) (mo le mx : Int32) (hW : mm_W G F y ad sc f) (e1 : sc 1 = nI nC) (hC : nC ≤ 10) : mm_Ci l G F sz y ad yX9_addCutter cX9_addCutter 5 (.int) { frames := 1, cells := 0, slots := 0, locals := 22 } [.int mo, .int le, .int mx] (fun r sc1 f1 => (rf_okC mo le mx = false → f1 = f ∧ sc1 = va_up sc 0 (nI 1)) ∧ (rf_okC mo le mx = true → nC = 10 → f1 = f ∧ sc1 = va_up sc 0 (nI 2)) ∧ (rf_okC mo le mx = true → nC < 10 → f1 = va_up (va_up (va_up f 2 (upd (f 2) nC mo)) 3 (upd (f 3) nC le)) 4 (upd (f 4) nC mx) ∧ sc1 = va_up (va_up sc 0 (nI 0)) 1 (nI (nC + 1)) ∧ r = nI nC)) := by
  refine fw_met (lv := [(0, .ref y), (1, .int mo), (2, .int le), (3, .int mx)]) (by decide +kernel) (Nat.le_of_ble_eq_true rfl) rfl ?_
  intro A hA p e s m below meth c ls hx hb hml hown hT hr hlk hin hz hsz hw hAn hl
  rw [← hA]
  have hown : s.vm.findClass RX9 = some m.cls := hown
  have C : CallFix p m c cX9_addCutter 5 s _ fw_tb RX9 := ⟨hx, hb, hml, hown, hT⟩
  have hm : mm_M G A s F y ad sc f F s.heap [] := ⟨hw, hW, mm_keep.rf⟩
  refine lv_iload_n hx hb dX9_addCutter_0 rfl (lv_at hl 1 rfl) ?_
  refine lv_iconst (v := (nI 1)) hx hb dX9_addCutter_1 (by decide) ?_
  refine lv_iconst (v := (nI 4)) hx hb dX9_addCutter_2 (by decide) ?_
  refine mm_calls (As := [.int mo, .int (nI 1), .int (nI 4)]) (rest := []) C hz hm (c_X9_in l G _ _ mo (nI 1) (nI 4)) wd_821 ySX9_in ⟨Nat.le_of_ble_eq_true rfl, Nat.le_of_ble_eq_true rfl⟩ rfl hl.1 rfl (Nat.le_of_ble_eq_true rfl) dX9_addCutter_3 ⟨Nat.le_of_ble_eq_true rfl, Nat.le_of_ble_eq_true rfl⟩ (fun r H locs hm hp => ?_)
  refine W.widen (k := 0) (n := 0) (Nat.le_of_ble_eq_true rfl) (Nat.le_of_ble_eq_true rfl) ?_
  subst hp
  refine lv_if_eq (tgt := 34) hx hb dX9_addCutter_6 (by decide) (fun c0 => ?_) (fun c0 => ?_)
  · have c0 := fw_b0 c0
    refine lv_iconst (v := (nI 0)) hx hb dX9_addCutter_34 (by decide) ?_
    refine lv_istore (lv' := [(4, .int (nI 0)), (0, .ref y), (1, .int mo), (2, .int le), (3, .int mx)]) hx hb dX9_addCutter_35 hl (by decide) rfl (fun ls hl => ?_)
    refine lv_aload_n hx hb dX9_addCutter_37 rfl (lv_at hl 1 rfl) ?_
    refine lv_iload hx hb dX9_addCutter_38 (lv_at hl 0 rfl) ?_
    refine lv_if_ne (tgt := 47) hx hb dX9_addCutter_40 (by decide) (fun cx => absurd cx (by decide)) (fun cx => ?_)
    refine lv_iconst (v := (nI 1)) hx hb dX9_addCutter_43 (by decide) ?_
    refine lv_goto (tgt := 61) hx hb dX9_addCutter_44 (by decide) ?_
    refine mm_put hx hb hT hown hz hm 0 (by decide) wd_735 dX9_addCutter_61 (fun F1 H locs hm => ?_)
    refine lv_aload_n hx hb dX9_addCutter_64 rfl (lv_at hl 1 rfl) ?_
    refine mm_get hx hb hT hown hz hm 0 (by decide) wd_735 rfl (v := .int (nI 1)) rfl dX9_addCutter_65 ?_
    refine lv_if_le (tgt := 73) hx hb dX9_addCutter_68 (by decide) (fun cx => absurd cx (by decide)) (fun cx => ?_)
    refine lv_iconst (v := (nI 0)) hx hb dX9_addCutter_71 (by decide) ?_
    exact mm_iret hx hb hr hlk (Nat.le_of_ble_eq_true rfl) (Nat.le_of_ble_eq_true rfl) hm dX9_addCutter_72 (by refine ⟨fun _ => ⟨rfl, rfl⟩, fun h => ?_, fun h => ?_⟩ <;> simp [rf_okC, c0] at h)
  · have c0 := fw_b1 c0
    refine lv_iload_n hx hb dX9_addCutter_9 rfl (lv_at hl 2 rfl) ?_
    refine lv_bipush (v := (nI 8)) hx hb dX9_addCutter_10 (by decide) ?_
    refine lv_bipush (v := (nI 60)) hx hb dX9_addCutter_12 (by decide) ?_
    refine mm_calls (As := [.int le, .int (nI 8), .int (nI 60)]) (rest := []) C hz hm (c_X9_in l G _ _ le (nI 8) (nI 60)) wd_821 ySX9_in ⟨Nat.le_of_ble_eq_true rfl, Nat.le_of_ble_eq_true rfl⟩ rfl hl.1 rfl (Nat.le_of_ble_eq_true rfl) dX9_addCutter_14 ⟨Nat.le_of_ble_eq_true rfl, Nat.le_of_ble_eq_true rfl⟩ (fun r H locs hm hp => ?_)
    refine W.widen (k := 0) (n := 0) (Nat.le_of_ble_eq_true rfl) (Nat.le_of_ble_eq_true rfl) ?_
    subst hp
    refine lv_if_eq (tgt := 34) hx hb dX9_addCutter_17 (by decide) (fun c1 => ?_) (fun c1 => ?_)
    · have c1 := fw_b0 c1
      refine lv_iconst (v := (nI 0)) hx hb dX9_addCutter_34 (by decide) ?_
      refine lv_istore (lv' := [(4, .int (nI 0)), (0, .ref y), (1, .int mo), (2, .int le), (3, .int mx)]) hx hb dX9_addCutter_35 hl (by decide) rfl (fun ls hl => ?_)
      refine lv_aload_n hx hb dX9_addCutter_37 rfl (lv_at hl 1 rfl) ?_
      refine lv_iload hx hb dX9_addCutter_38 (lv_at hl 0 rfl) ?_
      refine lv_if_ne (tgt := 47) hx hb dX9_addCutter_40 (by decide) (fun cx => absurd cx (by decide)) (fun cx => ?_)
      refine lv_iconst (v := (nI 1)) hx hb dX9_addCutter_43 (by decide) ?_
      refine lv_goto (tgt := 61) hx hb dX9_addCutter_44 (by decide) ?_
      refine mm_put hx hb hT hown hz hm 0 (by decide) wd_735 dX9_addCutter_61 (fun F1 H locs hm => ?_)
      refine lv_aload_n hx hb dX9_addCutter_64 rfl (lv_at hl 1 rfl) ?_
      refine mm_get hx hb hT hown hz hm 0 (by decide) wd_735 rfl (v := .int (nI 1)) rfl dX9_addCutter_65 ?_
      refine lv_if_le (tgt := 73) hx hb dX9_addCutter_68 (by decide) (fun cx => absurd cx (by decide)) (fun cx => ?_)
      refine lv_iconst (v := (nI 0)) hx hb dX9_addCutter_71 (by decide) ?_
      exact mm_iret hx hb hr hlk (Nat.le_of_ble_eq_true rfl) (Nat.le_of_ble_eq_true rfl) hm dX9_addCutter_72 (by refine ⟨fun _ => ⟨rfl, rfl⟩, fun h => ?_, fun h => ?_⟩ <;> simp [rf_okC, c0, c1] at h)
    · have c1 := fw_b1 c1
      refine lv_iload_n hx hb dX9_addCutter_20 rfl (lv_at hl 3 rfl) ?_
      refine lv_iload_n hx hb dX9_addCutter_21 rfl (lv_at hl 2 rfl) ?_
      refine lv_bipush (v := (nI 60)) hx hb dX9_addCutter_22 (by decide) ?_
      refine mm_calls (As := [.int mx, .int le, .int (nI 60)]) (rest := []) C hz hm (c_X9_in l G _ _ mx le (nI 60)) wd_821 ySX9_in ⟨Nat.le_of_ble_eq_true rfl, Nat.le_of_ble_eq_true rfl⟩ rfl hl.1 rfl (Nat.le_of_ble_eq_true rfl) dX9_addCutter_24 ⟨Nat.le_of_ble_eq_true rfl, Nat.le_of_ble_eq_true rfl⟩ (fun r H locs hm hp => ?_)
      refine W.widen (k := 0) (n := 0) (Nat.le_of_ble_eq_true rfl) (Nat.le_of_ble_eq_true rfl) ?_
      subst hp
      refine lv_if_eq (tgt := 34) hx hb dX9_addCutter_27 (by decide) (fun c2 => ?_) (fun c2 => ?_)
      · have c2 := fw_b0 c2
        refine lv_iconst (v := (nI 0)) hx hb dX9_addCutter_34 (by decide) ?_
        refine lv_istore (lv' := [(4, .int (nI 0)), (0, .ref y), (1, .int mo), (2, .int le), (3, .int mx)]) hx hb dX9_addCutter_35 hl (by decide) rfl (fun ls hl => ?_)
        refine lv_aload_n hx hb dX9_addCutter_37 rfl (lv_at hl 1 rfl) ?_
        refine lv_iload hx hb dX9_addCutter_38 (lv_at hl 0 rfl) ?_
        refine lv_if_ne (tgt := 47) hx hb dX9_addCutter_40 (by decide) (fun cx => absurd cx (by decide)) (fun cx => ?_)
        refine lv_iconst (v := (nI 1)) hx hb dX9_addCutter_43 (by decide) ?_
        refine lv_goto (tgt := 61) hx hb dX9_addCutter_44 (by decide) ?_
        refine mm_put hx hb hT hown hz hm 0 (by decide) wd_735 dX9_addCutter_61 (fun F1 H locs hm => ?_)
        refine lv_aload_n hx hb dX9_addCutter_64 rfl (lv_at hl 1 rfl) ?_
        refine mm_get hx hb hT hown hz hm 0 (by decide) wd_735 rfl (v := .int (nI 1)) rfl dX9_addCutter_65 ?_
        refine lv_if_le (tgt := 73) hx hb dX9_addCutter_68 (by decide) (fun cx => absurd cx (by decide)) (fun cx => ?_)
        refine lv_iconst (v := (nI 0)) hx hb dX9_addCutter_71 (by decide) ?_
        exact mm_iret hx hb hr hlk (Nat.le_of_ble_eq_true rfl) (Nat.le_of_ble_eq_true rfl) hm dX9_addCutter_72 (by refine ⟨fun _ => ⟨rfl, rfl⟩, fun h => ?_, fun h => ?_⟩ <;> simp [rf_okC, c0, c1, c2] at h)
      · have c2 := fw_b1 c2
        refine lv_iconst (v := (nI 1)) hx hb dX9_addCutter_30 (by decide) ?_
        refine lv_goto (tgt := 35) hx hb dX9_addCutter_31 (by decide) ?_
        refine lv_istore (lv' := [(4, .int (nI 1)), (0, .ref y), (1, .int mo), (2, .int le), (3, .int mx)]) hx hb dX9_addCutter_35 hl (by decide) rfl (fun ls hl => ?_)
        refine lv_aload_n hx hb dX9_addCutter_37 rfl (lv_at hl 1 rfl) ?_
        refine lv_iload hx hb dX9_addCutter_38 (lv_at hl 0 rfl) ?_
        refine lv_if_ne (tgt := 47) hx hb dX9_addCutter_40 (by decide) (fun cx => ?_) (fun cx => absurd cx (by decide))
        refine lv_aload_n hx hb dX9_addCutter_47 rfl (lv_at hl 1 rfl) ?_
        refine mm_get hx hb hT hown hz hm 1 (by decide) wd_736 rfl (v := .int (sc 1)) rfl dX9_addCutter_48 ?_
        refine fw_top (e1) ?_
        refine lv_bipush (v := (nI 10)) hx hb dX9_addCutter_51 (by decide) ?_
        refine lv_icmp_ne (tgt := 60) hx hb dX9_addCutter_53 (by decide) (fun d => ?_) (fun d => ?_)
        · have d : ¬ nC = 10 := fun h9 => d ((nI_eq (a := nC) (b := 10) (by omega) (by omega)).mpr h9)
          have hd : nC < 10 := by omega
          refine lv_iconst (v := (nI 0)) hx hb dX9_addCutter_60 (by decide) ?_
          refine mm_put hx hb hT hown hz hm 0 (by decide) wd_735 dX9_addCutter_61 (fun F1 H locs hm => ?_)
          refine lv_aload_n hx hb dX9_addCutter_64 rfl (lv_at hl 1 rfl) ?_
          refine mm_get hx hb hT hown hz hm 0 (by decide) wd_735 rfl (v := .int (nI 0)) rfl dX9_addCutter_65 ?_
          refine lv_if_le (tgt := 73) hx hb dX9_addCutter_68 (by decide) (fun cx => ?_) (fun cx => absurd cx (by decide))
          refine lv_aload_n hx hb dX9_addCutter_73 rfl (lv_at hl 1 rfl) ?_
          refine mm_get hx hb hT hown hz hm 2 (by decide) wd_737 rfl (v := .ref (ad 2)) rfl dX9_addCutter_74 ?_
          refine lv_aload_n hx hb dX9_addCutter_77 rfl (lv_at hl 1 rfl) ?_
          refine mm_get hx hb hT hown hz hm 1 (by decide) wd_736 rfl (v := .int (sc 1)) rfl dX9_addCutter_78 ?_
          refine fw_top (e1) ?_
          refine lv_iload_n hx hb dX9_addCutter_81 rfl (lv_at hl 2 rfl) ?_
          refine mm_ast hx hb hz hm 2 (nC) (by decide) rfl (show nC < 10 by omega) dX9_addCutter_82 (fun F1 H locs hm => ?_)
          refine lv_aload_n hx hb dX9_addCutter_83 rfl (lv_at hl 1 rfl) ?_
          refine mm_get hx hb hT hown hz hm 3 (by decide) wd_738 rfl (v := .ref (ad 3)) rfl dX9_addCutter_84 ?_
          refine lv_aload_n hx hb dX9_addCutter_87 rfl (lv_at hl 1 rfl) ?_
          refine mm_get hx hb hT hown hz hm 1 (by decide) wd_736 rfl (v := .int (sc 1)) rfl dX9_addCutter_88 ?_
          refine fw_top (e1) ?_
          refine lv_iload_n hx hb dX9_addCutter_91 rfl (lv_at hl 3 rfl) ?_
          refine mm_ast hx hb hz hm 3 (nC) (by decide) rfl (show nC < 10 by omega) dX9_addCutter_92 (fun F1 H locs hm => ?_)
          refine lv_aload_n hx hb dX9_addCutter_93 rfl (lv_at hl 1 rfl) ?_
          refine mm_get hx hb hT hown hz hm 4 (by decide) wd_739 rfl (v := .ref (ad 4)) rfl dX9_addCutter_94 ?_
          refine lv_aload_n hx hb dX9_addCutter_97 rfl (lv_at hl 1 rfl) ?_
          refine mm_get hx hb hT hown hz hm 1 (by decide) wd_736 rfl (v := .int (sc 1)) rfl dX9_addCutter_98 ?_
          refine fw_top (e1) ?_
          refine lv_iload_n hx hb dX9_addCutter_101 rfl (lv_at hl 4 rfl) ?_
          refine mm_ast hx hb hz hm 4 (nC) (by decide) rfl (show nC < 10 by omega) dX9_addCutter_102 (fun F1 H locs hm => ?_)
          refine lv_aload_n hx hb dX9_addCutter_103 rfl (lv_at hl 1 rfl) ?_
          refine lv_dup hx hb dX9_addCutter_104 rfl ?_
          refine mm_get hx hb hT hown hz hm 1 (by decide) wd_736 rfl (v := .int (sc 1)) rfl dX9_addCutter_105 ?_
          refine fw_top (e1) ?_
          refine lv_iconst (v := (nI 1)) hx hb dX9_addCutter_108 (by decide) ?_
          refine lv_iadd hx hb dX9_addCutter_109 ?_
          refine fw_top (nI_add _ _) ?_
          refine mm_put hx hb hT hown hz hm 1 (by decide) wd_736 dX9_addCutter_110 (fun F1 H locs hm => ?_)
          refine lv_aload_n hx hb dX9_addCutter_113 rfl (lv_at hl 1 rfl) ?_
          refine mm_get hx hb hT hown hz hm 1 (by decide) wd_736 rfl (v := .int (nI (nC + 1))) rfl dX9_addCutter_114 ?_
          refine lv_iconst (v := (nI 1)) hx hb dX9_addCutter_117 (by decide) ?_
          refine lv_isub hx hb dX9_addCutter_118 ?_
          refine fw_top (pk_sub (by omega)) ?_
          exact mm_iret hx hb hr hlk (Nat.le_of_ble_eq_true rfl) (Nat.le_of_ble_eq_true rfl) hm dX9_addCutter_119 (⟨fun h => by simp [rf_okC, c0, c1, c2] at h, fun _ h => absurd h d, fun _ _ => ⟨rfl, rfl, by rw [Nat.add_sub_cancel]⟩⟩)
        · have d := (nI_eq (a := nC) (b := 10) (by omega) (by omega)).mp d
          refine lv_iconst (v := (nI 2)) hx hb dX9_addCutter_56 (by decide) ?_
          refine lv_goto (tgt := 61) hx hb dX9_addCutter_57 (by decide) ?_
          refine mm_put hx hb hT hown hz hm 0 (by decide) wd_735 dX9_addCutter_61 (fun F1 H locs hm => ?_)
          refine lv_aload_n hx hb dX9_addCutter_64 rfl (lv_at hl 1 rfl) ?_
          refine mm_get hx hb hT hown hz hm 0 (by decide) wd_735 rfl (v := .int (nI 2)) rfl dX9_addCutter_65 ?_
          refine lv_if_le (tgt := 73) hx hb dX9_addCutter_68 (by decide) (fun cx => absurd cx (by decide)) (fun cx => ?_)
          refine lv_iconst (v := (nI 0)) hx hb dX9_addCutter_71 (by decide) ?_
          exact mm_iret hx hb hr hlk (Nat.le_of_ble_eq_true rfl) (Nat.le_of_ble_eq_true rfl) hm dX9_addCutter_72 (by refine ⟨fun h => ?_, fun _ _ => ⟨rfl, rfl⟩, fun _ h => absurd d (by omega)⟩; simp [rf_okC, c0, c1, c2] at h)
set_option maxHeartbeats 4000000 in
set_option maxRecDepth 100000 in
theorem c_X9_stage (l : Launch) (G : fw_G) (F : fw_F) (sz y : Nat) (ad : Nat → Nat) (sc : mm_S) (f : mm_A) (nD : Nat) (mo a b : Int32) (hW : mm_W G F y ad sc f) (e5 : sc 5 = nI nD) (hD : nD ≤ 4) : mm_Ci l G F sz y ad yX9_stage cX9_stage 5 (.int) { frames := 1, cells := 0, slots := 0, locals := 22 } [.int mo, .int a, .int b] (fun r sc1 f1 => (rf_okS mo a b = false → f1 = f ∧ sc1 = va_up sc 0 (nI 1)) ∧ (rf_okS mo a b = true → nD = 4 → f1 = f ∧ sc1 = va_up sc 0 (nI 2)) ∧ (rf_okS mo a b = true → nD < 4 → f1 = va_up f 6 (upd (upd (upd (f 6) (3 * nD) mo) (3 * nD + 1) a) (3 * nD + 2) b) ∧ sc1 = va_up (va_up sc 0 (nI 0)) 5 (nI (nD + 1)) ∧ r = rf_dist f1 (nD + 1))) := by
  refine fw_met (lv := [(0, .ref y), (1, .int mo), (2, .int a), (3, .int b)]) (by decide +kernel) (Nat.le_of_ble_eq_true rfl) rfl ?_
  intro A hA p e s m below meth c ls hx hb hml hown hT hr hlk hin hz hsz hw hAn hl
  rw [← hA]
  have hown : s.vm.findClass RX9 = some m.cls := hown
  have C : CallFix p m c cX9_stage 5 s _ fw_tb RX9 := ⟨hx, hb, hml, hown, hT⟩
  have hm : mm_M G A s F y ad sc f F s.heap [] := ⟨hw, hW, mm_keep.rf⟩
  refine lv_iload_n hx hb dX9_stage_0 rfl (lv_at hl 1 rfl) ?_
  refine lv_iconst (v := (nI 1)) hx hb dX9_stage_1 (by decide) ?_
  refine lv_iconst (v := (nI 4)) hx hb dX9_stage_2 (by decide) ?_
  refine mm_calls (As := [.int mo, .int (nI 1), .int (nI 4)]) (rest := []) C hz hm (c_X9_in l G _ _ mo (nI 1) (nI 4)) wd_821 ySX9_in ⟨Nat.le_of_ble_eq_true rfl, Nat.le_of_ble_eq_true rfl⟩ rfl hl.1 rfl (Nat.le_of_ble_eq_true rfl) dX9_stage_3 ⟨Nat.le_of_ble_eq_true rfl, Nat.le_of_ble_eq_true rfl⟩ (fun r H locs hm hp => ?_)
  refine W.widen (k := 0) (n := 0) (Nat.le_of_ble_eq_true rfl) (Nat.le_of_ble_eq_true rfl) ?_
  subst hp
  refine lv_if_eq (tgt := 35) hx hb dX9_stage_6 (by decide) (fun c0 => ?_) (fun c0 => ?_)
  · have c0 := fw_b0 c0
    refine lv_iconst (v := (nI 0)) hx hb dX9_stage_35 (by decide) ?_
    refine lv_istore (lv' := [(4, .int (nI 0)), (0, .ref y), (1, .int mo), (2, .int a), (3, .int b)]) hx hb dX9_stage_36 hl (by decide) rfl (fun ls hl => ?_)
    refine lv_aload_n hx hb dX9_stage_38 rfl (lv_at hl 1 rfl) ?_
    refine lv_iload hx hb dX9_stage_39 (lv_at hl 0 rfl) ?_
    refine lv_if_ne (tgt := 48) hx hb dX9_stage_41 (by decide) (fun cx => absurd cx (by decide)) (fun cx => ?_)
    refine lv_iconst (v := (nI 1)) hx hb dX9_stage_44 (by decide) ?_
    refine lv_goto (tgt := 61) hx hb dX9_stage_45 (by decide) ?_
    refine mm_put hx hb hT hown hz hm 0 (by decide) wd_735 dX9_stage_61 (fun F1 H locs hm => ?_)
    refine lv_aload_n hx hb dX9_stage_64 rfl (lv_at hl 1 rfl) ?_
    refine mm_get hx hb hT hown hz hm 0 (by decide) wd_735 rfl (v := .int (nI 1)) rfl dX9_stage_65 ?_
    refine lv_if_le (tgt := 73) hx hb dX9_stage_68 (by decide) (fun cx => absurd cx (by decide)) (fun cx => ?_)
    refine lv_iconst (v := (nI 0)) hx hb dX9_stage_71 (by decide) ?_
    exact mm_iret hx hb hr hlk (Nat.le_of_ble_eq_true rfl) (Nat.le_of_ble_eq_true rfl) hm dX9_stage_72 (by refine ⟨fun _ => ⟨rfl, rfl⟩, fun h => ?_, fun h => ?_⟩ <;> simp [rf_okS, c0] at h)
  · have c0 := fw_b1 c0
    refine lv_iload_n hx hb dX9_stage_9 rfl (lv_at hl 2 rfl) ?_
    refine lv_bipush (v := (nI 8)) hx hb dX9_stage_10 (by decide) ?_
    refine lv_bipush (v := (nI 60)) hx hb dX9_stage_12 (by decide) ?_
    refine mm_calls (As := [.int a, .int (nI 8), .int (nI 60)]) (rest := []) C hz hm (c_X9_in l G _ _ a (nI 8) (nI 60)) wd_821 ySX9_in ⟨Nat.le_of_ble_eq_true rfl, Nat.le_of_ble_eq_true rfl⟩ rfl hl.1 rfl (Nat.le_of_ble_eq_true rfl) dX9_stage_14 ⟨Nat.le_of_ble_eq_true rfl, Nat.le_of_ble_eq_true rfl⟩ (fun r H locs hm hp => ?_)
    refine W.widen (k := 0) (n := 0) (Nat.le_of_ble_eq_true rfl) (Nat.le_of_ble_eq_true rfl) ?_
    subst hp
    refine lv_if_eq (tgt := 35) hx hb dX9_stage_17 (by decide) (fun c1 => ?_) (fun c1 => ?_)
    · have c1 := fw_b0 c1
      refine lv_iconst (v := (nI 0)) hx hb dX9_stage_35 (by decide) ?_
      refine lv_istore (lv' := [(4, .int (nI 0)), (0, .ref y), (1, .int mo), (2, .int a), (3, .int b)]) hx hb dX9_stage_36 hl (by decide) rfl (fun ls hl => ?_)
      refine lv_aload_n hx hb dX9_stage_38 rfl (lv_at hl 1 rfl) ?_
      refine lv_iload hx hb dX9_stage_39 (lv_at hl 0 rfl) ?_
      refine lv_if_ne (tgt := 48) hx hb dX9_stage_41 (by decide) (fun cx => absurd cx (by decide)) (fun cx => ?_)
      refine lv_iconst (v := (nI 1)) hx hb dX9_stage_44 (by decide) ?_
      refine lv_goto (tgt := 61) hx hb dX9_stage_45 (by decide) ?_
      refine mm_put hx hb hT hown hz hm 0 (by decide) wd_735 dX9_stage_61 (fun F1 H locs hm => ?_)
      refine lv_aload_n hx hb dX9_stage_64 rfl (lv_at hl 1 rfl) ?_
      refine mm_get hx hb hT hown hz hm 0 (by decide) wd_735 rfl (v := .int (nI 1)) rfl dX9_stage_65 ?_
      refine lv_if_le (tgt := 73) hx hb dX9_stage_68 (by decide) (fun cx => absurd cx (by decide)) (fun cx => ?_)
      refine lv_iconst (v := (nI 0)) hx hb dX9_stage_71 (by decide) ?_
      exact mm_iret hx hb hr hlk (Nat.le_of_ble_eq_true rfl) (Nat.le_of_ble_eq_true rfl) hm dX9_stage_72 (by refine ⟨fun _ => ⟨rfl, rfl⟩, fun h => ?_, fun h => ?_⟩ <;> simp [rf_okS, c0, c1] at h)
    · have c1 := fw_b1 c1
      refine lv_iload_n hx hb dX9_stage_20 rfl (lv_at hl 3 rfl) ?_
      refine lv_bipush (v := (nI 8)) hx hb dX9_stage_21 (by decide) ?_
      refine lv_bipush (v := (nI 60)) hx hb dX9_stage_23 (by decide) ?_
      refine mm_calls (As := [.int b, .int (nI 8), .int (nI 60)]) (rest := []) C hz hm (c_X9_in l G _ _ b (nI 8) (nI 60)) wd_821 ySX9_in ⟨Nat.le_of_ble_eq_true rfl, Nat.le_of_ble_eq_true rfl⟩ rfl hl.1 rfl (Nat.le_of_ble_eq_true rfl) dX9_stage_25 ⟨Nat.le_of_ble_eq_true rfl, Nat.le_of_ble_eq_true rfl⟩ (fun r H locs hm hp => ?_)
      refine W.widen (k := 0) (n := 0) (Nat.le_of_ble_eq_true rfl) (Nat.le_of_ble_eq_true rfl) ?_
      subst hp
      refine lv_if_eq (tgt := 35) hx hb dX9_stage_28 (by decide) (fun c2 => ?_) (fun c2 => ?_)
      · have c2 := fw_b0 c2
        refine lv_iconst (v := (nI 0)) hx hb dX9_stage_35 (by decide) ?_
        refine lv_istore (lv' := [(4, .int (nI 0)), (0, .ref y), (1, .int mo), (2, .int a), (3, .int b)]) hx hb dX9_stage_36 hl (by decide) rfl (fun ls hl => ?_)
        refine lv_aload_n hx hb dX9_stage_38 rfl (lv_at hl 1 rfl) ?_
        refine lv_iload hx hb dX9_stage_39 (lv_at hl 0 rfl) ?_
        refine lv_if_ne (tgt := 48) hx hb dX9_stage_41 (by decide) (fun cx => absurd cx (by decide)) (fun cx => ?_)
        refine lv_iconst (v := (nI 1)) hx hb dX9_stage_44 (by decide) ?_
        refine lv_goto (tgt := 61) hx hb dX9_stage_45 (by decide) ?_
        refine mm_put hx hb hT hown hz hm 0 (by decide) wd_735 dX9_stage_61 (fun F1 H locs hm => ?_)
        refine lv_aload_n hx hb dX9_stage_64 rfl (lv_at hl 1 rfl) ?_
        refine mm_get hx hb hT hown hz hm 0 (by decide) wd_735 rfl (v := .int (nI 1)) rfl dX9_stage_65 ?_
        refine lv_if_le (tgt := 73) hx hb dX9_stage_68 (by decide) (fun cx => absurd cx (by decide)) (fun cx => ?_)
        refine lv_iconst (v := (nI 0)) hx hb dX9_stage_71 (by decide) ?_
        exact mm_iret hx hb hr hlk (Nat.le_of_ble_eq_true rfl) (Nat.le_of_ble_eq_true rfl) hm dX9_stage_72 (by refine ⟨fun _ => ⟨rfl, rfl⟩, fun h => ?_, fun h => ?_⟩ <;> simp [rf_okS, c0, c1, c2] at h)
      · have c2 := fw_b1 c2
        refine lv_iconst (v := (nI 1)) hx hb dX9_stage_31 (by decide) ?_
        refine lv_goto (tgt := 36) hx hb dX9_stage_32 (by decide) ?_
        refine lv_istore (lv' := [(4, .int (nI 1)), (0, .ref y), (1, .int mo), (2, .int a), (3, .int b)]) hx hb dX9_stage_36 hl (by decide) rfl (fun ls hl => ?_)
        refine lv_aload_n hx hb dX9_stage_38 rfl (lv_at hl 1 rfl) ?_
        refine lv_iload hx hb dX9_stage_39 (lv_at hl 0 rfl) ?_
        refine lv_if_ne (tgt := 48) hx hb dX9_stage_41 (by decide) (fun cx => ?_) (fun cx => absurd cx (by decide))
        refine lv_aload_n hx hb dX9_stage_48 rfl (lv_at hl 1 rfl) ?_
        refine mm_get hx hb hT hown hz hm 5 (by decide) wd_740 rfl (v := .int (sc 5)) rfl dX9_stage_49 ?_
        refine fw_top (e5) ?_
        refine lv_iconst (v := (nI 4)) hx hb dX9_stage_52 (by decide) ?_
        refine lv_icmp_ne (tgt := 60) hx hb dX9_stage_53 (by decide) (fun d => ?_) (fun d => ?_)
        · have d : ¬ nD = 4 := fun h9 => d ((nI_eq (a := nD) (b := 4) (by omega) (by omega)).mpr h9)
          have hd : nD < 4 := by omega
          refine lv_iconst (v := (nI 0)) hx hb dX9_stage_60 (by decide) ?_
          refine mm_put hx hb hT hown hz hm 0 (by decide) wd_735 dX9_stage_61 (fun F1 H locs hm => ?_)
          refine lv_aload_n hx hb dX9_stage_64 rfl (lv_at hl 1 rfl) ?_
          refine mm_get hx hb hT hown hz hm 0 (by decide) wd_735 rfl (v := .int (nI 0)) rfl dX9_stage_65 ?_
          refine lv_if_le (tgt := 73) hx hb dX9_stage_68 (by decide) (fun cx => ?_) (fun cx => absurd cx (by decide))
          refine lv_aload_n hx hb dX9_stage_73 rfl (lv_at hl 1 rfl) ?_
          refine mm_get hx hb hT hown hz hm 6 (by decide) wd_741 rfl (v := .ref (ad 6)) rfl dX9_stage_74 ?_
          refine lv_iconst (v := (nI 3)) hx hb dX9_stage_77 (by decide) ?_
          refine lv_aload_n hx hb dX9_stage_78 rfl (lv_at hl 1 rfl) ?_
          refine mm_get hx hb hT hown hz hm 5 (by decide) wd_740 rfl (v := .int (sc 5)) rfl dX9_stage_79 ?_
          refine fw_top (e5) ?_
          refine lv_imul hx hb dX9_stage_82 ?_
          refine fw_top (pk_mul _ _) ?_
          refine lv_iload_n hx hb dX9_stage_83 rfl (lv_at hl 2 rfl) ?_
          refine mm_ast hx hb hz hm 6 (3 * nD) (by decide) rfl (show 3 * nD < 12 by omega) dX9_stage_84 (fun F1 H locs hm => ?_)
          refine lv_aload_n hx hb dX9_stage_85 rfl (lv_at hl 1 rfl) ?_
          refine mm_get hx hb hT hown hz hm 6 (by decide) wd_741 rfl (v := .ref (ad 6)) rfl dX9_stage_86 ?_
          refine lv_iconst (v := (nI 3)) hx hb dX9_stage_89 (by decide) ?_
          refine lv_aload_n hx hb dX9_stage_90 rfl (lv_at hl 1 rfl) ?_
          refine mm_get hx hb hT hown hz hm 5 (by decide) wd_740 rfl (v := .int (sc 5)) rfl dX9_stage_91 ?_
          refine fw_top (e5) ?_
          refine lv_imul hx hb dX9_stage_94 ?_
          refine fw_top (pk_mul _ _) ?_
          refine lv_iconst (v := (nI 1)) hx hb dX9_stage_95 (by decide) ?_
          refine lv_iadd hx hb dX9_stage_96 ?_
          refine fw_top (nI_add _ _) ?_
          refine lv_iload_n hx hb dX9_stage_97 rfl (lv_at hl 3 rfl) ?_
          refine mm_ast hx hb hz hm 6 ((3 * nD) + 1) (by decide) rfl (show (3 * nD) + 1 < 12 by omega) dX9_stage_98 (fun F1 H locs hm => ?_)
          refine lv_aload_n hx hb dX9_stage_99 rfl (lv_at hl 1 rfl) ?_
          refine mm_get hx hb hT hown hz hm 6 (by decide) wd_741 rfl (v := .ref (ad 6)) rfl dX9_stage_100 ?_
          refine lv_iconst (v := (nI 3)) hx hb dX9_stage_103 (by decide) ?_
          refine lv_aload_n hx hb dX9_stage_104 rfl (lv_at hl 1 rfl) ?_
          refine mm_get hx hb hT hown hz hm 5 (by decide) wd_740 rfl (v := .int (sc 5)) rfl dX9_stage_105 ?_
          refine fw_top (e5) ?_
          refine lv_imul hx hb dX9_stage_108 ?_
          refine fw_top (pk_mul _ _) ?_
          refine lv_iconst (v := (nI 2)) hx hb dX9_stage_109 (by decide) ?_
          refine lv_iadd hx hb dX9_stage_110 ?_
          refine fw_top (nI_add _ _) ?_
          refine lv_iload_n hx hb dX9_stage_111 rfl (lv_at hl 4 rfl) ?_
          refine mm_ast hx hb hz hm 6 ((3 * nD) + 2) (by decide) rfl (show (3 * nD) + 2 < 12 by omega) dX9_stage_112 (fun F1 H locs hm => ?_)
          refine lv_aload_n hx hb dX9_stage_113 rfl (lv_at hl 1 rfl) ?_
          refine lv_dup hx hb dX9_stage_114 rfl ?_
          refine mm_get hx hb hT hown hz hm 5 (by decide) wd_740 rfl (v := .int (sc 5)) rfl dX9_stage_115 ?_
          refine fw_top (e5) ?_
          refine lv_iconst (v := (nI 1)) hx hb dX9_stage_118 (by decide) ?_
          refine lv_iadd hx hb dX9_stage_119 ?_
          refine fw_top (nI_add _ _) ?_
          refine mm_put hx hb hT hown hz hm 5 (by decide) wd_740 dX9_stage_120 (fun F1 H locs hm => ?_)
          refine lv_aload_n hx hb dX9_stage_123 rfl (lv_at hl 1 rfl) ?_
          have hmf : mm_M G A s F y ad (va_up (va_up sc 0 (nI 0)) 5 (nI (nD + 1))) (va_up f 6 (upd (upd (upd (f 6) (3 * nD) mo) (3 * nD + 1) a) (3 * nD + 2) b)) F1 H locs := by
            refine Eq.mp (congrArg (fun z => mm_M G A s F y ad _ z F1 H locs) ?_) hm
            funext k; by_cases hk : k = 6 <;> simp [va_up, hk]
          have hm := hmf
          refine mm_calli (As := []) (rest := []) C hz hm (c_X9_draftDistance l G _ _ y ad _ _ (nD + 1) hm.2.1 rfl (by omega)) wd_836 yVX9_draftDistance ⟨Nat.le_of_ble_eq_true rfl, Nat.le_of_ble_eq_true rfl⟩ rfl hl.1 rfl (Nat.le_of_ble_eq_true rfl) dX9_stage_124 ⟨Nat.le_of_ble_eq_true rfl, Nat.le_of_ble_eq_true rfl⟩ (fun r sc1 f1 F1 H locs hm hp => ?_)
          refine W.widen (k := 0) (n := 0) (Nat.le_of_ble_eq_true rfl) (Nat.le_of_ble_eq_true rfl) ?_
          obtain ⟨h7, h8, h9⟩ := hp
          rw [h7, h8] at hm
          exact mm_iret hx hb hr hlk (Nat.le_of_ble_eq_true rfl) (Nat.le_of_ble_eq_true rfl) hm dX9_stage_127 (by refine ⟨fun h => ?_, fun _ h => absurd h d, fun _ _ => ⟨rfl, rfl, h9⟩⟩; simp [rf_okS, c0, c1, c2] at h)
        · have d := (nI_eq (a := nD) (b := 4) (by omega) (by omega)).mp d
          refine lv_iconst (v := (nI 2)) hx hb dX9_stage_56 (by decide) ?_
          refine lv_goto (tgt := 61) hx hb dX9_stage_57 (by decide) ?_
          refine mm_put hx hb hT hown hz hm 0 (by decide) wd_735 dX9_stage_61 (fun F1 H locs hm => ?_)
          refine lv_aload_n hx hb dX9_stage_64 rfl (lv_at hl 1 rfl) ?_
          refine mm_get hx hb hT hown hz hm 0 (by decide) wd_735 rfl (v := .int (nI 2)) rfl dX9_stage_65 ?_
          refine lv_if_le (tgt := 73) hx hb dX9_stage_68 (by decide) (fun cx => absurd cx (by decide)) (fun cx => ?_)
          refine lv_iconst (v := (nI 0)) hx hb dX9_stage_71 (by decide) ?_
          exact mm_iret hx hb hr hlk (Nat.le_of_ble_eq_true rfl) (Nat.le_of_ble_eq_true rfl) hm dX9_stage_72 (by refine ⟨fun h => ?_, fun _ _ => ⟨rfl, rfl⟩, fun _ h => absurd d (by omega)⟩; simp [rf_okS, c0, c1, c2] at h)
theorem rf_in_of {t : Int32} {n j : Nat} (hn : n ≤ 100) (hj : j < n) (h : t = nI j) : rf_ix t n = true := by
  subst h
  refine rf_in_t.mpr ⟨nI_le (Nat.zero_le _) (by omega), ?_⟩
  rw [pk_sub (by omega)]
  exact nI_le (by omega) (by omega)
theorem nI_j {a b : Nat} (ha : a ≤ 1000) (hb : b ≤ 1000) (h : nI a = nI b) : a = b := (nI_eq (by omega) (by omega)).mp h
set_option maxHeartbeats 4000000 in
set_option maxRecDepth 100000 in
theorem c_X9_doneAt (l : Launch) (G : fw_G) (F : fw_F) (sz y : Nat) (ad : Nat → Nat) (sc : mm_S) (f : mm_A) (nO : Nat) (t : Int32) (hW : mm_W G F y ad sc f) (e7 : sc 11 = nI nO) (hn : nO ≤ 12) : mm_Ci l G F sz y ad yX9_doneAt cX9_doneAt 2 (.int) { frames := 2, cells := 0, slots := 0, locals := 43 } [.int t] (fun r sc1 f1 => f1 = f ∧ sc1 = va_up sc 0 (fw_b (!rf_ix t nO)) ∧ (∀ j, j < nO → t = nI j → r = f 13 j)) := by
  refine fw_met (lv := [(0, .ref y), (1, .int t)]) (by decide +kernel) (Nat.le_of_ble_eq_true rfl) rfl ?_
  intro A hA p e s m below meth c ls hx hb hml hown hT hr hlk hin hz hsz hw hAn hl
  rw [← hA]
  have hown : s.vm.findClass RX9 = some m.cls := hown
  have C : CallFix p m c cX9_doneAt 2 s _ fw_tb RX9 := ⟨hx, hb, hml, hown, hT⟩
  have hm : mm_M G A s F y ad sc f F s.heap [] := ⟨hw, hW, mm_keep.rf⟩
  refine lv_aload_n hx hb dX9_doneAt_0 rfl (lv_at hl 0 rfl) ?_
  refine lv_iload_n hx hb dX9_doneAt_1 rfl (lv_at hl 1 rfl) ?_
  refine mm_calli (As := [.int t]) (rest := []) C hz hm (c_X9_isOrder l G _ _ y ad _ _ nO t hm.2.1 e7) wd_933 yVX9_isOrder ⟨Nat.le_of_ble_eq_true rfl, Nat.le_of_ble_eq_true rfl⟩ rfl hl.1 rfl (Nat.le_of_ble_eq_true rfl) dX9_doneAt_2 ⟨Nat.le_of_ble_eq_true rfl, Nat.le_of_ble_eq_true rfl⟩ (fun r sc1 f1 F1 H locs hm hp => ?_)
  refine W.widen (k := 0) (n := 0) (Nat.le_of_ble_eq_true rfl) (Nat.le_of_ble_eq_true rfl) ?_
  obtain ⟨h7, h8, h9⟩ := hp
  rw [h7, h8] at hm
  subst h9
  refine lv_if_eq (tgt := 17) hx hb dX9_doneAt_5 (by decide) (fun c => ?_) (fun c => ?_)
  · have c := fw_b0 c
    refine lv_iconst (v := (nI 0)) hx hb dX9_doneAt_17 (by decide) ?_
    exact mm_iret hx hb hr hlk (Nat.le_of_ble_eq_true rfl) (Nat.le_of_ble_eq_true rfl) hm dX9_doneAt_18 (⟨rfl, rfl, fun j h1 h2 => absurd (rf_in_of (by omega) h1 h2) (by rw [c]; decide)⟩)
  · have c := fw_b1 c
    obtain ⟨j, hj, rfl⟩ : ∃ j, j < nO ∧ t = nI j := rf_ix_t (by omega) c
    refine lv_aload_n hx hb dX9_doneAt_8 rfl (lv_at hl 0 rfl) ?_
    refine mm_get hx hb hT hown hz hm 13 (by decide) wd_748 rfl (v := .ref (ad 13)) rfl dX9_doneAt_9 ?_
    refine lv_iload_n hx hb dX9_doneAt_12 rfl (lv_at hl 1 rfl) ?_
    refine mm_ald hx hb hz hm 13 (j) (by decide) rfl (show j < 12 by omega) dX9_doneAt_13 ?_
    refine lv_goto (tgt := 18) hx hb dX9_doneAt_14 (by decide) ?_
    exact mm_iret hx hb hr hlk (Nat.le_of_ble_eq_true rfl) (Nat.le_of_ble_eq_true rfl) hm dX9_doneAt_18 (⟨rfl, rfl, fun i h1 h2 => by rw [nI_j (by omega) (by omega) h2]⟩)
set_option maxHeartbeats 4000000 in
set_option maxRecDepth 100000 in
theorem c_X9_claims (l : Launch) (G : fw_G) (F : fw_F) (sz y : Nat) (ad : Nat → Nat) (sc : mm_S) (f : mm_A) (nT : Nat) (t : Int32) (hW : mm_W G F y ad sc f) (e7 : sc 7 = nI nT) (hn : nT ≤ 8) : mm_Ci l G F sz y ad yX9_claims cX9_claims 2 (.int) { frames := 2, cells := 0, slots := 0, locals := 43 } [.int t] (fun r sc1 f1 => f1 = f ∧ sc1 = va_up sc 0 (fw_b (!rf_ix t nT)) ∧ (∀ j, j < nT → t = nI j → r = f 10 j)) := by
  refine fw_met (lv := [(0, .ref y), (1, .int t)]) (by decide +kernel) (Nat.le_of_ble_eq_true rfl) rfl ?_
  intro A hA p e s m below meth c ls hx hb hml hown hT hr hlk hin hz hsz hw hAn hl
  rw [← hA]
  have hown : s.vm.findClass RX9 = some m.cls := hown
  have C : CallFix p m c cX9_claims 2 s _ fw_tb RX9 := ⟨hx, hb, hml, hown, hT⟩
  have hm : mm_M G A s F y ad sc f F s.heap [] := ⟨hw, hW, mm_keep.rf⟩
  refine lv_aload_n hx hb dX9_claims_0 rfl (lv_at hl 0 rfl) ?_
  refine lv_iload_n hx hb dX9_claims_1 rfl (lv_at hl 1 rfl) ?_
  refine mm_calli (As := [.int t]) (rest := []) C hz hm (c_X9_isTrain l G _ _ y ad _ _ nT t hm.2.1 e7) wd_852 yVX9_isTrain ⟨Nat.le_of_ble_eq_true rfl, Nat.le_of_ble_eq_true rfl⟩ rfl hl.1 rfl (Nat.le_of_ble_eq_true rfl) dX9_claims_2 ⟨Nat.le_of_ble_eq_true rfl, Nat.le_of_ble_eq_true rfl⟩ (fun r sc1 f1 F1 H locs hm hp => ?_)
  refine W.widen (k := 0) (n := 0) (Nat.le_of_ble_eq_true rfl) (Nat.le_of_ble_eq_true rfl) ?_
  obtain ⟨h7, h8, h9⟩ := hp
  rw [h7, h8] at hm
  subst h9
  refine lv_if_eq (tgt := 17) hx hb dX9_claims_5 (by decide) (fun c => ?_) (fun c => ?_)
  · have c := fw_b0 c
    refine lv_iconst (v := (nI 0)) hx hb dX9_claims_17 (by decide) ?_
    exact mm_iret hx hb hr hlk (Nat.le_of_ble_eq_true rfl) (Nat.le_of_ble_eq_true rfl) hm dX9_claims_18 (⟨rfl, rfl, fun j h1 h2 => absurd (rf_in_of (by omega) h1 h2) (by rw [c]; decide)⟩)
  · have c := fw_b1 c
    obtain ⟨j, hj, rfl⟩ : ∃ j, j < nT ∧ t = nI j := rf_ix_t (by omega) c
    refine lv_aload_n hx hb dX9_claims_8 rfl (lv_at hl 0 rfl) ?_
    refine mm_get hx hb hT hown hz hm 10 (by decide) wd_745 rfl (v := .ref (ad 10)) rfl dX9_claims_9 ?_
    refine lv_iload_n hx hb dX9_claims_12 rfl (lv_at hl 1 rfl) ?_
    refine mm_ald hx hb hz hm 10 (j) (by decide) rfl (show j < 8 by omega) dX9_claims_13 ?_
    refine lv_goto (tgt := 18) hx hb dX9_claims_14 (by decide) ?_
    exact mm_iret hx hb hr hlk (Nat.le_of_ble_eq_true rfl) (Nat.le_of_ble_eq_true rfl) hm dX9_claims_18 (⟨rfl, rfl, fun i h1 h2 => by rw [nI_j (by omega) (by omega) h2]⟩)
end
section
/-! The reference's methods: ratios, and more answers of one place. -/
theorem fw_topL {p : Program} {l : Launch} {e : Env} {R : Room} {s : State} {m : MethodId} {args : Array Value} {below : List Frame} {meth : Method} {c : Code} {H : Heap} {locs : List Loc} {cells slots : Nat} {Q : State → Prop} {pc : Nat} {ls : Array Slot} {rest : List Value} {x x' : Int64} (h : x = x') (k : W p l e R s m args below meth c H locs cells slots Q (F0 m pc ls (.long x' :: rest))) : W p l e R s m args below meth c H locs cells slots Q (F0 m pc ls (.long x :: rest)) := by
  rw [h]
  exact k
def rf_n (x : Int32) : Nat := x.toNatClampNeg
theorem rf_n_nI {n : Nat} (h : n < 2 ^ 31) : rf_n (nI n) = n := nI_clamp h
def rf_sm (f : mm_A) (t : Nat) : Nat := rf_n (f 8 t)
def rf_ot (f : mm_A) (o : Nat) : Nat := rf_n (f 12 o)
def rf_st (f : mm_A) (i : Nat) : Nat := rf_n (f 9 i)
/-- a train's stages are what they should be -/
def rf_tok (f : mm_A) (t : Nat) : Prop := f 8 t = nI (rf_sm f t) ∧ 1 ≤ rf_sm f t ∧ rf_sm f t ≤ 4 ∧ ∀ k, k < rf_sm f t → (f 9 (12 * t + 3 * k) = nI (rf_st f (12 * t + 3 * k)) ∧ 1 ≤ rf_st f (12 * t + 3 * k) ∧ rf_st f (12 * t + 3 * k) ≤ 4) ∧ ∀ w, w = 1 ∨ w = 2 → f 9 (12 * t + 3 * k + w) = nI (rf_st f (12 * t + 3 * k + w)) ∧ 8 ≤ rf_st f (12 * t + 3 * k + w) ∧ rf_st f (12 * t + 3 * k + w) ≤ 60
def rf_pn (f : mm_A) (t w : Nat) : Nat → Nat
  | 0 => 1
  | k + 1 => rf_pn f t w k * rf_st f (12 * t + 3 * k + w)
def rf_P (f : mm_A) (t w : Nat) : Nat := rf_pn f t w (rf_sm f t)
theorem rf_prod_n {f : mm_A} {t w : Nat} (h : rf_tok f t) (hw : w = 1 ∨ w = 2) : ∀ k, k ≤ rf_sm f t → rf_prod f t w k = nI (rf_pn f t w k) ∧ 1 ≤ rf_pn f t w k ∧ rf_pn f t w k ≤ 60 ^ k
  | 0, _ => ⟨rfl, Nat.le_refl _, Nat.le_refl _⟩
  | k + 1, hk => by
    obtain ⟨h1, h2, h3⟩ := rf_prod_n h hw k (by omega)
    obtain ⟨g1, g2, g3⟩ := (h.2.2.2 k (by omega)).2 w hw
    refine ⟨?_, ?_, ?_⟩
    · show rf_prod f t w k * f 9 (12 * t + 3 * k + w) = nI (rf_pn f t w k * rf_st f (12 * t + 3 * k + w))
      rw [h1, g1, pk_mul]
    · exact Nat.mul_pos h2 (by omega)
    · rw [Nat.pow_succ]
      exact Nat.mul_le_mul h3 g3
theorem rf_P_ok {f : mm_A} {t w : Nat} (h : rf_tok f t) (hw : w = 1 ∨ w = 2) : rf_prod f t w (rf_sm f t) = nI (rf_P f t w) ∧ 1 ≤ rf_P f t w ∧ rf_P f t w ≤ 12960000 := by
  obtain ⟨h1, h2, h3⟩ := rf_prod_n h hw _ (Nat.le_refl _)
  exact ⟨h1, h2, Nat.le_trans h3 (Nat.le_trans (Nat.pow_le_pow_right (by decide) h.2.2.1) (by decide))⟩
set_option maxHeartbeats 4000000 in
set_option maxRecDepth 100000 in
theorem c_X9_common (l : Launch) (G : fw_G) (F : fw_F) (sz : Nat) (a b : Nat) (ha : a < 2147483648) (hb0 : b < 2147483648) : fw_Si l G F sz yX9_common cX9_common 5 (.int) { frames := 0, cells := 0, slots := 0, locals := 0 } [.int (nI a), .int (nI b)] (fun r => r = nI (Nat.gcd a b)) := by
  refine fw_met (lv := [(0, .int (nI a)), (1, .int (nI b))]) (by decide +kernel) (Nat.le_of_ble_eq_true rfl) rfl ?_
  intro A hA p e s m below meth c ls hx hb hml hown hT hr hlk hin hz hsz hw hAn hl
  rw [← hA]
  have hown : s.vm.findClass RX9 = some m.cls := hown
  have C : CallFix p m c cX9_common 5 s _ fw_tb RX9 := ⟨hx, hb, hml, hown, hT⟩
  refine lv_iload_n hx hb dX9_common_0 rfl (lv_at hl 0 rfl) ?_
  refine lv_istore_n (lv' := [(2, .int (nI a)), (0, .int (nI a)), (1, .int (nI b))]) hx hb dX9_common_1 rfl hl (by decide) rfl (fun ls hl => ?_)
  refine lv_iload_n hx hb dX9_common_2 rfl (lv_at hl 2 rfl) ?_
  refine lv_istore_n (lv' := [(3, .int (nI b)), (2, .int (nI a)), (0, .int (nI a)), (1, .int (nI b))]) hx hb dX9_common_3 rfl hl (by decide) rfl (fun ls hl => ?_)
  suffices hlp : ∀ (n a1 b1 : Nat), b1 ≤ n → a1 < 2147483648 → b1 < 2147483648 → Nat.gcd a1 b1 = Nat.gcd a b → ∀ (H : Heap) (locs : List Loc) (ls : Array Slot), fw_S G A s F H locs → lv_has ls 5 [(2, .int (nI a1)), (3, .int (nI b1))] → W p l e { frames := 0, cells := 0, slots := 0, locals := 0 } s m ([.int (nI a), .int (nI b)] : List Value).toArray below meth c H locs 0 0 (MQ below (va_Qi (fun r F1 => F1 = F ∧ (fun r => r = nI (Nat.gcd a b)) r) (fw_B G A) A) ([.int (nI a), .int (nI b)] : List Value).toArray s 0 0 A) (F0 m 4 ls []) by
    exact hlp b a b (Nat.le_refl _) ha hb0 rfl _ _ _ hw (lv_sub hl [1, 0] rfl)
  intro n
  induction n with
  | zero =>
    intro a1 b1 h1 h2 h3 h4 H locs ls hw hl
    refine lv_iload_n hx hb dX9_common_4 rfl (lv_at hl 1 rfl) ?_
    refine lv_if_le (tgt := 21) hx hb dX9_common_5 (by decide) (fun d => ?_) (fun d => ?_)
    · have d := (nI_leI (a := b1) (b := 0) (by omega) (by omega)).mp d
      refine lv_iload_n hx hb dX9_common_21 rfl (lv_at hl 0 rfl) ?_
      exact fw_iret hx hb hr hlk (Nat.le_of_ble_eq_true rfl) (Nat.le_of_ble_eq_true rfl) hw dX9_common_22 ⟨rfl, by rw [← h4, show b1 = 0 by omega, Nat.gcd_zero_right]⟩
    · have d : ¬ b1 ≤ 0 := fun h9 => d ((nI_leI (a := b1) (b := 0) (by omega) (by omega)).mpr h9)
      omega
  | succ n ih =>
    intro a1 b1 h1 h2 h3 h4 H locs ls hw hl
    refine lv_iload_n hx hb dX9_common_4 rfl (lv_at hl 1 rfl) ?_
    refine lv_if_le (tgt := 21) hx hb dX9_common_5 (by decide) (fun d => ?_) (fun d => ?_)
    · have d := (nI_leI (a := b1) (b := 0) (by omega) (by omega)).mp d
      refine lv_iload_n hx hb dX9_common_21 rfl (lv_at hl 0 rfl) ?_
      exact fw_iret hx hb hr hlk (Nat.le_of_ble_eq_true rfl) (Nat.le_of_ble_eq_true rfl) hw dX9_common_22 ⟨rfl, by rw [← h4, show b1 = 0 by omega, Nat.gcd_zero_right]⟩
    · have d : ¬ b1 ≤ 0 := fun h9 => d ((nI_leI (a := b1) (b := 0) (by omega) (by omega)).mpr h9)
      refine lv_iload_n hx hb dX9_common_8 rfl (lv_at hl 0 rfl) ?_
      refine lv_iload_n hx hb dX9_common_9 rfl (lv_at hl 1 rfl) ?_
      refine lv_irem hx hb dX9_common_10 (nI_ne0 (by omega) (by omega)) ?_
      refine fw_top (x' := (nI (a1 % b1))) (pk_rem h2 (by omega) h3) ?_
      refine lv_istore (lv' := [(4, .int (nI (a1 % b1))), (2, .int (nI a1)), (3, .int (nI b1))]) hx hb dX9_common_11 hl (by decide) rfl (fun ls hl => ?_)
      refine lv_iload_n hx hb dX9_common_13 rfl (lv_at hl 2 rfl) ?_
      refine lv_istore_n (lv' := [(2, .int (nI b1)), (4, .int (nI (a1 % b1))), (3, .int (nI b1))]) hx hb dX9_common_14 rfl hl (by decide) rfl (fun ls hl => ?_)
      refine lv_iload hx hb dX9_common_15 (lv_at hl 1 rfl) ?_
      refine lv_istore_n (lv' := [(3, .int (nI (a1 % b1))), (2, .int (nI b1)), (4, .int (nI (a1 % b1)))]) hx hb dX9_common_17 rfl hl (by decide) rfl (fun ls hl => ?_)
      refine lv_goto (tgt := 4) hx hb dX9_common_18 (by decide) ?_
      exact ih b1 (a1 % b1) (by have := Nat.mod_lt a1 (show b1 > 0 by omega); omega) h3 (by have := Nat.mod_lt a1 (show b1 > 0 by omega); omega) (by rw [← h4, Nat.gcd_comm b1, ← Nat.gcd_rec, Nat.gcd_comm]) _ _ _ hw (lv_sub hl [1, 0] rfl)
set_option maxHeartbeats 4000000 in
set_option maxRecDepth 100000 in
theorem c_X9_numerator (l : Launch) (G : fw_G) (F : fw_F) (sz y : Nat) (ad : Nat → Nat) (sc : mm_S) (f : mm_A) (nT : Nat) (t : Int32) (hW : mm_W G F y ad sc f) (e7 : sc 7 = nI nT) (hn : nT ≤ 8) (htok : ∀ j, j < nT → rf_tok f j) : mm_Ci l G F sz y ad yX9_numerator cX9_numerator 2 (.int) { frames := 2, cells := 0, slots := 0, locals := 43 } [.int t] (fun r sc1 f1 => f1 = f ∧ sc1 = va_up sc 0 (fw_b (!rf_ix t nT)) ∧ (∀ j, j < nT → t = nI j → r = nI (rf_P f j 2 / Nat.gcd (rf_P f j 2) (rf_P f j 1)))) := by
  refine fw_met (lv := [(0, .ref y), (1, .int t)]) (by decide +kernel) (Nat.le_of_ble_eq_true rfl) rfl ?_
  intro A hA p e s m below meth c ls hx hb hml hown hT hr hlk hin hz hsz hw hAn hl
  rw [← hA]
  have hown : s.vm.findClass RX9 = some m.cls := hown
  have C : CallFix p m c cX9_numerator 2 s _ fw_tb RX9 := ⟨hx, hb, hml, hown, hT⟩
  have hm : mm_M G A s F y ad sc f F s.heap [] := ⟨hw, hW, mm_keep.rf⟩
  refine lv_aload_n hx hb dX9_numerator_0 rfl (lv_at hl 0 rfl) ?_
  refine lv_iload_n hx hb dX9_numerator_1 rfl (lv_at hl 1 rfl) ?_
  refine mm_calli (As := [.int t]) (rest := []) C hz hm (c_X9_isTrain l G _ _ y ad _ _ nT t hm.2.1 e7) wd_852 yVX9_isTrain ⟨Nat.le_of_ble_eq_true rfl, Nat.le_of_ble_eq_true rfl⟩ rfl hl.1 rfl (Nat.le_of_ble_eq_true rfl) dX9_numerator_2 ⟨Nat.le_of_ble_eq_true rfl, Nat.le_of_ble_eq_true rfl⟩ (fun r sc1 f1 F1 H locs hm hp => ?_)
  refine W.widen (k := 0) (n := 0) (Nat.le_of_ble_eq_true rfl) (Nat.le_of_ble_eq_true rfl) ?_
  obtain ⟨h7, h8, h9⟩ := hp
  rw [h7, h8] at hm
  subst h9
  refine lv_if_eq (tgt := 33) hx hb dX9_numerator_5 (by decide) (fun c => ?_) (fun c => ?_)
  · have c := fw_b0 c
    refine lv_iconst (v := (nI 0)) hx hb dX9_numerator_33 (by decide) ?_
    exact mm_iret hx hb hr hlk (Nat.le_of_ble_eq_true rfl) (Nat.le_of_ble_eq_true rfl) hm dX9_numerator_34 (⟨rfl, rfl, fun j h1 h2 => absurd (rf_in_of (by omega) h1 h2) (by rw [c]; decide)⟩)
  · have c := fw_b1 c
    obtain ⟨j, hj, rfl⟩ : ∃ j, j < nT ∧ t = nI j := rf_ix_t (by omega) c
    have k0 := htok j hj
    have k1 := rf_P_ok k0 (w := 1) (Or.inl rfl)
    have k2 := rf_P_ok k0 (w := 2) (Or.inr rfl)
    refine lv_aload_n hx hb dX9_numerator_8 rfl (lv_at hl 0 rfl) ?_
    refine lv_iload_n hx hb dX9_numerator_9 rfl (lv_at hl 1 rfl) ?_
    refine lv_iconst (v := (nI 2)) hx hb dX9_numerator_10 (by decide) ?_
    refine mm_calli (As := [.int (nI j), .int (nI 2)]) (rest := []) C hz hm (c_X9_product l G _ _ y ad _ _ j 2 (rf_sm f j) hm.2.1 k0.1 (by omega) k0.2.2.1 (by decide)) wd_856 yVX9_product ⟨Nat.le_of_ble_eq_true rfl, Nat.le_of_ble_eq_true rfl⟩ rfl hl.1 rfl (Nat.le_of_ble_eq_true rfl) dX9_numerator_11 ⟨Nat.le_of_ble_eq_true rfl, Nat.le_of_ble_eq_true rfl⟩ (fun r sc1 f1 F1 H locs hm hp => ?_)
    refine W.widen (k := 0) (n := 0) (Nat.le_of_ble_eq_true rfl) (Nat.le_of_ble_eq_true rfl) ?_
    obtain ⟨h7, h8, h9⟩ := hp
    rw [h7, h8] at hm
    subst h9
    refine fw_top (x' := (nI (rf_P f j 2))) (k2.1) ?_
    refine lv_aload_n hx hb dX9_numerator_14 rfl (lv_at hl 0 rfl) ?_
    refine lv_iload_n hx hb dX9_numerator_15 rfl (lv_at hl 1 rfl) ?_
    refine lv_iconst (v := (nI 2)) hx hb dX9_numerator_16 (by decide) ?_
    refine mm_calli (As := [.int (nI j), .int (nI 2)]) (rest := [.int (nI (rf_P f j 2))]) C hz hm (c_X9_product l G _ _ y ad _ _ j 2 (rf_sm f j) hm.2.1 k0.1 (by omega) k0.2.2.1 (by decide)) wd_856 yVX9_product ⟨Nat.le_of_ble_eq_true rfl, Nat.le_of_ble_eq_true rfl⟩ rfl hl.1 rfl (Nat.le_of_ble_eq_true rfl) dX9_numerator_17 ⟨Nat.le_of_ble_eq_true rfl, Nat.le_of_ble_eq_true rfl⟩ (fun r sc1 f1 F1 H locs hm hp => ?_)
    refine W.widen (k := 0) (n := 0) (Nat.le_of_ble_eq_true rfl) (Nat.le_of_ble_eq_true rfl) ?_
    obtain ⟨h7, h8, h9⟩ := hp
    rw [h7, h8] at hm
    subst h9
    refine fw_top (x' := (nI (rf_P f j 2))) (k2.1) ?_
    refine lv_aload_n hx hb dX9_numerator_20 rfl (lv_at hl 0 rfl) ?_
    refine lv_iload_n hx hb dX9_numerator_21 rfl (lv_at hl 1 rfl) ?_
    refine lv_iconst (v := (nI 1)) hx hb dX9_numerator_22 (by decide) ?_
    refine mm_calli (As := [.int (nI j), .int (nI 1)]) (rest := [.int (nI (rf_P f j 2)), .int (nI (rf_P f j 2))]) C hz hm (c_X9_product l G _ _ y ad _ _ j 1 (rf_sm f j) hm.2.1 k0.1 (by omega) k0.2.2.1 (by decide)) wd_856 yVX9_product ⟨Nat.le_of_ble_eq_true rfl, Nat.le_of_ble_eq_true rfl⟩ rfl hl.1 rfl (Nat.le_of_ble_eq_true rfl) dX9_numerator_23 ⟨Nat.le_of_ble_eq_true rfl, Nat.le_of_ble_eq_true rfl⟩ (fun r sc1 f1 F1 H locs hm hp => ?_)
    refine W.widen (k := 0) (n := 0) (Nat.le_of_ble_eq_true rfl) (Nat.le_of_ble_eq_true rfl) ?_
    obtain ⟨h7, h8, h9⟩ := hp
    rw [h7, h8] at hm
    subst h9
    refine fw_top (x' := (nI (rf_P f j 1))) (k1.1) ?_
    refine mm_calls (As := [.int (nI (rf_P f j 2)), .int (nI (rf_P f j 1))]) (rest := [.int (nI (rf_P f j 2))]) C hz hm (c_X9_common l G _ _ (rf_P f j 2) (rf_P f j 1) (by omega) (by omega)) wd_860 ySX9_common ⟨Nat.le_of_ble_eq_true rfl, Nat.le_of_ble_eq_true rfl⟩ rfl hl.1 rfl (Nat.le_of_ble_eq_true rfl) dX9_numerator_26 ⟨Nat.le_of_ble_eq_true rfl, Nat.le_of_ble_eq_true rfl⟩ (fun r H locs hm hp => ?_)
    refine W.widen (k := 0) (n := 0) (Nat.le_of_ble_eq_true rfl) (Nat.le_of_ble_eq_true rfl) ?_
    subst hp
    have kg : 0 < Nat.gcd (rf_P f j 2) (rf_P f j 1) := Nat.gcd_pos_of_pos_right _ (by omega)
    have kl : Nat.gcd (rf_P f j 2) (rf_P f j 1) ≤ rf_P f j 1 := Nat.gcd_le_right _ (by omega)
    refine lv_idiv hx hb dX9_numerator_29 (nI_ne0 kg (by omega)) ?_
    refine fw_top (x' := (nI (rf_P f j 2 / Nat.gcd (rf_P f j 2) (rf_P f j 1)))) (pk_div (by omega) kg (by omega)) ?_
    refine lv_goto (tgt := 34) hx hb dX9_numerator_30 (by decide) ?_
    exact mm_iret hx hb hr hlk (Nat.le_of_ble_eq_true rfl) (Nat.le_of_ble_eq_true rfl) hm dX9_numerator_34 (⟨rfl, rfl, fun i h1 h2 => by rw [nI_j (by omega) (by omega) h2]⟩)
set_option maxHeartbeats 4000000 in
set_option maxRecDepth 100000 in
theorem c_X9_denominator (l : Launch) (G : fw_G) (F : fw_F) (sz y : Nat) (ad : Nat → Nat) (sc : mm_S) (f : mm_A) (nT : Nat) (t : Int32) (hW : mm_W G F y ad sc f) (e7 : sc 7 = nI nT) (hn : nT ≤ 8) (htok : ∀ j, j < nT → rf_tok f j) : mm_Ci l G F sz y ad yX9_denominator cX9_denominator 2 (.int) { frames := 2, cells := 0, slots := 0, locals := 43 } [.int t] (fun r sc1 f1 => f1 = f ∧ sc1 = va_up sc 0 (fw_b (!rf_ix t nT)) ∧ (∀ j, j < nT → t = nI j → r = nI (rf_P f j 1 / Nat.gcd (rf_P f j 2) (rf_P f j 1)))) := by
  refine fw_met (lv := [(0, .ref y), (1, .int t)]) (by decide +kernel) (Nat.le_of_ble_eq_true rfl) rfl ?_
  intro A hA p e s m below meth c ls hx hb hml hown hT hr hlk hin hz hsz hw hAn hl
  rw [← hA]
  have hown : s.vm.findClass RX9 = some m.cls := hown
  have C : CallFix p m c cX9_denominator 2 s _ fw_tb RX9 := ⟨hx, hb, hml, hown, hT⟩
  have hm : mm_M G A s F y ad sc f F s.heap [] := ⟨hw, hW, mm_keep.rf⟩
  refine lv_aload_n hx hb dX9_denominator_0 rfl (lv_at hl 0 rfl) ?_
  refine lv_iload_n hx hb dX9_denominator_1 rfl (lv_at hl 1 rfl) ?_
  refine mm_calli (As := [.int t]) (rest := []) C hz hm (c_X9_isTrain l G _ _ y ad _ _ nT t hm.2.1 e7) wd_852 yVX9_isTrain ⟨Nat.le_of_ble_eq_true rfl, Nat.le_of_ble_eq_true rfl⟩ rfl hl.1 rfl (Nat.le_of_ble_eq_true rfl) dX9_denominator_2 ⟨Nat.le_of_ble_eq_true rfl, Nat.le_of_ble_eq_true rfl⟩ (fun r sc1 f1 F1 H locs hm hp => ?_)
  refine W.widen (k := 0) (n := 0) (Nat.le_of_ble_eq_true rfl) (Nat.le_of_ble_eq_true rfl) ?_
  obtain ⟨h7, h8, h9⟩ := hp
  rw [h7, h8] at hm
  subst h9
  refine lv_if_eq (tgt := 33) hx hb dX9_denominator_5 (by decide) (fun c => ?_) (fun c => ?_)
  · have c := fw_b0 c
    refine lv_iconst (v := (nI 0)) hx hb dX9_denominator_33 (by decide) ?_
    exact mm_iret hx hb hr hlk (Nat.le_of_ble_eq_true rfl) (Nat.le_of_ble_eq_true rfl) hm dX9_denominator_34 (⟨rfl, rfl, fun j h1 h2 => absurd (rf_in_of (by omega) h1 h2) (by rw [c]; decide)⟩)
  · have c := fw_b1 c
    obtain ⟨j, hj, rfl⟩ : ∃ j, j < nT ∧ t = nI j := rf_ix_t (by omega) c
    have k0 := htok j hj
    have k1 := rf_P_ok k0 (w := 1) (Or.inl rfl)
    have k2 := rf_P_ok k0 (w := 2) (Or.inr rfl)
    refine lv_aload_n hx hb dX9_denominator_8 rfl (lv_at hl 0 rfl) ?_
    refine lv_iload_n hx hb dX9_denominator_9 rfl (lv_at hl 1 rfl) ?_
    refine lv_iconst (v := (nI 1)) hx hb dX9_denominator_10 (by decide) ?_
    refine mm_calli (As := [.int (nI j), .int (nI 1)]) (rest := []) C hz hm (c_X9_product l G _ _ y ad _ _ j 1 (rf_sm f j) hm.2.1 k0.1 (by omega) k0.2.2.1 (by decide)) wd_856 yVX9_product ⟨Nat.le_of_ble_eq_true rfl, Nat.le_of_ble_eq_true rfl⟩ rfl hl.1 rfl (Nat.le_of_ble_eq_true rfl) dX9_denominator_11 ⟨Nat.le_of_ble_eq_true rfl, Nat.le_of_ble_eq_true rfl⟩ (fun r sc1 f1 F1 H locs hm hp => ?_)
    refine W.widen (k := 0) (n := 0) (Nat.le_of_ble_eq_true rfl) (Nat.le_of_ble_eq_true rfl) ?_
    obtain ⟨h7, h8, h9⟩ := hp
    rw [h7, h8] at hm
    subst h9
    refine fw_top (x' := (nI (rf_P f j 1))) (k1.1) ?_
    refine lv_aload_n hx hb dX9_denominator_14 rfl (lv_at hl 0 rfl) ?_
    refine lv_iload_n hx hb dX9_denominator_15 rfl (lv_at hl 1 rfl) ?_
    refine lv_iconst (v := (nI 2)) hx hb dX9_denominator_16 (by decide) ?_
    refine mm_calli (As := [.int (nI j), .int (nI 2)]) (rest := [.int (nI (rf_P f j 1))]) C hz hm (c_X9_product l G _ _ y ad _ _ j 2 (rf_sm f j) hm.2.1 k0.1 (by omega) k0.2.2.1 (by decide)) wd_856 yVX9_product ⟨Nat.le_of_ble_eq_true rfl, Nat.le_of_ble_eq_true rfl⟩ rfl hl.1 rfl (Nat.le_of_ble_eq_true rfl) dX9_denominator_17 ⟨Nat.le_of_ble_eq_true rfl, Nat.le_of_ble_eq_true rfl⟩ (fun r sc1 f1 F1 H locs hm hp => ?_)
    refine W.widen (k := 0) (n := 0) (Nat.le_of_ble_eq_true rfl) (Nat.le_of_ble_eq_true rfl) ?_
    obtain ⟨h7, h8, h9⟩ := hp
    rw [h7, h8] at hm
    subst h9
    refine fw_top (x' := (nI (rf_P f j 2))) (k2.1) ?_
    refine lv_aload_n hx hb dX9_denominator_20 rfl (lv_at hl 0 rfl) ?_
    refine lv_iload_n hx hb dX9_denominator_21 rfl (lv_at hl 1 rfl) ?_
    refine lv_iconst (v := (nI 1)) hx hb dX9_denominator_22 (by decide) ?_
    refine mm_calli (As := [.int (nI j), .int (nI 1)]) (rest := [.int (nI (rf_P f j 2)), .int (nI (rf_P f j 1))]) C hz hm (c_X9_product l G _ _ y ad _ _ j 1 (rf_sm f j) hm.2.1 k0.1 (by omega) k0.2.2.1 (by decide)) wd_856 yVX9_product ⟨Nat.le_of_ble_eq_true rfl, Nat.le_of_ble_eq_true rfl⟩ rfl hl.1 rfl (Nat.le_of_ble_eq_true rfl) dX9_denominator_23 ⟨Nat.le_of_ble_eq_true rfl, Nat.le_of_ble_eq_true rfl⟩ (fun r sc1 f1 F1 H locs hm hp => ?_)
    refine W.widen (k := 0) (n := 0) (Nat.le_of_ble_eq_true rfl) (Nat.le_of_ble_eq_true rfl) ?_
    obtain ⟨h7, h8, h9⟩ := hp
    rw [h7, h8] at hm
    subst h9
    refine fw_top (x' := (nI (rf_P f j 1))) (k1.1) ?_
    refine mm_calls (As := [.int (nI (rf_P f j 2)), .int (nI (rf_P f j 1))]) (rest := [.int (nI (rf_P f j 1))]) C hz hm (c_X9_common l G _ _ (rf_P f j 2) (rf_P f j 1) (by omega) (by omega)) wd_860 ySX9_common ⟨Nat.le_of_ble_eq_true rfl, Nat.le_of_ble_eq_true rfl⟩ rfl hl.1 rfl (Nat.le_of_ble_eq_true rfl) dX9_denominator_26 ⟨Nat.le_of_ble_eq_true rfl, Nat.le_of_ble_eq_true rfl⟩ (fun r H locs hm hp => ?_)
    refine W.widen (k := 0) (n := 0) (Nat.le_of_ble_eq_true rfl) (Nat.le_of_ble_eq_true rfl) ?_
    subst hp
    have kg : 0 < Nat.gcd (rf_P f j 2) (rf_P f j 1) := Nat.gcd_pos_of_pos_right _ (by omega)
    have kl : Nat.gcd (rf_P f j 2) (rf_P f j 1) ≤ rf_P f j 1 := Nat.gcd_le_right _ (by omega)
    refine lv_idiv hx hb dX9_denominator_29 (nI_ne0 kg (by omega)) ?_
    refine fw_top (x' := (nI (rf_P f j 1 / Nat.gcd (rf_P f j 2) (rf_P f j 1)))) (pk_div (by omega) kg (by omega)) ?_
    refine lv_goto (tgt := 34) hx hb dX9_denominator_30 (by decide) ?_
    exact mm_iret hx hb hr hlk (Nat.le_of_ble_eq_true rfl) (Nat.le_of_ble_eq_true rfl) hm dX9_denominator_34 (⟨rfl, rfl, fun i h1 h2 => by rw [nI_j (by omega) (by omega) h2]⟩)
set_option maxHeartbeats 4000000 in
set_option maxRecDepth 100000 in
theorem c_X9_turned (l : Launch) (G : fw_G) (F : fw_F) (sz y : Nat) (ad : Nat → Nat) (sc : mm_S) (f : mm_A) (nT : Nat) (t q : Int32) (hW : mm_W G F y ad sc f) (e7 : sc 7 = nI nT) (hn : nT ≤ 8) (htok : ∀ j, j < nT → rf_tok f j) : mm_Ci l G F sz y ad yX9_turned cX9_turned 3 (.int) { frames := 2, cells := 0, slots := 0, locals := 43 } [.int t, .int q] (fun r sc1 f1 => f1 = f ∧ (rf_ix t nT = false → sc1 = va_up sc 0 (nI 1)) ∧ (rf_ix t nT = true → rf_in q (nI 0) (nI 600000) = false → sc1 = va_up sc 0 (nI 2)) ∧ (∀ j i, j < nT → t = nI j → i ≤ 600000 → q = nI i → sc1 = va_up sc 0 (nI 0) ∧ r = nI (i * rf_P f j 1 / rf_P f j 2))) := by
  refine fw_met (lv := [(0, .ref y), (1, .int t), (2, .int q)]) (by decide +kernel) (Nat.le_of_ble_eq_true rfl) rfl ?_
  intro A hA p e s m below meth c ls hx hb hml hown hT hr hlk hin hz hsz hw hAn hl
  rw [← hA]
  have hown : s.vm.findClass RX9 = some m.cls := hown
  have C : CallFix p m c cX9_turned 3 s _ fw_tb RX9 := ⟨hx, hb, hml, hown, hT⟩
  have hm : mm_M G A s F y ad sc f F s.heap [] := ⟨hw, hW, mm_keep.rf⟩
  refine lv_aload_n hx hb dX9_turned_0 rfl (lv_at hl 0 rfl) ?_
  refine lv_aload_n hx hb dX9_turned_1 rfl (lv_at hl 0 rfl) ?_
  refine lv_iload_n hx hb dX9_turned_2 rfl (lv_at hl 1 rfl) ?_
  refine mm_calli (As := [.int t]) (rest := [.ref y]) C hz hm (c_X9_isTrain l G _ _ y ad _ _ nT t hm.2.1 e7) wd_852 yVX9_isTrain ⟨Nat.le_of_ble_eq_true rfl, Nat.le_of_ble_eq_true rfl⟩ rfl hl.1 rfl (Nat.le_of_ble_eq_true rfl) dX9_turned_3 ⟨Nat.le_of_ble_eq_true rfl, Nat.le_of_ble_eq_true rfl⟩ (fun r sc1 f1 F1 H locs hm hp => ?_)
  refine W.widen (k := 0) (n := 0) (Nat.le_of_ble_eq_true rfl) (Nat.le_of_ble_eq_true rfl) ?_
  obtain ⟨h7, h8, h9⟩ := hp
  rw [h7, h8] at hm
  subst h9
  refine lv_if_ne (tgt := 13) hx hb dX9_turned_6 (by decide) (fun c => ?_) (fun c => ?_)
  · have c := fw_b1 c
    refine lv_iload_n hx hb dX9_turned_13 rfl (lv_at hl 2 rfl) ?_
    refine lv_iconst (v := (nI 0)) hx hb dX9_turned_14 (by decide) ?_
    refine lv_ldc hx hb hown (hT _ wd_871) dX9_turned_15 ?_
    refine mm_calls (As := [.int q, .int (nI 0), .int (nI 600000)]) (rest := [.ref y]) C hz hm (c_X9_in l G _ _ q (nI 0) (nI 600000)) wd_821 ySX9_in ⟨Nat.le_of_ble_eq_true rfl, Nat.le_of_ble_eq_true rfl⟩ rfl hl.1 rfl (Nat.le_of_ble_eq_true rfl) dX9_turned_17 ⟨Nat.le_of_ble_eq_true rfl, Nat.le_of_ble_eq_true rfl⟩ (fun r H locs hm hp => ?_)
    refine W.widen (k := 0) (n := 0) (Nat.le_of_ble_eq_true rfl) (Nat.le_of_ble_eq_true rfl) ?_
    subst hp
    refine lv_if_eq (tgt := 27) hx hb dX9_turned_20 (by decide) (fun d => ?_) (fun d => ?_)
    · have d := fw_b0 d
      refine lv_iconst (v := (nI 2)) hx hb dX9_turned_27 (by decide) ?_
      refine mm_put hx hb hT hown hz hm 0 (by decide) wd_735 dX9_turned_28 (fun F1 H locs hm => ?_)
      refine lv_aload_n hx hb dX9_turned_31 rfl (lv_at hl 0 rfl) ?_
      refine mm_get hx hb hT hown hz hm 0 (by decide) wd_735 rfl (v := .int (nI 2)) rfl dX9_turned_32 ?_
      refine lv_if_le (tgt := 42) hx hb dX9_turned_35 (by decide) (fun cx => absurd cx (by decide)) (fun cx => ?_)
      refine lv_iconst (v := (nI 0)) hx hb dX9_turned_38 (by decide) ?_
      refine lv_goto (tgt := 61) hx hb dX9_turned_39 (by decide) ?_
      exact mm_iret hx hb hr hlk (Nat.le_of_ble_eq_true rfl) (Nat.le_of_ble_eq_true rfl) hm dX9_turned_61 (⟨rfl, fun h => absurd h (by rw [c]; decide), fun _ _ => bx_uu _ _ _ _, fun j i h1 h2 h3 h4 => by subst h4; rw [rf_in_t.mpr ⟨nI_le (Nat.zero_le _) (by omega), nI_le h3 (by decide)⟩] at d; cases d⟩)
    · have d := fw_b1 d
      obtain ⟨j, hj, rfl⟩ : ∃ j, j < nT ∧ t = nI j := rf_ix_t (by omega) c
      obtain ⟨i, hi, rfl⟩ : ∃ i, i ≤ 600000 ∧ q = nI i := nI_of2 (M := nI 600000) (by decide) (Int32.not_lt.mpr (rf_in_t.mp d).1) (rf_in_t.mp d).2
      have k0 := htok j hj
      have k1 := rf_P_ok k0 (w := 1) (Or.inl rfl)
      have k2 := rf_P_ok k0 (w := 2) (Or.inr rfl)
      refine lv_iconst (v := (nI 0)) hx hb dX9_turned_23 (by decide) ?_
      refine lv_goto (tgt := 28) hx hb dX9_turned_24 (by decide) ?_
      refine mm_put hx hb hT hown hz hm 0 (by decide) wd_735 dX9_turned_28 (fun F1 H locs hm => ?_)
      refine lv_aload_n hx hb dX9_turned_31 rfl (lv_at hl 0 rfl) ?_
      refine mm_get hx hb hT hown hz hm 0 (by decide) wd_735 rfl (v := .int (nI 0)) rfl dX9_turned_32 ?_
      refine lv_if_le (tgt := 42) hx hb dX9_turned_35 (by decide) (fun cx => ?_) (fun cx => absurd cx (by decide))
      refine lv_iload_n hx hb dX9_turned_42 rfl (lv_at hl 2 rfl) ?_
      refine lv_i2l (v := lN i) hx hb dX9_turned_43 (nI_l (by omega)) ?_
      refine lv_aload_n hx hb dX9_turned_44 rfl (lv_at hl 0 rfl) ?_
      refine lv_iload_n hx hb dX9_turned_45 rfl (lv_at hl 1 rfl) ?_
      refine lv_iconst (v := (nI 1)) hx hb dX9_turned_46 (by decide) ?_
      refine mm_calli (As := [.int (nI j), .int (nI 1)]) (rest := [.long (lN i)]) C hz hm (c_X9_product l G _ _ y ad _ _ j 1 (rf_sm f j) hm.2.1 k0.1 (by omega) k0.2.2.1 (by decide)) wd_856 yVX9_product ⟨Nat.le_of_ble_eq_true rfl, Nat.le_of_ble_eq_true rfl⟩ rfl hl.1 rfl (Nat.le_of_ble_eq_true rfl) dX9_turned_47 ⟨Nat.le_of_ble_eq_true rfl, Nat.le_of_ble_eq_true rfl⟩ (fun r sc1 f1 F1 H locs hm hp => ?_)
      refine W.widen (k := 0) (n := 0) (Nat.le_of_ble_eq_true rfl) (Nat.le_of_ble_eq_true rfl) ?_
      obtain ⟨h7, h8, h9⟩ := hp
      rw [h7, h8] at hm
      subst h9
      refine fw_top (x' := (nI (rf_P f j 1))) (k1.1) ?_
      refine lv_i2l (v := lN (rf_P f j 1)) hx hb dX9_turned_50 (nI_l (by omega)) ?_
      refine lv_lmul hx hb dX9_turned_51 ?_
      refine fw_topL (lN_mul _ _) ?_
      refine lv_aload_n hx hb dX9_turned_52 rfl (lv_at hl 0 rfl) ?_
      refine lv_iload_n hx hb dX9_turned_53 rfl (lv_at hl 1 rfl) ?_
      refine lv_iconst (v := (nI 2)) hx hb dX9_turned_54 (by decide) ?_
      refine mm_calli (As := [.int (nI j), .int (nI 2)]) (rest := [.long (lN (i * rf_P f j 1))]) C hz hm (c_X9_product l G _ _ y ad _ _ j 2 (rf_sm f j) hm.2.1 k0.1 (by omega) k0.2.2.1 (by decide)) wd_856 yVX9_product ⟨Nat.le_of_ble_eq_true rfl, Nat.le_of_ble_eq_true rfl⟩ rfl hl.1 rfl (Nat.le_of_ble_eq_true rfl) dX9_turned_55 ⟨Nat.le_of_ble_eq_true rfl, Nat.le_of_ble_eq_true rfl⟩ (fun r sc1 f1 F1 H locs hm hp => ?_)
      refine W.widen (k := 0) (n := 0) (Nat.le_of_ble_eq_true rfl) (Nat.le_of_ble_eq_true rfl) ?_
      obtain ⟨h7, h8, h9⟩ := hp
      rw [h7, h8] at hm
      subst h9
      refine fw_top (x' := (nI (rf_P f j 2))) (k2.1) ?_
      refine lv_i2l (v := lN (rf_P f j 2)) hx hb dX9_turned_58 (nI_l (by omega)) ?_
      have km : i * rf_P f j 1 ≤ 600000 * 12960000 := Nat.mul_le_mul hi k1.2.2
      have kz : ¬ lN (rf_P f j 2) = 0 := fun h => absurd ((pk_lEQ (a := rf_P f j 2) (b := 0) (by omega) (by omega)).mp h) (by omega)
      refine lv_ldiv hx hb dX9_turned_59 kz ?_
      refine fw_topL (pk_lDiv (by omega) (by omega) (by omega)) ?_
      refine lv_l2i (v := nI (i * rf_P f j 1 / rf_P f j 2)) hx hb dX9_turned_60 (lN_i _) ?_
      exact mm_iret hx hb hr hlk (Nat.le_of_ble_eq_true rfl) (Nat.le_of_ble_eq_true rfl) hm dX9_turned_61 (⟨rfl, fun h => absurd h (by rw [c]; decide), fun _ h => absurd h (by rw [d]; decide), fun j1 i1 h1 h2 h3 h4 => by rw [nI_j (by omega) (by omega) h2, (nI_eq (a := i) (b := i1) (by omega) (by omega)).mp h4]; exact ⟨bx_uu _ _ _ _, rfl⟩⟩)
  · have c := fw_b0 c
    refine lv_iconst (v := (nI 1)) hx hb dX9_turned_9 (by decide) ?_
    refine lv_goto (tgt := 28) hx hb dX9_turned_10 (by decide) ?_
    refine mm_put hx hb hT hown hz hm 0 (by decide) wd_735 dX9_turned_28 (fun F1 H locs hm => ?_)
    refine lv_aload_n hx hb dX9_turned_31 rfl (lv_at hl 0 rfl) ?_
    refine mm_get hx hb hT hown hz hm 0 (by decide) wd_735 rfl (v := .int (nI 1)) rfl dX9_turned_32 ?_
    refine lv_if_le (tgt := 42) hx hb dX9_turned_35 (by decide) (fun cx => absurd cx (by decide)) (fun cx => ?_)
    refine lv_iconst (v := (nI 0)) hx hb dX9_turned_38 (by decide) ?_
    refine lv_goto (tgt := 61) hx hb dX9_turned_39 (by decide) ?_
    exact mm_iret hx hb hr hlk (Nat.le_of_ble_eq_true rfl) (Nat.le_of_ble_eq_true rfl) hm dX9_turned_61 (⟨rfl, fun _ => bx_uu _ _ _ _, fun h => absurd h (by rw [c]; decide), fun j i h1 h2 => absurd (rf_in_of (by omega) h1 h2) (by rw [c]; decide)⟩)
set_option maxHeartbeats 4000000 in
set_option maxRecDepth 100000 in
theorem c_X9_turnedByWalk (l : Launch) (G : fw_G) (F : fw_F) (sz y : Nat) (ad : Nat → Nat) (sc : mm_S) (f : mm_A) (nT : Nat) (t q : Int32) (hW : mm_W G F y ad sc f) (e7 : sc 7 = nI nT) (hn : nT ≤ 8) (htok : ∀ j, j < nT → rf_tok f j) : mm_Ci l G F sz y ad yX9_turnedByWalk cX9_turnedByWalk 3 (.int) { frames := 3, cells := 0, slots := 0, locals := 65 } [.int t, .int q] (fun r sc1 f1 => f1 = f ∧ (rf_ix t nT = false → sc1 = va_up sc 0 (nI 1)) ∧ (rf_ix t nT = true → rf_in q (nI 0) (nI 600000) = false → sc1 = va_up sc 0 (nI 2)) ∧ (∀ j i, j < nT → t = nI j → i ≤ 600000 → q = nI i → sc1 = va_up sc 0 (nI 0) ∧ r = nI (i * rf_P f j 1 / rf_P f j 2))) := by
  refine fw_met (lv := [(0, .ref y), (1, .int t), (2, .int q)]) (by decide +kernel) (Nat.le_of_ble_eq_true rfl) rfl ?_
  intro A hA p e s m below meth c ls hx hb hml hown hT hr hlk hin hz hsz hw hAn hl
  rw [← hA]
  have hown : s.vm.findClass RX9 = some m.cls := hown
  have C : CallFix p m c cX9_turnedByWalk 3 s _ fw_tb RX9 := ⟨hx, hb, hml, hown, hT⟩
  have hm : mm_M G A s F y ad sc f F s.heap [] := ⟨hw, hW, mm_keep.rf⟩
  refine lv_aload_n hx hb dX9_turnedByWalk_0 rfl (lv_at hl 0 rfl) ?_
  refine lv_iload_n hx hb dX9_turnedByWalk_1 rfl (lv_at hl 1 rfl) ?_
  refine lv_iload_n hx hb dX9_turnedByWalk_2 rfl (lv_at hl 2 rfl) ?_
  refine mm_calli (As := [.int t, .int q]) (rest := []) C hz hm (c_X9_turned l G _ _ y ad _ _ nT t q hm.2.1 e7 hn htok) wd_876 yVX9_turned ⟨Nat.le_of_ble_eq_true rfl, Nat.le_of_ble_eq_true rfl⟩ rfl hl.1 rfl (Nat.le_of_ble_eq_true rfl) dX9_turnedByWalk_3 ⟨Nat.le_of_ble_eq_true rfl, Nat.le_of_ble_eq_true rfl⟩ (fun r sc1 f1 F1 H locs hm hp => ?_)
  refine W.widen (k := 0) (n := 0) (Nat.le_of_ble_eq_true rfl) (Nat.le_of_ble_eq_true rfl) ?_
  exact mm_iret hx hb hr hlk (Nat.le_of_ble_eq_true rfl) (Nat.le_of_ble_eq_true rfl) hm dX9_turnedByWalk_6 (hp)
end
section
/-! The reference's methods: machines. -/
theorem rf_ix3 {t : Int32} (h : rf_in t (nI 0) (nI 2) = true) : ∃ j, j < 3 ∧ t = nI j := by
  obtain ⟨j, hj, h2⟩ := nI_of2 (M := nI 2) (n := 2) (by decide) (Int32.not_lt.mpr (rf_in_t.mp h).1) (rf_in_t.mp h).2
  exact ⟨j, by omega, h2⟩
theorem rf_ix3_of {t : Int32} {j : Nat} (hj : j < 3) (h : t = nI j) : rf_in t (nI 0) (nI 2) = true := by
  subst h
  exact rf_in_t.mpr ⟨nI_le (Nat.zero_le _) (by omega), nI_le (by omega) (by decide)⟩
def rf_its (f : mm_A) (n mc : Nat) : Int32 := if rf_first f n mc true = -1 then rf_first f n mc false else rf_first f n mc true
def rf_put (f : mm_A) (mc i ex : Nat) : mm_A := va_up (va_up (va_up (va_up f 22 (upd (f 22) mc (f 18 i))) 23 (upd (f 23) mc (nI i))) 24 (upd (f 24) mc (f 19 i + nI ex))) 20 (upd (f 20) i (nI mc))
def rf_takes (f : mm_A) (n mc : Nat) : mm_A := if rf_its f n mc = -1 then f else rf_put f mc (rf_n (rf_its f n mc)) (if rf_first f n mc true = -1 then 3 else 0)
theorem rf_firstL_ix (f : mm_A) (n mc : Nat) (b : Bool) : ∀ (j : Nat) (its : Int32), j ≤ n → (its = -1 ∨ ∃ i, i < n ∧ its = nI i) → (rf_firstL f mc b j its = -1 ∨ ∃ i, i < n ∧ rf_firstL f mc b j its = nI i)
  | 0, _, _, h => h
  | j + 1, its, hj, h => by
    rw [rf_firstL]
    refine rf_firstL_ix f n mc b j _ (by omega) ?_
    split
    · exact Or.inr ⟨j, by omega, rfl⟩
    · exact h
theorem rf_first_ix (f : mm_A) (n mc : Nat) (b : Bool) : rf_first f n mc b = -1 ∨ ∃ i, i < n ∧ rf_first f n mc b = nI i := rf_firstL_ix f n mc b n (-1) (Nat.le_refl _) (Or.inl rfl)
theorem rf_its_ix (f : mm_A) (n mc : Nat) : rf_its f n mc = -1 ∨ ∃ i, i < n ∧ rf_its f n mc = nI i := by
  unfold rf_its
  split
  · exact rf_first_ix f n mc false
  · exact rf_first_ix f n mc true
theorem rf_m1_ne {i : Nat} (h : i < 2 ^ 31) : nI i ≠ -1 := by
  intro h9
  have h1 := congrArg Int32.toInt h9
  rw [nI_toInt h, show (-1 : Int32).toInt = -1 from by decide] at h1
  omega
/-- the jobs of the machines, the orders of the jobs -/
def rf_jok (f : mm_A) (nJ nO : Nat) : Prop := (∀ m, m < 3 → f 23 m = -1 ∨ ∃ i, i < nJ ∧ f 23 m = nI i) ∧ ∀ i, i < nJ → ∃ o, o < nO ∧ f 17 i = nI o
theorem rf_jok_takes {f : mm_A} {nJ nO mc : Nat} (hJ : nJ ≤ 96) (h : rf_jok f nJ nO) : rf_jok (rf_takes f nJ mc) nJ nO := by
  unfold rf_takes
  split
  · exact h
  · rename_i hne
    rcases rf_its_ix f nJ mc with h1 | ⟨i, hi, h1⟩
    · exact absurd h1 hne
    · refine ⟨fun m hm => ?_, fun j hj => h.2 j hj⟩
      show upd (f 23) mc (nI (rf_n (rf_its f nJ mc))) m = -1 ∨ _
      by_cases e : m = mc
      · refine Or.inr ⟨i, hi, ?_⟩
        show upd (f 23) mc (nI (rf_n (rf_its f nJ mc))) m = nI i
        rw [h1, rf_n_nI (by omega)]
        simp [upd, e]
      · rcases h.1 m hm with q | ⟨k, hk, q⟩
        · exact Or.inl (by simp [upd, e, q])
        · exact Or.inr ⟨k, hk, by show upd (f 23) mc _ m = _; simp [upd, e, q]⟩
def rf_give (f : mm_A) (n : Nat) : Nat → mm_A
  | 0 => f
  | k + 1 => if rf_give f n k 23 k = -1 then rf_takes (rf_give f n k) n k else rf_give f n k
theorem rf_give_s (f : mm_A) (n k : Nat) : rf_give f n (k + 1) = if rf_give f n k 23 k = -1 then rf_takes (rf_give f n k) n k else rf_give f n k := rfl
theorem rf_jok_give {f : mm_A} {nJ nO : Nat} (hJ : nJ ≤ 96) (h : rf_jok f nJ nO) : ∀ k, rf_jok (rf_give f nJ k) nJ nO
  | 0 => h
  | k + 1 => by
    rw [rf_give_s]
    split
    · exact rf_jok_takes hJ (rf_jok_give hJ h k)
    · exact rf_jok_give hJ h k
/-- a tick at machine m: less to do; the gear is cut -/
def rf_less (f : mm_A) (m : Nat) : mm_A := va_up f 24 (upd (f 24) m (f 24 m - 1))
def rf_done (f : mm_A) (n : Nat) (tm : Int32) (m i : Nat) : mm_A :=
  va_up (va_up (va_up f 20 (upd (f 20) i (-2))) 23 (upd (f 23) m (-1))) 13 (upd (f 13) (rf_n (f 17 i)) (if rf_left (va_up f 20 (upd (f 20) i (-2))) (f 17 i) n = 0 then tm else -1))
def rf_wk (n : Nat) (tm : Int32) (f : mm_A) (m : Nat) : mm_A := if f 23 m = -1 then f else if f 24 m - 1 = 0 then rf_done (rf_less f m) n tm m (rf_n (f 23 m)) else rf_less f m
def rf_wc (f : mm_A) (m : Nat) : Nat := if f 23 m = -1 then 0 else if f 24 m - 1 = 0 then 1 else 0
def rf_work (n : Nat) (tm : Int32) (f : mm_A) : Nat → mm_A
  | 0 => f
  | k + 1 => rf_wk n tm (rf_work n tm f k) k
def rf_cnt (n : Nat) (tm : Int32) (f : mm_A) : Nat → Nat
  | 0 => 0
  | k + 1 => rf_cnt n tm f k + rf_wc (rf_work n tm f k) k
theorem rf_work_s (n : Nat) (tm : Int32) (f : mm_A) (k : Nat) : rf_work n tm f (k + 1) = rf_wk n tm (rf_work n tm f k) k := rfl
theorem rf_cnt_s (n : Nat) (tm : Int32) (f : mm_A) (k : Nat) : rf_cnt n tm f (k + 1) = rf_cnt n tm f k + rf_wc (rf_work n tm f k) k := rfl
theorem rf_jok_wk {f : mm_A} {nJ nO : Nat} {tm : Int32} {m : Nat} (h : rf_jok f nJ nO) : rf_jok (rf_wk nJ tm f m) nJ nO := by
  unfold rf_wk
  split
  · exact h
  · split
    · refine ⟨fun k hk => ?_, fun j hj => h.2 j hj⟩
      show upd (f 23) m (-1) k = -1 ∨ _
      by_cases e : k = m
      · exact Or.inl (by simp [upd, e])
      · rcases h.1 k hk with q | ⟨i, hi, q⟩
        · exact Or.inl (by simp [upd, e, q])
        · exact Or.inr ⟨i, hi, by show upd (f 23) m _ k = _; simp [upd, e, q]⟩
    · exact h
theorem rf_jok_work {f : mm_A} {nJ nO : Nat} {tm : Int32} (h : rf_jok f nJ nO) : ∀ k, rf_jok (rf_work nJ tm f k) nJ nO
  | 0 => h
  | k + 1 => rf_jok_wk (rf_jok_work h k)
def rf_tickf (n : Nat) (tm : Int32) (f : mm_A) : mm_A := rf_work n (tm + 1) (rf_give f n 3) 3
def rf_tickn (n : Nat) (tm : Int32) (f : mm_A) : Nat := rf_cnt n (tm + 1) (rf_give f n 3) 3
theorem rf_jok_tick {f : mm_A} {nJ nO : Nat} {tm : Int32} (hJ : nJ ≤ 96) (h : rf_jok f nJ nO) : rf_jok (rf_tickf nJ tm f) nJ nO := rf_jok_work (rf_jok_give hJ h 3) 3
def rf_passf (n : Nat) (tm : Int32) (f : mm_A) : Nat → mm_A
  | 0 => f
  | q + 1 => rf_tickf n (tm + nI q) (rf_passf n tm f q)
def rf_passn (n : Nat) (tm : Int32) (f : mm_A) : Nat → Nat
  | 0 => 0
  | q + 1 => rf_passn n tm f q + rf_tickn n (tm + nI q) (rf_passf n tm f q)
theorem rf_jok_pass {f : mm_A} {nJ nO : Nat} {tm : Int32} (hJ : nJ ≤ 96) (h : rf_jok f nJ nO) : ∀ q, rf_jok (rf_passf nJ tm f q) nJ nO
  | 0 => h
  | q + 1 => rf_jok_tick hJ (rf_jok_pass hJ h q)
set_option maxHeartbeats 4000000 in
set_option maxRecDepth 100000 in
theorem c_X9_cutterOn (l : Launch) (G : fw_G) (F : fw_F) (sz y : Nat) (ad : Nat → Nat) (sc : mm_S) (f : mm_A) (t : Int32) (hW : mm_W G F y ad sc f) : mm_Ci l G F sz y ad yX9_cutterOn cX9_cutterOn 2 (.int) { frames := 2, cells := 0, slots := 0, locals := 43 } [.int t] (fun r sc1 f1 => f1 = f ∧ sc1 = va_up sc 0 (fw_b (!rf_in t (nI 0) (nI 2))) ∧ (∀ j, j < 3 → t = nI j → r = f 22 j)) := by
  refine fw_met (lv := [(0, .ref y), (1, .int t)]) (by decide +kernel) (Nat.le_of_ble_eq_true rfl) rfl ?_
  intro A hA p e s m below meth c ls hx hb hml hown hT hr hlk hin hz hsz hw hAn hl
  rw [← hA]
  have hown : s.vm.findClass RX9 = some m.cls := hown
  have C : CallFix p m c cX9_cutterOn 2 s _ fw_tb RX9 := ⟨hx, hb, hml, hown, hT⟩
  have hm : mm_M G A s F y ad sc f F s.heap [] := ⟨hw, hW, mm_keep.rf⟩
  refine lv_aload_n hx hb dX9_cutterOn_0 rfl (lv_at hl 0 rfl) ?_
  refine lv_iload_n hx hb dX9_cutterOn_1 rfl (lv_at hl 1 rfl) ?_
  refine mm_calli (As := [.int t]) (rest := []) C hz hm (c_X9_isMachine l G _ _ y ad _ _ t hm.2.1) wd_921 yVX9_isMachine ⟨Nat.le_of_ble_eq_true rfl, Nat.le_of_ble_eq_true rfl⟩ rfl hl.1 rfl (Nat.le_of_ble_eq_true rfl) dX9_cutterOn_2 ⟨Nat.le_of_ble_eq_true rfl, Nat.le_of_ble_eq_true rfl⟩ (fun r sc1 f1 F1 H locs hm hp => ?_)
  refine W.widen (k := 0) (n := 0) (Nat.le_of_ble_eq_true rfl) (Nat.le_of_ble_eq_true rfl) ?_
  obtain ⟨h7, h8, h9⟩ := hp
  rw [h7, h8] at hm
  subst h9
  refine lv_if_eq (tgt := 17) hx hb dX9_cutterOn_5 (by decide) (fun c => ?_) (fun c => ?_)
  · have c := fw_b0 c
    refine lv_iconst (v := (nI 0)) hx hb dX9_cutterOn_17 (by decide) ?_
    exact mm_iret hx hb hr hlk (Nat.le_of_ble_eq_true rfl) (Nat.le_of_ble_eq_true rfl) hm dX9_cutterOn_18 (⟨rfl, rfl, fun j h1 h2 => absurd (rf_ix3_of h1 h2) (by rw [c]; decide)⟩)
  · have c := fw_b1 c
    obtain ⟨j, hj, rfl⟩ := rf_ix3 c
    refine lv_aload_n hx hb dX9_cutterOn_8 rfl (lv_at hl 0 rfl) ?_
    refine mm_get hx hb hT hown hz hm 22 (by decide) wd_757 rfl (v := .ref (ad 22)) rfl dX9_cutterOn_9 ?_
    refine lv_iload_n hx hb dX9_cutterOn_12 rfl (lv_at hl 1 rfl) ?_
    refine mm_ald hx hb hz hm 22 (j) (by decide) rfl (show j < 3 by omega) dX9_cutterOn_13 ?_
    refine lv_goto (tgt := 18) hx hb dX9_cutterOn_14 (by decide) ?_
    exact mm_iret hx hb hr hlk (Nat.le_of_ble_eq_true rfl) (Nat.le_of_ble_eq_true rfl) hm dX9_cutterOn_18 (⟨rfl, rfl, fun i h1 h2 => by rw [nI_j (by omega) (by omega) h2]⟩)
set_option maxHeartbeats 4000000 in
set_option maxRecDepth 100000 in
theorem c_X9_ticksLeft (l : Launch) (G : fw_G) (F : fw_F) (sz y : Nat) (ad : Nat → Nat) (sc : mm_S) (f : mm_A) (t : Int32) (hW : mm_W G F y ad sc f) : mm_Ci l G F sz y ad yX9_ticksLeft cX9_ticksLeft 2 (.int) { frames := 2, cells := 0, slots := 0, locals := 43 } [.int t] (fun r sc1 f1 => f1 = f ∧ sc1 = va_up sc 0 (fw_b (!rf_in t (nI 0) (nI 2))) ∧ (∀ j, j < 3 → t = nI j → r = (if f 23 j = -1 then nI 0 else f 24 j))) := by
  refine fw_met (lv := [(0, .ref y), (1, .int t)]) (by decide +kernel) (Nat.le_of_ble_eq_true rfl) rfl ?_
  intro A hA p e s m below meth c ls hx hb hml hown hT hr hlk hin hz hsz hw hAn hl
  rw [← hA]
  have hown : s.vm.findClass RX9 = some m.cls := hown
  have C : CallFix p m c cX9_ticksLeft 2 s _ fw_tb RX9 := ⟨hx, hb, hml, hown, hT⟩
  have hm : mm_M G A s F y ad sc f F s.heap [] := ⟨hw, hW, mm_keep.rf⟩
  refine lv_aload_n hx hb dX9_ticksLeft_0 rfl (lv_at hl 0 rfl) ?_
  refine lv_iload_n hx hb dX9_ticksLeft_1 rfl (lv_at hl 1 rfl) ?_
  refine mm_calli (As := [.int t]) (rest := []) C hz hm (c_X9_isMachine l G _ _ y ad _ _ t hm.2.1) wd_921 yVX9_isMachine ⟨Nat.le_of_ble_eq_true rfl, Nat.le_of_ble_eq_true rfl⟩ rfl hl.1 rfl (Nat.le_of_ble_eq_true rfl) dX9_ticksLeft_2 ⟨Nat.le_of_ble_eq_true rfl, Nat.le_of_ble_eq_true rfl⟩ (fun r sc1 f1 F1 H locs hm hp => ?_)
  refine W.widen (k := 0) (n := 0) (Nat.le_of_ble_eq_true rfl) (Nat.le_of_ble_eq_true rfl) ?_
  obtain ⟨h7, h8, h9⟩ := hp
  rw [h7, h8] at hm
  subst h9
  refine lv_if_eq (tgt := 27) hx hb dX9_ticksLeft_5 (by decide) (fun c => ?_) (fun c => ?_)
  · have c := fw_b0 c
    refine lv_iconst (v := (nI 0)) hx hb dX9_ticksLeft_27 (by decide) ?_
    exact mm_iret hx hb hr hlk (Nat.le_of_ble_eq_true rfl) (Nat.le_of_ble_eq_true rfl) hm dX9_ticksLeft_28 (⟨rfl, rfl, fun j h1 h2 => absurd (rf_ix3_of h1 h2) (by rw [c]; decide)⟩)
  · have c := fw_b1 c
    obtain ⟨j, hj, rfl⟩ := rf_ix3 c
    refine lv_aload_n hx hb dX9_ticksLeft_8 rfl (lv_at hl 0 rfl) ?_
    refine mm_get hx hb hT hown hz hm 23 (by decide) wd_758 rfl (v := .ref (ad 23)) rfl dX9_ticksLeft_9 ?_
    refine lv_iload_n hx hb dX9_ticksLeft_12 rfl (lv_at hl 1 rfl) ?_
    refine mm_ald hx hb hz hm 23 (j) (by decide) rfl (show j < 3 by omega) dX9_ticksLeft_13 ?_
    refine lv_iconst (v := (-1)) hx hb dX9_ticksLeft_14 (by decide) ?_
    refine lv_icmp_eq (tgt := 27) hx hb dX9_ticksLeft_15 (by decide) (fun d => ?_) (fun d => ?_)
    · refine lv_iconst (v := (nI 0)) hx hb dX9_ticksLeft_27 (by decide) ?_
      exact mm_iret hx hb hr hlk (Nat.le_of_ble_eq_true rfl) (Nat.le_of_ble_eq_true rfl) hm dX9_ticksLeft_28 (⟨rfl, rfl, fun i h1 h2 => by rw [← nI_j (by omega) (by omega) h2, if_pos d]⟩)
    · refine lv_aload_n hx hb dX9_ticksLeft_18 rfl (lv_at hl 0 rfl) ?_
      refine mm_get hx hb hT hown hz hm 24 (by decide) wd_759 rfl (v := .ref (ad 24)) rfl dX9_ticksLeft_19 ?_
      refine lv_iload_n hx hb dX9_ticksLeft_22 rfl (lv_at hl 1 rfl) ?_
      refine mm_ald hx hb hz hm 24 (j) (by decide) rfl (show j < 3 by omega) dX9_ticksLeft_23 ?_
      refine lv_goto (tgt := 28) hx hb dX9_ticksLeft_24 (by decide) ?_
      exact mm_iret hx hb hr hlk (Nat.le_of_ble_eq_true rfl) (Nat.le_of_ble_eq_true rfl) hm dX9_ticksLeft_28 (⟨rfl, rfl, fun i h1 h2 => by rw [← nI_j (by omega) (by omega) h2, if_neg d]⟩)
set_option maxHeartbeats 4000000 in
set_option maxRecDepth 100000 in
theorem c_X9_gearsLeft (l : Launch) (G : fw_G) (F : fw_F) (sz y : Nat) (ad : Nat → Nat) (sc : mm_S) (f : mm_A) (nO nJ : Nat) (t : Int32) (hW : mm_W G F y ad sc f) (e7 : sc 11 = nI nO) (hn : nO ≤ 12) (e16 : sc 16 = nI nJ) (hJ : nJ ≤ 96) : mm_Ci l G F sz y ad yX9_gearsLeft cX9_gearsLeft 2 (.int) { frames := 2, cells := 0, slots := 0, locals := 43 } [.int t] (fun r sc1 f1 => f1 = f ∧ sc1 = va_up sc 0 (fw_b (!rf_ix t nO)) ∧ (∀ j, j < nO → t = nI j → r = nI (rf_left f t nJ))) := by
  refine fw_met (lv := [(0, .ref y), (1, .int t)]) (by decide +kernel) (Nat.le_of_ble_eq_true rfl) rfl ?_
  intro A hA p e s m below meth c ls hx hb hml hown hT hr hlk hin hz hsz hw hAn hl
  rw [← hA]
  have hown : s.vm.findClass RX9 = some m.cls := hown
  have C : CallFix p m c cX9_gearsLeft 2 s _ fw_tb RX9 := ⟨hx, hb, hml, hown, hT⟩
  have hm : mm_M G A s F y ad sc f F s.heap [] := ⟨hw, hW, mm_keep.rf⟩
  refine lv_aload_n hx hb dX9_gearsLeft_0 rfl (lv_at hl 0 rfl) ?_
  refine lv_iload_n hx hb dX9_gearsLeft_1 rfl (lv_at hl 1 rfl) ?_
  refine mm_calli (As := [.int t]) (rest := []) C hz hm (c_X9_isOrder l G _ _ y ad _ _ nO t hm.2.1 e7) wd_933 yVX9_isOrder ⟨Nat.le_of_ble_eq_true rfl, Nat.le_of_ble_eq_true rfl⟩ rfl hl.1 rfl (Nat.le_of_ble_eq_true rfl) dX9_gearsLeft_2 ⟨Nat.le_of_ble_eq_true rfl, Nat.le_of_ble_eq_true rfl⟩ (fun r sc1 f1 F1 H locs hm hp => ?_)
  refine W.widen (k := 0) (n := 0) (Nat.le_of_ble_eq_true rfl) (Nat.le_of_ble_eq_true rfl) ?_
  obtain ⟨h7, h8, h9⟩ := hp
  rw [h7, h8] at hm
  subst h9
  refine lv_if_eq (tgt := 16) hx hb dX9_gearsLeft_5 (by decide) (fun c => ?_) (fun c => ?_)
  · have c := fw_b0 c
    refine lv_iconst (v := (nI 0)) hx hb dX9_gearsLeft_16 (by decide) ?_
    exact mm_iret hx hb hr hlk (Nat.le_of_ble_eq_true rfl) (Nat.le_of_ble_eq_true rfl) hm dX9_gearsLeft_17 (⟨rfl, rfl, fun j h1 h2 => absurd (rf_in_of (by omega) h1 h2) (by rw [c]; decide)⟩)
  · have c := fw_b1 c
    refine lv_aload_n hx hb dX9_gearsLeft_8 rfl (lv_at hl 0 rfl) ?_
    refine lv_iload_n hx hb dX9_gearsLeft_9 rfl (lv_at hl 1 rfl) ?_
    refine mm_calli (As := [.int t]) (rest := []) C hz hm (c_X9_toCut l G _ _ y ad _ _ nJ t hm.2.1 e16 hJ) wd_905 yVX9_toCut ⟨Nat.le_of_ble_eq_true rfl, Nat.le_of_ble_eq_true rfl⟩ rfl hl.1 rfl (Nat.le_of_ble_eq_true rfl) dX9_gearsLeft_10 ⟨Nat.le_of_ble_eq_true rfl, Nat.le_of_ble_eq_true rfl⟩ (fun r sc1 f1 F1 H locs hm hp => ?_)
    refine W.widen (k := 0) (n := 0) (Nat.le_of_ble_eq_true rfl) (Nat.le_of_ble_eq_true rfl) ?_
    obtain ⟨h7, h8, h9⟩ := hp
    rw [h7, h8] at hm
    subst h9
    refine lv_goto (tgt := 17) hx hb dX9_gearsLeft_13 (by decide) ?_
    exact mm_iret hx hb hr hlk (Nat.le_of_ble_eq_true rfl) (Nat.le_of_ble_eq_true rfl) hm dX9_gearsLeft_17 (⟨rfl, rfl, fun _ _ _ => rfl⟩)
set_option maxHeartbeats 4000000 in
set_option maxRecDepth 100000 in
theorem c_X9_first (l : Launch) (G : fw_G) (F : fw_F) (sz y : Nat) (ad : Nat → Nat) (sc : mm_S) (f : mm_A) (nJ mc : Nat) (same : Bool) (hW : mm_W G F y ad sc f) (e16 : sc 16 = nI nJ) (hJ : nJ ≤ 96) (hmc : mc < 3) : mm_Ci l G F sz y ad yX9_first cX9_first 6 (.int) { frames := 1, cells := 0, slots := 0, locals := 23 } [.int (nI mc), .int (fw_b same)] (fun r sc1 f1 => sc1 = sc ∧ f1 = f ∧ r = rf_first f nJ mc same) := by
  refine fw_met (lv := [(0, .ref y), (1, .int (nI mc)), (2, .int (fw_b same))]) (by decide +kernel) (Nat.le_of_ble_eq_true rfl) rfl ?_
  intro A hA p e s m below meth c ls hx hb hml hown hT hr hlk hin hz hsz hw hAn hl
  rw [← hA]
  have hown : s.vm.findClass RX9 = some m.cls := hown
  have C : CallFix p m c cX9_first 6 s _ fw_tb RX9 := ⟨hx, hb, hml, hown, hT⟩
  have hm : mm_M G A s F y ad sc f F s.heap [] := ⟨hw, hW, mm_keep.rf⟩
  refine lv_iconst (v := (-1)) hx hb dX9_first_0 (by decide) ?_
  refine lv_istore_n (lv' := [(3, .int (-1)), (0, .ref y), (1, .int (nI mc)), (2, .int (fw_b same))]) hx hb dX9_first_1 rfl hl (by decide) rfl (fun ls hl => ?_)
  refine lv_aload_n hx hb dX9_first_2 rfl (lv_at hl 1 rfl) ?_
  refine mm_get hx hb hT hown hz hm 16 (by decide) wd_751 rfl (v := .int (sc 16)) rfl dX9_first_3 ?_
  refine fw_top (e16) ?_
  refine lv_iconst (v := (nI 1)) hx hb dX9_first_6 (by decide) ?_
  refine lv_isub hx hb dX9_first_7 ?_
  refine lv_istore (lv' := [(4, .int ((nI nJ) - (nI 1))), (3, .int (-1)), (0, .ref y), (1, .int (nI mc)), (2, .int (fw_b same))]) hx hb dX9_first_8 hl (by decide) rfl (fun ls hl => ?_)
  suffices hlp : ∀ (j : Nat) (its : Int32), j ≤ nJ → rf_firstL f mc same j its = rf_first f nJ mc same → ∀ (F1 : fw_F) (H : Heap) (locs : List Loc) (ls : Array Slot), mm_M G A s F y ad sc f F1 H locs → lv_has ls 6 [(4, .int (nI j - nI 1)), (3, .int its), (0, .ref y), (1, .int (nI mc)), (2, .int (fw_b same))] → W p l e { frames := 1, cells := 0, slots := 0, locals := 23 } s m ([.ref y, .int (nI mc), .int (fw_b same)] : List Value).toArray below meth c H locs 0 0 (MQ below (va_Qi (mm_post G y ad F (fun r sc1 f1 => sc1 = sc ∧ f1 = f ∧ r = rf_first f nJ mc same)) (fw_B G A) A) ([.ref y, .int (nI mc), .int (fw_b same)] : List Value).toArray s 0 0 A) (F0 m 10 ls []) by
    exact hlp nJ (-1) (Nat.le_refl _) rfl _ _ _ _ hm (lv_sub hl [0, 1, 2, 3, 4] rfl)
  intro j
  induction j with
  | zero =>
    intro its hj hi F1 H locs ls hm hl
    refine lv_iload hx hb dX9_first_10 (lv_at hl 0 rfl) ?_
    refine lv_if_lt (tgt := 93) hx hb dX9_first_12 (by decide) (fun c => ?_) (fun c => ?_)
    · refine lv_iload_n hx hb dX9_first_93 rfl (lv_at hl 1 rfl) ?_
      exact mm_iret hx hb hr hlk (Nat.le_of_ble_eq_true rfl) (Nat.le_of_ble_eq_true rfl) hm dX9_first_94 (⟨rfl, rfl, hi⟩)
    · exact absurd (by decide) c
  | succ j ih =>
    intro its hj hi F1 H locs ls hm hl
    rw [pk_sub (a := j + 1) (b := 1) (by omega), Nat.add_sub_cancel] at hl
    refine lv_iload hx hb dX9_first_10 (lv_at hl 0 rfl) ?_
    refine lv_if_lt (tgt := 93) hx hb dX9_first_12 (by decide) (fun c => ?_) (fun c => ?_)
    · have c := (nI_ltI (a := j) (b := 0) (by omega) (by omega)).mp c
      exact absurd c (Nat.not_lt_zero _)
    · have c : ¬ j < 0 := fun h9 => c ((nI_ltI (a := j) (b := 0) (by omega) (by omega)).mpr h9)
      refine lv_iload_n hx hb dX9_first_15 rfl (lv_at hl 4 rfl) ?_
      refine lv_if_eq (tgt := 43) hx hb dX9_first_16 (by decide) (fun c2 => ?_) (fun c2 => ?_)
      · have c2 := fw_b0 c2
        refine lv_aload_n hx hb dX9_first_43 rfl (lv_at hl 2 rfl) ?_
        refine lv_aload_n hx hb dX9_first_44 rfl (lv_at hl 2 rfl) ?_
        refine mm_get hx hb hT hown hz hm 18 (by decide) wd_753 rfl (v := .ref (ad 18)) rfl dX9_first_45 ?_
        refine lv_iload hx hb dX9_first_48 (lv_at hl 0 rfl) ?_
        refine mm_ald hx hb hz hm 18 (j) (by decide) rfl (show j < 96 by omega) dX9_first_50 ?_
        refine mm_calli (As := [.int (f 18 j)]) (rest := []) C hz hm (c_X9_isOn l G _ _ y ad _ _ (f 18 j) hm.2.1) wd_901 yVX9_isOn ⟨Nat.le_of_ble_eq_true rfl, Nat.le_of_ble_eq_true rfl⟩ rfl hl.1 rfl (Nat.le_of_ble_eq_true rfl) dX9_first_51 ⟨Nat.le_of_ble_eq_true rfl, Nat.le_of_ble_eq_true rfl⟩ (fun r sc1 f1 F1 H locs hm hp => ?_)
        refine W.widen (k := 0) (n := 0) (Nat.le_of_ble_eq_true rfl) (Nat.le_of_ble_eq_true rfl) ?_
        obtain ⟨h7, h8, h9⟩ := hp
        rw [h7, h8] at hm
        subst h9
        refine lv_if_ne (tgt := 61) hx hb dX9_first_54 (by decide) (fun c3 => ?_) (fun c3 => ?_)
        · have c3 := fw_b1 c3
          refine lv_iconst (v := (nI 0)) hx hb dX9_first_61 (by decide) ?_
          refine fw_top (x' := (fw_b (rf_can f mc same j))) (by rw [rf_can, if_neg (by rw [c2]; decide), c3]; rfl) ?_
          refine lv_istore (lv' := [(5, .int (fw_b (rf_can f mc same j))), (4, .int (nI j)), (3, .int its), (0, .ref y), (1, .int (nI mc)), (2, .int (fw_b same))]) hx hb dX9_first_62 hl (by decide) rfl (fun ls hl => ?_)
          refine lv_aload_n hx hb dX9_first_64 rfl (lv_at hl 3 rfl) ?_
          refine mm_get hx hb hT hown hz hm 20 (by decide) wd_755 rfl (v := .ref (ad 20)) rfl dX9_first_65 ?_
          refine lv_iload hx hb dX9_first_68 (lv_at hl 1 rfl) ?_
          refine mm_ald hx hb hz hm 20 (j) (by decide) rfl (show j < 96 by omega) dX9_first_70 ?_
          refine lv_iconst (v := (-1)) hx hb dX9_first_71 (by decide) ?_
          refine lv_icmp_ne (tgt := 85) hx hb dX9_first_72 (by decide) (fun d => ?_) (fun d => ?_)
          · refine lv_iload_n hx hb dX9_first_85 rfl (lv_at hl 2 rfl) ?_
            refine lv_istore_n (lv' := [(3, .int its), (5, .int (fw_b (rf_can f mc same j))), (4, .int (nI j)), (0, .ref y), (1, .int (nI mc)), (2, .int (fw_b same))]) hx hb dX9_first_86 rfl hl (by decide) rfl (fun ls hl => ?_)
            refine lv_iinc (v := (nI j - nI 1)) (lv' := [(4, .int (nI j - nI 1)), (3, .int its), (5, .int (fw_b (rf_can f mc same j))), (0, .ref y), (1, .int (nI mc)), (2, .int (fw_b same))]) hx hb dX9_first_87 hl (k := 2) rfl (fw_m1 _) (by decide) rfl (fun ls hl => ?_)
            refine lv_goto (tgt := 10) hx hb dX9_first_90 (by decide) ?_
            exact ih its (by omega) (by rw [← hi, rf_firstL, if_neg (fun h => d h.1)]) _ _ _ _ hm (lv_sub hl [0, 1, 3, 4, 5] rfl)
          · refine lv_iload hx hb dX9_first_75 (lv_at hl 0 rfl) ?_
            refine lv_if_eq (tgt := 85) hx hb dX9_first_77 (by decide) (fun d2 => ?_) (fun d2 => ?_)
            · have d2 := fw_b0 d2
              refine lv_iload_n hx hb dX9_first_85 rfl (lv_at hl 2 rfl) ?_
              refine lv_istore_n (lv' := [(3, .int its), (5, .int (fw_b (rf_can f mc same j))), (4, .int (nI j)), (0, .ref y), (1, .int (nI mc)), (2, .int (fw_b same))]) hx hb dX9_first_86 rfl hl (by decide) rfl (fun ls hl => ?_)
              refine lv_iinc (v := (nI j - nI 1)) (lv' := [(4, .int (nI j - nI 1)), (3, .int its), (5, .int (fw_b (rf_can f mc same j))), (0, .ref y), (1, .int (nI mc)), (2, .int (fw_b same))]) hx hb dX9_first_87 hl (k := 2) rfl (fw_m1 _) (by decide) rfl (fun ls hl => ?_)
              refine lv_goto (tgt := 10) hx hb dX9_first_90 (by decide) ?_
              exact ih its (by omega) (by rw [← hi, rf_firstL, if_neg (fun h => by rw [d2] at h; cases h.2)]) _ _ _ _ hm (lv_sub hl [0, 1, 3, 4, 5] rfl)
            · have d2 := fw_b1 d2
              refine lv_iload hx hb dX9_first_80 (lv_at hl 1 rfl) ?_
              refine lv_goto (tgt := 86) hx hb dX9_first_82 (by decide) ?_
              refine lv_istore_n (lv' := [(3, .int (nI j)), (5, .int (fw_b (rf_can f mc same j))), (4, .int (nI j)), (0, .ref y), (1, .int (nI mc)), (2, .int (fw_b same))]) hx hb dX9_first_86 rfl hl (by decide) rfl (fun ls hl => ?_)
              refine lv_iinc (v := (nI j - nI 1)) (lv' := [(4, .int (nI j - nI 1)), (3, .int (nI j)), (5, .int (fw_b (rf_can f mc same j))), (0, .ref y), (1, .int (nI mc)), (2, .int (fw_b same))]) hx hb dX9_first_87 hl (k := 2) rfl (fw_m1 _) (by decide) rfl (fun ls hl => ?_)
              refine lv_goto (tgt := 10) hx hb dX9_first_90 (by decide) ?_
              exact ih (nI j) (by omega) (by rw [← hi, rf_firstL, if_pos ⟨d, d2⟩]) _ _ _ _ hm (lv_sub hl [0, 1, 3, 4, 5] rfl)
        · have c3 := fw_b0 c3
          refine lv_iconst (v := (nI 1)) hx hb dX9_first_57 (by decide) ?_
          refine lv_goto (tgt := 62) hx hb dX9_first_58 (by decide) ?_
          refine fw_top (x' := (fw_b (rf_can f mc same j))) (by rw [rf_can, if_neg (by rw [c2]; decide), c3]; rfl) ?_
          refine lv_istore (lv' := [(5, .int (fw_b (rf_can f mc same j))), (4, .int (nI j)), (3, .int its), (0, .ref y), (1, .int (nI mc)), (2, .int (fw_b same))]) hx hb dX9_first_62 hl (by decide) rfl (fun ls hl => ?_)
          refine lv_aload_n hx hb dX9_first_64 rfl (lv_at hl 3 rfl) ?_
          refine mm_get hx hb hT hown hz hm 20 (by decide) wd_755 rfl (v := .ref (ad 20)) rfl dX9_first_65 ?_
          refine lv_iload hx hb dX9_first_68 (lv_at hl 1 rfl) ?_
          refine mm_ald hx hb hz hm 20 (j) (by decide) rfl (show j < 96 by omega) dX9_first_70 ?_
          refine lv_iconst (v := (-1)) hx hb dX9_first_71 (by decide) ?_
          refine lv_icmp_ne (tgt := 85) hx hb dX9_first_72 (by decide) (fun d => ?_) (fun d => ?_)
          · refine lv_iload_n hx hb dX9_first_85 rfl (lv_at hl 2 rfl) ?_
            refine lv_istore_n (lv' := [(3, .int its), (5, .int (fw_b (rf_can f mc same j))), (4, .int (nI j)), (0, .ref y), (1, .int (nI mc)), (2, .int (fw_b same))]) hx hb dX9_first_86 rfl hl (by decide) rfl (fun ls hl => ?_)
            refine lv_iinc (v := (nI j - nI 1)) (lv' := [(4, .int (nI j - nI 1)), (3, .int its), (5, .int (fw_b (rf_can f mc same j))), (0, .ref y), (1, .int (nI mc)), (2, .int (fw_b same))]) hx hb dX9_first_87 hl (k := 2) rfl (fw_m1 _) (by decide) rfl (fun ls hl => ?_)
            refine lv_goto (tgt := 10) hx hb dX9_first_90 (by decide) ?_
            exact ih its (by omega) (by rw [← hi, rf_firstL, if_neg (fun h => d h.1)]) _ _ _ _ hm (lv_sub hl [0, 1, 3, 4, 5] rfl)
          · refine lv_iload hx hb dX9_first_75 (lv_at hl 0 rfl) ?_
            refine lv_if_eq (tgt := 85) hx hb dX9_first_77 (by decide) (fun d2 => ?_) (fun d2 => ?_)
            · have d2 := fw_b0 d2
              refine lv_iload_n hx hb dX9_first_85 rfl (lv_at hl 2 rfl) ?_
              refine lv_istore_n (lv' := [(3, .int its), (5, .int (fw_b (rf_can f mc same j))), (4, .int (nI j)), (0, .ref y), (1, .int (nI mc)), (2, .int (fw_b same))]) hx hb dX9_first_86 rfl hl (by decide) rfl (fun ls hl => ?_)
              refine lv_iinc (v := (nI j - nI 1)) (lv' := [(4, .int (nI j - nI 1)), (3, .int its), (5, .int (fw_b (rf_can f mc same j))), (0, .ref y), (1, .int (nI mc)), (2, .int (fw_b same))]) hx hb dX9_first_87 hl (k := 2) rfl (fw_m1 _) (by decide) rfl (fun ls hl => ?_)
              refine lv_goto (tgt := 10) hx hb dX9_first_90 (by decide) ?_
              exact ih its (by omega) (by rw [← hi, rf_firstL, if_neg (fun h => by rw [d2] at h; cases h.2)]) _ _ _ _ hm (lv_sub hl [0, 1, 3, 4, 5] rfl)
            · have d2 := fw_b1 d2
              refine lv_iload hx hb dX9_first_80 (lv_at hl 1 rfl) ?_
              refine lv_goto (tgt := 86) hx hb dX9_first_82 (by decide) ?_
              refine lv_istore_n (lv' := [(3, .int (nI j)), (5, .int (fw_b (rf_can f mc same j))), (4, .int (nI j)), (0, .ref y), (1, .int (nI mc)), (2, .int (fw_b same))]) hx hb dX9_first_86 rfl hl (by decide) rfl (fun ls hl => ?_)
              refine lv_iinc (v := (nI j - nI 1)) (lv' := [(4, .int (nI j - nI 1)), (3, .int (nI j)), (5, .int (fw_b (rf_can f mc same j))), (0, .ref y), (1, .int (nI mc)), (2, .int (fw_b same))]) hx hb dX9_first_87 hl (k := 2) rfl (fw_m1 _) (by decide) rfl (fun ls hl => ?_)
              refine lv_goto (tgt := 10) hx hb dX9_first_90 (by decide) ?_
              exact ih (nI j) (by omega) (by rw [← hi, rf_firstL, if_pos ⟨d, d2⟩]) _ _ _ _ hm (lv_sub hl [0, 1, 3, 4, 5] rfl)
      · have c2 := fw_b1 c2
        refine lv_aload_n hx hb dX9_first_19 rfl (lv_at hl 2 rfl) ?_
        refine mm_get hx hb hT hown hz hm 18 (by decide) wd_753 rfl (v := .ref (ad 18)) rfl dX9_first_20 ?_
        refine lv_iload hx hb dX9_first_23 (lv_at hl 0 rfl) ?_
        refine mm_ald hx hb hz hm 18 (j) (by decide) rfl (show j < 96 by omega) dX9_first_25 ?_
        refine lv_aload_n hx hb dX9_first_26 rfl (lv_at hl 2 rfl) ?_
        refine mm_get hx hb hT hown hz hm 22 (by decide) wd_757 rfl (v := .ref (ad 22)) rfl dX9_first_27 ?_
        refine lv_iload_n hx hb dX9_first_30 rfl (lv_at hl 3 rfl) ?_
        refine mm_ald hx hb hz hm 22 (mc) (by decide) rfl (show mc < 3 by omega) dX9_first_31 ?_
        refine lv_icmp_ne (tgt := 39) hx hb dX9_first_32 (by decide) (fun c3 => ?_) (fun c3 => ?_)
        · refine lv_iconst (v := (nI 0)) hx hb dX9_first_39 (by decide) ?_
          refine lv_goto (tgt := 62) hx hb dX9_first_40 (by decide) ?_
          refine fw_top (x' := (fw_b (rf_can f mc same j))) (by rw [rf_can, if_pos c2, decide_eq_false c3]; rfl) ?_
          refine lv_istore (lv' := [(5, .int (fw_b (rf_can f mc same j))), (4, .int (nI j)), (3, .int its), (0, .ref y), (1, .int (nI mc)), (2, .int (fw_b same))]) hx hb dX9_first_62 hl (by decide) rfl (fun ls hl => ?_)
          refine lv_aload_n hx hb dX9_first_64 rfl (lv_at hl 3 rfl) ?_
          refine mm_get hx hb hT hown hz hm 20 (by decide) wd_755 rfl (v := .ref (ad 20)) rfl dX9_first_65 ?_
          refine lv_iload hx hb dX9_first_68 (lv_at hl 1 rfl) ?_
          refine mm_ald hx hb hz hm 20 (j) (by decide) rfl (show j < 96 by omega) dX9_first_70 ?_
          refine lv_iconst (v := (-1)) hx hb dX9_first_71 (by decide) ?_
          refine lv_icmp_ne (tgt := 85) hx hb dX9_first_72 (by decide) (fun d => ?_) (fun d => ?_)
          · refine lv_iload_n hx hb dX9_first_85 rfl (lv_at hl 2 rfl) ?_
            refine lv_istore_n (lv' := [(3, .int its), (5, .int (fw_b (rf_can f mc same j))), (4, .int (nI j)), (0, .ref y), (1, .int (nI mc)), (2, .int (fw_b same))]) hx hb dX9_first_86 rfl hl (by decide) rfl (fun ls hl => ?_)
            refine lv_iinc (v := (nI j - nI 1)) (lv' := [(4, .int (nI j - nI 1)), (3, .int its), (5, .int (fw_b (rf_can f mc same j))), (0, .ref y), (1, .int (nI mc)), (2, .int (fw_b same))]) hx hb dX9_first_87 hl (k := 2) rfl (fw_m1 _) (by decide) rfl (fun ls hl => ?_)
            refine lv_goto (tgt := 10) hx hb dX9_first_90 (by decide) ?_
            exact ih its (by omega) (by rw [← hi, rf_firstL, if_neg (fun h => d h.1)]) _ _ _ _ hm (lv_sub hl [0, 1, 3, 4, 5] rfl)
          · refine lv_iload hx hb dX9_first_75 (lv_at hl 0 rfl) ?_
            refine lv_if_eq (tgt := 85) hx hb dX9_first_77 (by decide) (fun d2 => ?_) (fun d2 => ?_)
            · have d2 := fw_b0 d2
              refine lv_iload_n hx hb dX9_first_85 rfl (lv_at hl 2 rfl) ?_
              refine lv_istore_n (lv' := [(3, .int its), (5, .int (fw_b (rf_can f mc same j))), (4, .int (nI j)), (0, .ref y), (1, .int (nI mc)), (2, .int (fw_b same))]) hx hb dX9_first_86 rfl hl (by decide) rfl (fun ls hl => ?_)
              refine lv_iinc (v := (nI j - nI 1)) (lv' := [(4, .int (nI j - nI 1)), (3, .int its), (5, .int (fw_b (rf_can f mc same j))), (0, .ref y), (1, .int (nI mc)), (2, .int (fw_b same))]) hx hb dX9_first_87 hl (k := 2) rfl (fw_m1 _) (by decide) rfl (fun ls hl => ?_)
              refine lv_goto (tgt := 10) hx hb dX9_first_90 (by decide) ?_
              exact ih its (by omega) (by rw [← hi, rf_firstL, if_neg (fun h => by rw [d2] at h; cases h.2)]) _ _ _ _ hm (lv_sub hl [0, 1, 3, 4, 5] rfl)
            · have d2 := fw_b1 d2
              refine lv_iload hx hb dX9_first_80 (lv_at hl 1 rfl) ?_
              refine lv_goto (tgt := 86) hx hb dX9_first_82 (by decide) ?_
              refine lv_istore_n (lv' := [(3, .int (nI j)), (5, .int (fw_b (rf_can f mc same j))), (4, .int (nI j)), (0, .ref y), (1, .int (nI mc)), (2, .int (fw_b same))]) hx hb dX9_first_86 rfl hl (by decide) rfl (fun ls hl => ?_)
              refine lv_iinc (v := (nI j - nI 1)) (lv' := [(4, .int (nI j - nI 1)), (3, .int (nI j)), (5, .int (fw_b (rf_can f mc same j))), (0, .ref y), (1, .int (nI mc)), (2, .int (fw_b same))]) hx hb dX9_first_87 hl (k := 2) rfl (fw_m1 _) (by decide) rfl (fun ls hl => ?_)
              refine lv_goto (tgt := 10) hx hb dX9_first_90 (by decide) ?_
              exact ih (nI j) (by omega) (by rw [← hi, rf_firstL, if_pos ⟨d, d2⟩]) _ _ _ _ hm (lv_sub hl [0, 1, 3, 4, 5] rfl)
        · refine lv_iconst (v := (nI 1)) hx hb dX9_first_35 (by decide) ?_
          refine lv_goto (tgt := 62) hx hb dX9_first_36 (by decide) ?_
          refine fw_top (x' := (fw_b (rf_can f mc same j))) (by rw [rf_can, if_pos c2, decide_eq_true c3]; rfl) ?_
          refine lv_istore (lv' := [(5, .int (fw_b (rf_can f mc same j))), (4, .int (nI j)), (3, .int its), (0, .ref y), (1, .int (nI mc)), (2, .int (fw_b same))]) hx hb dX9_first_62 hl (by decide) rfl (fun ls hl => ?_)
          refine lv_aload_n hx hb dX9_first_64 rfl (lv_at hl 3 rfl) ?_
          refine mm_get hx hb hT hown hz hm 20 (by decide) wd_755 rfl (v := .ref (ad 20)) rfl dX9_first_65 ?_
          refine lv_iload hx hb dX9_first_68 (lv_at hl 1 rfl) ?_
          refine mm_ald hx hb hz hm 20 (j) (by decide) rfl (show j < 96 by omega) dX9_first_70 ?_
          refine lv_iconst (v := (-1)) hx hb dX9_first_71 (by decide) ?_
          refine lv_icmp_ne (tgt := 85) hx hb dX9_first_72 (by decide) (fun d => ?_) (fun d => ?_)
          · refine lv_iload_n hx hb dX9_first_85 rfl (lv_at hl 2 rfl) ?_
            refine lv_istore_n (lv' := [(3, .int its), (5, .int (fw_b (rf_can f mc same j))), (4, .int (nI j)), (0, .ref y), (1, .int (nI mc)), (2, .int (fw_b same))]) hx hb dX9_first_86 rfl hl (by decide) rfl (fun ls hl => ?_)
            refine lv_iinc (v := (nI j - nI 1)) (lv' := [(4, .int (nI j - nI 1)), (3, .int its), (5, .int (fw_b (rf_can f mc same j))), (0, .ref y), (1, .int (nI mc)), (2, .int (fw_b same))]) hx hb dX9_first_87 hl (k := 2) rfl (fw_m1 _) (by decide) rfl (fun ls hl => ?_)
            refine lv_goto (tgt := 10) hx hb dX9_first_90 (by decide) ?_
            exact ih its (by omega) (by rw [← hi, rf_firstL, if_neg (fun h => d h.1)]) _ _ _ _ hm (lv_sub hl [0, 1, 3, 4, 5] rfl)
          · refine lv_iload hx hb dX9_first_75 (lv_at hl 0 rfl) ?_
            refine lv_if_eq (tgt := 85) hx hb dX9_first_77 (by decide) (fun d2 => ?_) (fun d2 => ?_)
            · have d2 := fw_b0 d2
              refine lv_iload_n hx hb dX9_first_85 rfl (lv_at hl 2 rfl) ?_
              refine lv_istore_n (lv' := [(3, .int its), (5, .int (fw_b (rf_can f mc same j))), (4, .int (nI j)), (0, .ref y), (1, .int (nI mc)), (2, .int (fw_b same))]) hx hb dX9_first_86 rfl hl (by decide) rfl (fun ls hl => ?_)
              refine lv_iinc (v := (nI j - nI 1)) (lv' := [(4, .int (nI j - nI 1)), (3, .int its), (5, .int (fw_b (rf_can f mc same j))), (0, .ref y), (1, .int (nI mc)), (2, .int (fw_b same))]) hx hb dX9_first_87 hl (k := 2) rfl (fw_m1 _) (by decide) rfl (fun ls hl => ?_)
              refine lv_goto (tgt := 10) hx hb dX9_first_90 (by decide) ?_
              exact ih its (by omega) (by rw [← hi, rf_firstL, if_neg (fun h => by rw [d2] at h; cases h.2)]) _ _ _ _ hm (lv_sub hl [0, 1, 3, 4, 5] rfl)
            · have d2 := fw_b1 d2
              refine lv_iload hx hb dX9_first_80 (lv_at hl 1 rfl) ?_
              refine lv_goto (tgt := 86) hx hb dX9_first_82 (by decide) ?_
              refine lv_istore_n (lv' := [(3, .int (nI j)), (5, .int (fw_b (rf_can f mc same j))), (4, .int (nI j)), (0, .ref y), (1, .int (nI mc)), (2, .int (fw_b same))]) hx hb dX9_first_86 rfl hl (by decide) rfl (fun ls hl => ?_)
              refine lv_iinc (v := (nI j - nI 1)) (lv' := [(4, .int (nI j - nI 1)), (3, .int (nI j)), (5, .int (fw_b (rf_can f mc same j))), (0, .ref y), (1, .int (nI mc)), (2, .int (fw_b same))]) hx hb dX9_first_87 hl (k := 2) rfl (fw_m1 _) (by decide) rfl (fun ls hl => ?_)
              refine lv_goto (tgt := 10) hx hb dX9_first_90 (by decide) ?_
              exact ih (nI j) (by omega) (by rw [← hi, rf_firstL, if_pos ⟨d, d2⟩]) _ _ _ _ hm (lv_sub hl [0, 1, 3, 4, 5] rfl)
set_option maxHeartbeats 4000000 in
set_option maxRecDepth 100000 in
theorem c_X9_takes (l : Launch) (G : fw_G) (F : fw_F) (sz y : Nat) (ad : Nat → Nat) (sc : mm_S) (f : mm_A) (nJ mc : Nat) (hW : mm_W G F y ad sc f) (e16 : sc 16 = nI nJ) (hJ : nJ ≤ 96) (hmc : mc < 3) : mm_Cv l G F sz y ad yX9_takes cX9_takes 4 { frames := 2, cells := 0, slots := 0, locals := 48 } [.int (nI mc)] (fun sc1 f1 => sc1 = sc ∧ f1 = rf_takes f nJ mc) := by
  refine fw_met (lv := [(0, .ref y), (1, .int (nI mc))]) (by decide +kernel) (Nat.le_of_ble_eq_true rfl) rfl ?_
  intro A hA p e s m below meth c ls hx hb hml hown hT hr hlk hin hz hsz hw hAn hl
  rw [← hA]
  have hown : s.vm.findClass RX9 = some m.cls := hown
  have C : CallFix p m c cX9_takes 4 s _ fw_tb RX9 := ⟨hx, hb, hml, hown, hT⟩
  have hm : mm_M G A s F y ad sc f F s.heap [] := ⟨hw, hW, mm_keep.rf⟩
  refine lv_aload_n hx hb dX9_takes_0 rfl (lv_at hl 0 rfl) ?_
  refine lv_iload_n hx hb dX9_takes_1 rfl (lv_at hl 1 rfl) ?_
  refine lv_iconst (v := (nI 1)) hx hb dX9_takes_2 (by decide) ?_
  refine fw_top (x' := (fw_b true)) (rfl) ?_
  refine mm_calli (As := [.int (nI mc), .int (fw_b true)]) (rest := []) C hz hm (c_X9_first l G _ _ y ad _ _ nJ mc true hm.2.1 e16 hJ hmc) wd_897 yVX9_first ⟨Nat.le_of_ble_eq_true rfl, Nat.le_of_ble_eq_true rfl⟩ rfl hl.1 rfl (Nat.le_of_ble_eq_true rfl) dX9_takes_3 ⟨Nat.le_of_ble_eq_true rfl, Nat.le_of_ble_eq_true rfl⟩ (fun r sc1 f1 F1 H locs hm hp => ?_)
  refine W.widen (k := 0) (n := 0) (Nat.le_of_ble_eq_true rfl) (Nat.le_of_ble_eq_true rfl) ?_
  obtain ⟨h7, h8, h9⟩ := hp
  rw [h7, h8] at hm
  subst h9
  refine lv_istore_n (lv' := [(2, .int (rf_first f nJ mc true)), (0, .ref y), (1, .int (nI mc))]) hx hb dX9_takes_6 rfl hl (by decide) rfl (fun ls hl => ?_)
  refine lv_iload_n hx hb dX9_takes_7 rfl (lv_at hl 0 rfl) ?_
  refine lv_iconst (v := (-1)) hx hb dX9_takes_8 (by decide) ?_
  refine lv_icmp_ne (tgt := 21) hx hb dX9_takes_9 (by decide) (fun c => ?_) (fun c => ?_)
  · refine lv_iload_n hx hb dX9_takes_21 rfl (lv_at hl 0 rfl) ?_
    refine lv_istore_n (lv' := [(3, .int (rf_first f nJ mc true)), (2, .int (rf_first f nJ mc true)), (0, .ref y), (1, .int (nI mc))]) hx hb dX9_takes_22 rfl hl (by decide) rfl (fun ls hl => ?_)
    refine lv_iload_n hx hb dX9_takes_23 rfl (lv_at hl 0 rfl) ?_
    refine lv_iconst (v := (-1)) hx hb dX9_takes_24 (by decide) ?_
    refine lv_icmp_eq (tgt := 77) hx hb dX9_takes_25 (by decide) (fun cx => absurd cx (c)) (fun cx => ?_)
    have d : ¬ rf_first f nJ mc true = -1 := c
    have hi8 : rf_its f nJ mc = rf_first f nJ mc true := if_neg c
    rcases rf_its_ix f nJ mc with hz9 | ⟨i, hi, hz9⟩
    · exact absurd ((hi8).symm.trans hz9) d
    · have hi9 : rf_first f nJ mc true = nI i := (hi8).symm.trans hz9
      rw [hi9] at hl
      refine lv_aload_n hx hb dX9_takes_28 rfl (lv_at hl 2 rfl) ?_
      refine mm_get hx hb hT hown hz hm 22 (by decide) wd_757 rfl (v := .ref (ad 22)) rfl dX9_takes_29 ?_
      refine lv_iload_n hx hb dX9_takes_32 rfl (lv_at hl 3 rfl) ?_
      refine lv_aload_n hx hb dX9_takes_33 rfl (lv_at hl 2 rfl) ?_
      refine mm_get hx hb hT hown hz hm 18 (by decide) wd_753 rfl (v := .ref (ad 18)) rfl dX9_takes_34 ?_
      refine lv_iload_n hx hb dX9_takes_37 rfl (lv_at hl 0 rfl) ?_
      refine mm_ald hx hb hz hm 18 (i) (by decide) rfl (show i < 96 by omega) dX9_takes_38 ?_
      refine mm_ast hx hb hz hm 22 (mc) (by decide) rfl (show mc < 3 by omega) dX9_takes_39 (fun F1 H locs hm => ?_)
      refine lv_aload_n hx hb dX9_takes_40 rfl (lv_at hl 2 rfl) ?_
      refine mm_get hx hb hT hown hz hm 23 (by decide) wd_758 rfl (v := .ref (ad 23)) rfl dX9_takes_41 ?_
      refine lv_iload_n hx hb dX9_takes_44 rfl (lv_at hl 3 rfl) ?_
      refine lv_iload_n hx hb dX9_takes_45 rfl (lv_at hl 0 rfl) ?_
      refine mm_ast hx hb hz hm 23 (mc) (by decide) rfl (show mc < 3 by omega) dX9_takes_46 (fun F1 H locs hm => ?_)
      refine lv_aload_n hx hb dX9_takes_47 rfl (lv_at hl 2 rfl) ?_
      refine mm_get hx hb hT hown hz hm 24 (by decide) wd_759 rfl (v := .ref (ad 24)) rfl dX9_takes_48 ?_
      refine lv_iload_n hx hb dX9_takes_51 rfl (lv_at hl 3 rfl) ?_
      refine lv_aload_n hx hb dX9_takes_52 rfl (lv_at hl 2 rfl) ?_
      refine mm_get hx hb hT hown hz hm 19 (by decide) wd_754 rfl (v := .ref (ad 19)) rfl dX9_takes_53 ?_
      refine lv_iload_n hx hb dX9_takes_56 rfl (lv_at hl 0 rfl) ?_
      refine mm_ald hx hb hz hm 19 (i) (by decide) rfl (show i < 96 by omega) dX9_takes_57 ?_
      refine lv_iload_n hx hb dX9_takes_58 rfl (lv_at hl 1 rfl) ?_
      refine lv_iconst (v := (-1)) hx hb dX9_takes_59 (by decide) ?_
      refine lv_icmp_ne (tgt := 67) hx hb dX9_takes_60 (by decide) (fun cx => ?_) (fun cx => absurd cx (rf_m1_ne (by omega)))
      refine lv_iconst (v := (nI 0)) hx hb dX9_takes_67 (by decide) ?_
      refine lv_iadd hx hb dX9_takes_68 ?_
      refine mm_ast hx hb hz hm 24 (mc) (by decide) rfl (show mc < 3 by omega) dX9_takes_69 (fun F1 H locs hm => ?_)
      refine lv_aload_n hx hb dX9_takes_70 rfl (lv_at hl 2 rfl) ?_
      refine mm_get hx hb hT hown hz hm 20 (by decide) wd_755 rfl (v := .ref (ad 20)) rfl dX9_takes_71 ?_
      refine lv_iload_n hx hb dX9_takes_74 rfl (lv_at hl 0 rfl) ?_
      refine lv_iload_n hx hb dX9_takes_75 rfl (lv_at hl 3 rfl) ?_
      refine mm_ast hx hb hz hm 20 (i) (by decide) rfl (show i < 96 by omega) dX9_takes_76 (fun F1 H locs hm => ?_)
      exact mm_vret hx hb hr hlk (Nat.le_of_ble_eq_true rfl) (Nat.le_of_ble_eq_true rfl) hm dX9_takes_77 (⟨rfl, by rw [rf_takes, if_neg (by rw [hz9]; exact rf_m1_ne (by omega)), if_neg c, hz9, rf_n_nI (by omega)]; rfl⟩)
  · refine lv_aload_n hx hb dX9_takes_12 rfl (lv_at hl 1 rfl) ?_
    refine lv_iload_n hx hb dX9_takes_13 rfl (lv_at hl 2 rfl) ?_
    refine lv_iconst (v := (nI 0)) hx hb dX9_takes_14 (by decide) ?_
    refine fw_top (x' := (fw_b false)) (rfl) ?_
    refine mm_calli (As := [.int (nI mc), .int (fw_b false)]) (rest := []) C hz hm (c_X9_first l G _ _ y ad _ _ nJ mc false hm.2.1 e16 hJ hmc) wd_897 yVX9_first ⟨Nat.le_of_ble_eq_true rfl, Nat.le_of_ble_eq_true rfl⟩ rfl hl.1 rfl (Nat.le_of_ble_eq_true rfl) dX9_takes_15 ⟨Nat.le_of_ble_eq_true rfl, Nat.le_of_ble_eq_true rfl⟩ (fun r sc1 f1 F1 H locs hm hp => ?_)
    refine W.widen (k := 0) (n := 0) (Nat.le_of_ble_eq_true rfl) (Nat.le_of_ble_eq_true rfl) ?_
    obtain ⟨h7, h8, h9⟩ := hp
    rw [h7, h8] at hm
    subst h9
    refine lv_goto (tgt := 22) hx hb dX9_takes_18 (by decide) ?_
    refine lv_istore_n (lv' := [(3, .int (rf_first f nJ mc false)), (2, .int (rf_first f nJ mc true)), (0, .ref y), (1, .int (nI mc))]) hx hb dX9_takes_22 rfl hl (by decide) rfl (fun ls hl => ?_)
    refine lv_iload_n hx hb dX9_takes_23 rfl (lv_at hl 0 rfl) ?_
    refine lv_iconst (v := (-1)) hx hb dX9_takes_24 (by decide) ?_
    have hi8 : rf_its f nJ mc = rf_first f nJ mc false := if_pos c
    refine lv_icmp_eq (tgt := 77) hx hb dX9_takes_25 (by decide) (fun d => ?_) (fun d => ?_)
    · exact mm_vret hx hb hr hlk (Nat.le_of_ble_eq_true rfl) (Nat.le_of_ble_eq_true rfl) hm dX9_takes_77 (⟨rfl, by rw [rf_takes, if_pos (hi8.trans d)]⟩)
    · rcases rf_its_ix f nJ mc with hz9 | ⟨i, hi, hz9⟩
      · exact absurd ((hi8).symm.trans hz9) d
      · have hi9 : rf_first f nJ mc false = nI i := (hi8).symm.trans hz9
        rw [hi9] at hl
        refine lv_aload_n hx hb dX9_takes_28 rfl (lv_at hl 2 rfl) ?_
        refine mm_get hx hb hT hown hz hm 22 (by decide) wd_757 rfl (v := .ref (ad 22)) rfl dX9_takes_29 ?_
        refine lv_iload_n hx hb dX9_takes_32 rfl (lv_at hl 3 rfl) ?_
        refine lv_aload_n hx hb dX9_takes_33 rfl (lv_at hl 2 rfl) ?_
        refine mm_get hx hb hT hown hz hm 18 (by decide) wd_753 rfl (v := .ref (ad 18)) rfl dX9_takes_34 ?_
        refine lv_iload_n hx hb dX9_takes_37 rfl (lv_at hl 0 rfl) ?_
        refine mm_ald hx hb hz hm 18 (i) (by decide) rfl (show i < 96 by omega) dX9_takes_38 ?_
        refine mm_ast hx hb hz hm 22 (mc) (by decide) rfl (show mc < 3 by omega) dX9_takes_39 (fun F1 H locs hm => ?_)
        refine lv_aload_n hx hb dX9_takes_40 rfl (lv_at hl 2 rfl) ?_
        refine mm_get hx hb hT hown hz hm 23 (by decide) wd_758 rfl (v := .ref (ad 23)) rfl dX9_takes_41 ?_
        refine lv_iload_n hx hb dX9_takes_44 rfl (lv_at hl 3 rfl) ?_
        refine lv_iload_n hx hb dX9_takes_45 rfl (lv_at hl 0 rfl) ?_
        refine mm_ast hx hb hz hm 23 (mc) (by decide) rfl (show mc < 3 by omega) dX9_takes_46 (fun F1 H locs hm => ?_)
        refine lv_aload_n hx hb dX9_takes_47 rfl (lv_at hl 2 rfl) ?_
        refine mm_get hx hb hT hown hz hm 24 (by decide) wd_759 rfl (v := .ref (ad 24)) rfl dX9_takes_48 ?_
        refine lv_iload_n hx hb dX9_takes_51 rfl (lv_at hl 3 rfl) ?_
        refine lv_aload_n hx hb dX9_takes_52 rfl (lv_at hl 2 rfl) ?_
        refine mm_get hx hb hT hown hz hm 19 (by decide) wd_754 rfl (v := .ref (ad 19)) rfl dX9_takes_53 ?_
        refine lv_iload_n hx hb dX9_takes_56 rfl (lv_at hl 0 rfl) ?_
        refine mm_ald hx hb hz hm 19 (i) (by decide) rfl (show i < 96 by omega) dX9_takes_57 ?_
        refine lv_iload_n hx hb dX9_takes_58 rfl (lv_at hl 1 rfl) ?_
        refine lv_iconst (v := (-1)) hx hb dX9_takes_59 (by decide) ?_
        refine lv_icmp_ne (tgt := 67) hx hb dX9_takes_60 (by decide) (fun cx => absurd cx (fun h => h c)) (fun cx => ?_)
        refine lv_iconst (v := (nI 3)) hx hb dX9_takes_63 (by decide) ?_
        refine lv_goto (tgt := 68) hx hb dX9_takes_64 (by decide) ?_
        refine lv_iadd hx hb dX9_takes_68 ?_
        refine mm_ast hx hb hz hm 24 (mc) (by decide) rfl (show mc < 3 by omega) dX9_takes_69 (fun F1 H locs hm => ?_)
        refine lv_aload_n hx hb dX9_takes_70 rfl (lv_at hl 2 rfl) ?_
        refine mm_get hx hb hT hown hz hm 20 (by decide) wd_755 rfl (v := .ref (ad 20)) rfl dX9_takes_71 ?_
        refine lv_iload_n hx hb dX9_takes_74 rfl (lv_at hl 0 rfl) ?_
        refine lv_iload_n hx hb dX9_takes_75 rfl (lv_at hl 3 rfl) ?_
        refine mm_ast hx hb hz hm 20 (i) (by decide) rfl (show i < 96 by omega) dX9_takes_76 (fun F1 H locs hm => ?_)
        exact mm_vret hx hb hr hlk (Nat.le_of_ble_eq_true rfl) (Nat.le_of_ble_eq_true rfl) hm dX9_takes_77 (⟨rfl, by rw [rf_takes, if_neg (by rw [hz9]; exact rf_m1_ne (by omega)), if_pos c, hz9, rf_n_nI (by omega)]; rfl⟩)
end
section
/-! The reference's methods: ticks. -/
theorem va_up_same {α : Type} {f : Nat → α} {k : Nat} {v : α} (h : f k = v) : va_up f k v = f := by
  funext j
  by_cases e : j = k
  · rw [e, va_up_self, h]
  · rw [va_up_ne f v e]
theorem rf_left_cong {f g : mm_A} {o : Int32} (h1 : f 17 = g 17) (h2 : f 20 = g 20) : ∀ n, rf_left f o n = rf_left g o n
  | 0 => rfl
  | n + 1 => by rw [rf_left_s, rf_left_s, rf_left_cong h1 h2 n, h1, h2]
set_option maxHeartbeats 4000000 in
set_option maxRecDepth 100000 in
theorem c_X9_tick (l : Launch) (G : fw_G) (F : fw_F) (sz y : Nat) (ad : Nat → Nat) (sc : mm_S) (f : mm_A) (nJ nO : Nat) (hW : mm_W G F y ad sc f) (e16 : sc 16 = nI nJ) (hJ : nJ ≤ 96) (hO : nO ≤ 12) (hj : rf_jok f nJ nO) : mm_Ci l G F sz y ad yX9_tick cX9_tick 4 (.int) { frames := 3, cells := 0, slots := 0, locals := 71 } [] (fun r sc1 f1 => sc1 = va_up sc 21 (sc 21 + 1) ∧ f1 = rf_tickf nJ (sc 21) f ∧ r = nI (rf_tickn nJ (sc 21) f)) := by
  refine fw_met (lv := [(0, .ref y)]) (by decide +kernel) (Nat.le_of_ble_eq_true rfl) rfl ?_
  intro A hA p e s m below meth c ls hx hb hml hown hT hr hlk hin hz hsz hw hAn hl
  rw [← hA]
  have hown : s.vm.findClass RX9 = some m.cls := hown
  have C : CallFix p m c cX9_tick 4 s _ fw_tb RX9 := ⟨hx, hb, hml, hown, hT⟩
  have hm : mm_M G A s F y ad sc f F s.heap [] := ⟨hw, hW, mm_keep.rf⟩
  refine lv_iconst (v := (nI 0)) hx hb dX9_tick_0 (by decide) ?_
  refine lv_istore_n (lv' := [(1, .int (nI 0)), (0, .ref y)]) hx hb dX9_tick_1 rfl hl (by decide) rfl (fun ls hl => ?_)
  refine lv_aload_n hx hb dX9_tick_2 rfl (lv_at hl 1 rfl) ?_
  refine lv_dup hx hb dX9_tick_3 rfl ?_
  refine mm_get hx hb hT hown hz hm 21 (by decide) wd_756 rfl (v := .int (sc 21)) rfl dX9_tick_4 ?_
  refine lv_iconst (v := (nI 1)) hx hb dX9_tick_7 (by decide) ?_
  refine lv_iadd hx hb dX9_tick_8 ?_
  refine fw_top (x' := (sc 21 + 1)) (rfl) ?_
  refine mm_put hx hb hT hown hz hm 21 (by decide) wd_756 dX9_tick_9 (fun F1 H locs hm => ?_)
  refine lv_iconst (v := (nI 0)) hx hb dX9_tick_12 (by decide) ?_
  refine lv_istore_n (lv' := [(2, .int (nI 0)), (1, .int (nI 0)), (0, .ref y)]) hx hb dX9_tick_13 rfl hl (by decide) rfl (fun ls hl => ?_)
  suffices hlp : ∀ (d k : Nat), k + d = 3 →  ∀ (F1 : fw_F) (H : Heap) (locs : List Loc) (ls : Array Slot), mm_M G A s F y ad (va_up sc 21 (sc 21 + 1)) (rf_give f nJ k) F1 H locs → lv_has ls 4 [(2, .int (nI k)), (1, .int (nI 0)), (0, .ref y)] → W p l e { frames := 3, cells := 0, slots := 0, locals := 71 } s m ([.ref y] : List Value).toArray below meth c H locs 0 0 (MQ below (va_Qi (mm_post G y ad F (fun r sc1 f1 => sc1 = va_up sc 21 (sc 21 + 1) ∧ f1 = rf_tickf nJ (sc 21) f ∧ r = nI (rf_tickn nJ (sc 21) f))) (fw_B G A) A) ([.ref y] : List Value).toArray s 0 0 A) (F0 m 14 ls []) by
    exact hlp 3 0  (Nat.zero_add _)  _ _ _ _ hm (lv_sub hl [0, 1, 2] rfl)
  intro d
  induction d with
  | succ d ih =>
    intro k  hk  F1 H locs ls hm hl
    have hk3 : k < 3 := by omega
    refine lv_iload_n hx hb dX9_tick_14 rfl (lv_at hl 0 rfl) ?_
    refine lv_iconst (v := (nI 3)) hx hb dX9_tick_15 (by decide) ?_
    refine lv_icmp_ge (tgt := 40) hx hb dX9_tick_16 (by decide) (fun c0 => ?_) (fun c0 => ?_)
    · have c0 := (nI_leI (a := 3) (b := k) (by omega) (by omega)).mp c0
      omega
    · have c0 : ¬ 3 ≤ k := fun h9 => c0 ((nI_leI (a := 3) (b := k) (by omega) (by omega)).mpr h9)
      refine lv_aload_n hx hb dX9_tick_19 rfl (lv_at hl 2 rfl) ?_
      refine mm_get hx hb hT hown hz hm 23 (by decide) wd_758 rfl (v := .ref (ad 23)) rfl dX9_tick_20 ?_
      refine lv_iload_n hx hb dX9_tick_23 rfl (lv_at hl 0 rfl) ?_
      refine mm_ald hx hb hz hm 23 (k) (by decide) rfl (show k < 3 by omega) dX9_tick_24 ?_
      refine lv_iconst (v := (-1)) hx hb dX9_tick_25 (by decide) ?_
      refine lv_icmp_ne (tgt := 34) hx hb dX9_tick_26 (by decide) (fun c => ?_) (fun c => ?_)
      · rw [show rf_give f nJ k = rf_give f nJ (k + 1) by rw [rf_give_s, if_neg c]] at hm
        refine lv_iinc (v := (nI (k + 1))) (lv' := [(2, .int (nI (k + 1))), (1, .int (nI 0)), (0, .ref y)]) hx hb dX9_tick_34 hl (k := 0) rfl (nI_1 _) (by decide) rfl (fun ls hl => ?_)
        refine lv_goto (tgt := 14) hx hb dX9_tick_37 (by decide) ?_
        exact ih (k + 1)  (by omega)  _ _ _ _ hm (lv_sub hl [0, 1, 2] rfl)
      · refine lv_aload_n hx hb dX9_tick_29 rfl (lv_at hl 2 rfl) ?_
        refine lv_iload_n hx hb dX9_tick_30 rfl (lv_at hl 0 rfl) ?_
        refine mm_callv (As := [.int (nI k)]) (rest := []) C hz hm (c_X9_takes l G _ _ y ad _ _ nJ k hm.2.1 e16 hJ hk3) wd_893 yVX9_takes ⟨Nat.le_of_ble_eq_true rfl, Nat.le_of_ble_eq_true rfl⟩ rfl hl.1 rfl (Nat.le_of_ble_eq_true rfl) dX9_tick_31 ⟨Nat.le_of_ble_eq_true rfl, Nat.le_of_ble_eq_true rfl⟩ (fun sc1 f1 F1 H locs hm hp => ?_)
        refine W.widen (k := 0) (n := 0) (Nat.le_of_ble_eq_true rfl) (Nat.le_of_ble_eq_true rfl) ?_
        obtain ⟨h7, h8⟩ := hp
        rw [h7, h8, show rf_takes (rf_give f nJ k) nJ k = rf_give f nJ (k + 1) by rw [rf_give_s, if_pos c]] at hm
        refine lv_iinc (v := (nI (k + 1))) (lv' := [(2, .int (nI (k + 1))), (1, .int (nI 0)), (0, .ref y)]) hx hb dX9_tick_34 hl (k := 0) rfl (nI_1 _) (by decide) rfl (fun ls hl => ?_)
        refine lv_goto (tgt := 14) hx hb dX9_tick_37 (by decide) ?_
        exact ih (k + 1)  (by omega)  _ _ _ _ hm (lv_sub hl [0, 1, 2] rfl)
  | zero =>
    intro k  hk  F1 H locs ls hm hl
    obtain rfl : k = 3 := by omega
    refine lv_iload_n hx hb dX9_tick_14 rfl (lv_at hl 0 rfl) ?_
    refine lv_iconst (v := (nI 3)) hx hb dX9_tick_15 (by decide) ?_
    refine lv_icmp_ge (tgt := 40) hx hb dX9_tick_16 (by decide) (fun cx => ?_) (fun cx => absurd cx (by decide))
    refine lv_iconst (v := (nI 0)) hx hb dX9_tick_40 (by decide) ?_
    refine lv_istore_n (lv' := [(2, .int (nI 0)), (1, .int (nI 0)), (0, .ref y)]) hx hb dX9_tick_41 rfl hl (by decide) rfl (fun ls hl => ?_)
    have hjg : rf_jok (rf_give f nJ 3) nJ nO := rf_jok_give hJ hj 3
    clear hk
    suffices hlp : ∀ (d k : Nat), k + d = 3 →  ∀ (F1 : fw_F) (H : Heap) (locs : List Loc) (ls : Array Slot), mm_M G A s F y ad (va_up sc 21 (sc 21 + 1)) (rf_work nJ (sc 21 + 1) (rf_give f nJ 3) k) F1 H locs → lv_has ls 4 [(2, .int (nI k)), (1, .int (nI (rf_cnt nJ (sc 21 + 1) (rf_give f nJ 3) k))), (0, .ref y)] → W p l e { frames := 3, cells := 0, slots := 0, locals := 71 } s m ([.ref y] : List Value).toArray below meth c H locs 0 0 (MQ below (va_Qi (mm_post G y ad F (fun r sc1 f1 => sc1 = va_up sc 21 (sc 21 + 1) ∧ f1 = rf_tickf nJ (sc 21) f ∧ r = nI (rf_tickn nJ (sc 21) f))) (fw_B G A) A) ([.ref y] : List Value).toArray s 0 0 A) (F0 m 42 ls []) by
      exact hlp 3 0  (Nat.zero_add _)  _ _ _ _ hm (lv_sub hl [0, 1, 2] rfl)
    intro d
    induction d with
    | zero =>
      intro k  hk  F1 H locs ls hm hl
      obtain rfl : k = 3 := by omega
      refine lv_iload_n hx hb dX9_tick_42 rfl (lv_at hl 0 rfl) ?_
      refine lv_iconst (v := (nI 3)) hx hb dX9_tick_43 (by decide) ?_
      refine lv_icmp_ge (tgt := 139) hx hb dX9_tick_44 (by decide) (fun cx => ?_) (fun cx => absurd cx (by decide))
      refine lv_iload_n hx hb dX9_tick_139 rfl (lv_at hl 1 rfl) ?_
      exact mm_iret hx hb hr hlk (Nat.le_of_ble_eq_true rfl) (Nat.le_of_ble_eq_true rfl) hm dX9_tick_140 (⟨rfl, rfl, rfl⟩)
    | succ d ih =>
      intro k  hk  F1 H locs ls hm hl
      have hk3 : k < 3 := by omega
      generalize hWd : rf_work nJ (sc 21 + 1) (rf_give f nJ 3) k = X at hm
      have hjW : rf_jok X nJ nO := hWd ▸ rf_jok_work hjg k
      refine lv_iload_n hx hb dX9_tick_42 rfl (lv_at hl 0 rfl) ?_
      refine lv_iconst (v := (nI 3)) hx hb dX9_tick_43 (by decide) ?_
      refine lv_icmp_ge (tgt := 139) hx hb dX9_tick_44 (by decide) (fun c0 => ?_) (fun c0 => ?_)
      · have c0 := (nI_leI (a := 3) (b := k) (by omega) (by omega)).mp c0
        omega
      · have c0 : ¬ 3 ≤ k := fun h9 => c0 ((nI_leI (a := 3) (b := k) (by omega) (by omega)).mpr h9)
        refine lv_aload_n hx hb dX9_tick_47 rfl (lv_at hl 2 rfl) ?_
        refine mm_get hx hb hT hown hz hm 23 (by decide) wd_758 rfl (v := .ref (ad 23)) rfl dX9_tick_48 ?_
        refine lv_iload_n hx hb dX9_tick_51 rfl (lv_at hl 0 rfl) ?_
        refine mm_ald hx hb hz hm 23 (k) (by decide) rfl (show k < 3 by omega) dX9_tick_52 ?_
        refine lv_iconst (v := (-1)) hx hb dX9_tick_53 (by decide) ?_
        refine lv_icmp_eq (tgt := 133) hx hb dX9_tick_54 (by decide) (fun c => ?_) (fun c => ?_)
        · have e9 : X = rf_work nJ (sc 21 + 1) (rf_give f nJ 3) (k + 1) := by
            rw [rf_work_s, hWd]
            rw [rf_wk, if_pos c]
          have hm := Eq.mp (congrArg (fun z => mm_M G A s F y ad (va_up sc 21 (sc 21 + 1)) z F1 H locs) e9) hm
          have c9 : nI (rf_cnt nJ (sc 21 + 1) (rf_give f nJ 3) k) = nI (rf_cnt nJ (sc 21 + 1) (rf_give f nJ 3) (k + 1)) := by rw [rf_cnt_s, hWd, rf_wc, if_pos c, Nat.add_zero]
          rw [c9] at hl
          refine lv_iinc (v := (nI (k + 1))) (lv' := [(2, .int (nI (k + 1))), (1, .int (nI (rf_cnt nJ (sc 21 + 1) (rf_give f nJ 3) (k + 1)))), (0, .ref y)]) hx hb dX9_tick_133 hl (k := 0) rfl (nI_1 _) (by decide) rfl (fun ls hl => ?_)
          refine lv_goto (tgt := 42) hx hb dX9_tick_136 (by decide) ?_
          exact ih (k + 1)  (by omega)  _ _ _ _ hm (lv_sub hl [0, 1, 2] rfl)
        · refine lv_aload_n hx hb dX9_tick_57 rfl (lv_at hl 2 rfl) ?_
          refine mm_get hx hb hT hown hz hm 24 (by decide) wd_759 rfl (v := .ref (ad 24)) rfl dX9_tick_58 ?_
          refine lv_iload_n hx hb dX9_tick_61 rfl (lv_at hl 0 rfl) ?_
          refine lv_dup2_11 hx hb dX9_tick_62 rfl rfl ?_
          refine mm_ald hx hb hz hm 24 (k) (by decide) rfl (show k < 3 by omega) dX9_tick_63 ?_
          refine lv_iconst (v := (nI 1)) hx hb dX9_tick_64 (by decide) ?_
          refine lv_isub hx hb dX9_tick_65 ?_
          refine mm_ast hx hb hz hm 24 (k) (by decide) rfl (show k < 3 by omega) dX9_tick_66 (fun F1 H locs hm => ?_)
          refine lv_aload_n hx hb dX9_tick_67 rfl (lv_at hl 2 rfl) ?_
          refine mm_get hx hb hT hown hz hm 24 (by decide) wd_759 rfl (v := .ref (ad 24)) rfl dX9_tick_68 ?_
          refine lv_iload_n hx hb dX9_tick_71 rfl (lv_at hl 0 rfl) ?_
          refine mm_ald hx hb hz hm 24 (k) (by decide) rfl (show k < 3 by omega) dX9_tick_72 ?_
          refine fw_top (x' := (X 24 k - 1)) (show upd (X 24) k (X 24 k - nI 1) k = _ from pk_us) ?_
          refine lv_if_ne (tgt := 133) hx hb dX9_tick_73 (by decide) (fun d => ?_) (fun d => ?_)
          · have e9 : va_up X 24 (upd (X 24) k (X 24 k - nI 1)) = rf_work nJ (sc 21 + 1) (rf_give f nJ 3) (k + 1) := by
              rw [rf_work_s, hWd]
              rw [rf_wk, if_neg c, if_neg d]
              rfl
            have hm := Eq.mp (congrArg (fun z => mm_M G A s F y ad (va_up sc 21 (sc 21 + 1)) z F1 H locs) e9) hm
            have c9 : nI (rf_cnt nJ (sc 21 + 1) (rf_give f nJ 3) k) = nI (rf_cnt nJ (sc 21 + 1) (rf_give f nJ 3) (k + 1)) := by rw [rf_cnt_s, hWd, rf_wc, if_neg c, if_neg d, Nat.add_zero]
            rw [c9] at hl
            refine lv_iinc (v := (nI (k + 1))) (lv' := [(2, .int (nI (k + 1))), (1, .int (nI (rf_cnt nJ (sc 21 + 1) (rf_give f nJ 3) (k + 1)))), (0, .ref y)]) hx hb dX9_tick_133 hl (k := 0) rfl (nI_1 _) (by decide) rfl (fun ls hl => ?_)
            refine lv_goto (tgt := 42) hx hb dX9_tick_136 (by decide) ?_
            exact ih (k + 1)  (by omega)  _ _ _ _ hm (lv_sub hl [0, 1, 2] rfl)
          · obtain ⟨i, hi, hi9⟩ := (hjW.1 k hk3).resolve_left c
            obtain ⟨o, ho, ho9⟩ := hjW.2 i hi
            refine lv_aload_n hx hb dX9_tick_76 rfl (lv_at hl 2 rfl) ?_
            refine mm_get hx hb hT hown hz hm 23 (by decide) wd_758 rfl (v := .ref (ad 23)) rfl dX9_tick_77 ?_
            refine lv_iload_n hx hb dX9_tick_80 rfl (lv_at hl 0 rfl) ?_
            refine mm_ald hx hb hz hm 23 (k) (by decide) rfl (show k < 3 by omega) dX9_tick_81 ?_
            refine fw_top (x' := (nI i)) (hi9) ?_
            refine lv_istore_n (lv' := [(3, .int (nI i)), (2, .int (nI k)), (1, .int (nI (rf_cnt nJ (sc 21 + 1) (rf_give f nJ 3) k))), (0, .ref y)]) hx hb dX9_tick_82 rfl hl (by decide) rfl (fun ls hl => ?_)
            refine lv_aload_n hx hb dX9_tick_83 rfl (lv_at hl 3 rfl) ?_
            refine mm_get hx hb hT hown hz hm 20 (by decide) wd_755 rfl (v := .ref (ad 20)) rfl dX9_tick_84 ?_
            refine lv_iload_n hx hb dX9_tick_87 rfl (lv_at hl 0 rfl) ?_
            refine lv_bipush (v := (-2)) hx hb dX9_tick_88 (by decide) ?_
            refine mm_ast hx hb hz hm 20 (i) (by decide) rfl (show i < 96 by omega) dX9_tick_90 (fun F1 H locs hm => ?_)
            refine lv_aload_n hx hb dX9_tick_91 rfl (lv_at hl 3 rfl) ?_
            refine mm_get hx hb hT hown hz hm 23 (by decide) wd_758 rfl (v := .ref (ad 23)) rfl dX9_tick_92 ?_
            refine lv_iload_n hx hb dX9_tick_95 rfl (lv_at hl 1 rfl) ?_
            refine lv_iconst (v := (-1)) hx hb dX9_tick_96 (by decide) ?_
            refine mm_ast hx hb hz hm 23 (k) (by decide) rfl (show k < 3 by omega) dX9_tick_97 (fun F1 H locs hm => ?_)
            refine lv_iinc (v := (nI (rf_cnt nJ (sc 21 + 1) (rf_give f nJ 3) k + 1))) (lv' := [(1, .int (nI (rf_cnt nJ (sc 21 + 1) (rf_give f nJ 3) k + 1))), (3, .int (nI i)), (2, .int (nI k)), (0, .ref y)]) hx hb dX9_tick_98 hl (k := 2) rfl (nI_1 _) (by decide) rfl (fun ls hl => ?_)
            refine lv_aload_n hx hb dX9_tick_101 rfl (lv_at hl 3 rfl) ?_
            refine mm_get hx hb hT hown hz hm 13 (by decide) wd_748 rfl (v := .ref (ad 13)) rfl dX9_tick_102 ?_
            refine lv_aload_n hx hb dX9_tick_105 rfl (lv_at hl 3 rfl) ?_
            refine mm_get hx hb hT hown hz hm 17 (by decide) wd_752 rfl (v := .ref (ad 17)) rfl dX9_tick_106 ?_
            refine lv_iload_n hx hb dX9_tick_109 rfl (lv_at hl 1 rfl) ?_
            refine mm_ald hx hb hz hm 17 (i) (by decide) rfl (show i < 96 by omega) dX9_tick_110 ?_
            refine fw_top (x' := (nI o)) (ho9) ?_
            refine lv_aload_n hx hb dX9_tick_111 rfl (lv_at hl 3 rfl) ?_
            refine lv_aload_n hx hb dX9_tick_112 rfl (lv_at hl 3 rfl) ?_
            refine mm_get hx hb hT hown hz hm 17 (by decide) wd_752 rfl (v := .ref (ad 17)) rfl dX9_tick_113 ?_
            refine lv_iload_n hx hb dX9_tick_116 rfl (lv_at hl 1 rfl) ?_
            refine mm_ald hx hb hz hm 17 (i) (by decide) rfl (show i < 96 by omega) dX9_tick_117 ?_
            refine fw_top (x' := (nI o)) (ho9) ?_
            refine mm_calli (As := [.int (nI o)]) (rest := [.int (nI o), .ref (ad 13)]) C hz hm (c_X9_toCut l G _ _ y ad _ _ nJ (nI o) hm.2.1 e16 hJ) wd_905 yVX9_toCut ⟨Nat.le_of_ble_eq_true rfl, Nat.le_of_ble_eq_true rfl⟩ rfl hl.1 rfl (Nat.le_of_ble_eq_true rfl) dX9_tick_118 ⟨Nat.le_of_ble_eq_true rfl, Nat.le_of_ble_eq_true rfl⟩ (fun r sc1 f1 F1 H locs hm hp => ?_)
            refine W.widen (k := 0) (n := 0) (Nat.le_of_ble_eq_true rfl) (Nat.le_of_ble_eq_true rfl) ?_
            obtain ⟨h7, h8, h9⟩ := hp
            rw [h7, h8] at hm
            subst h9
            refine fw_top (x' := nI (rf_left (va_up (rf_less X k) 20 (upd (rf_less X k 20) i (-2))) (nI o) nJ)) (congrArg nI (rf_left_cong (f := va_up (va_up (rf_less X k) 20 (upd (rf_less X k 20) i (-2))) 23 (upd (X 23) k (-1))) (g := va_up (rf_less X k) 20 (upd (rf_less X k 20) i (-2))) rfl rfl nJ)) ?_
            have hll := rf_left_le (va_up (rf_less X k) 20 (upd (rf_less X k 20) i (-2))) (nI o) nJ
            refine lv_if_ne (tgt := 131) hx hb dX9_tick_121 (by decide) (fun d3 => ?_) (fun d3 => ?_)
            · have d3 : ¬ (rf_left (va_up (rf_less X k) 20 (upd (rf_less X k 20) i (-2))) (nI o) nJ) = 0 := fun h9 => d3 ((nI_eq (a := rf_left (va_up (rf_less X k) 20 (upd (rf_less X k 20) i (-2))) (nI o) nJ) (b := 0) (by omega) (by omega)).mpr h9)
              refine lv_iconst (v := (-1)) hx hb dX9_tick_131 (by decide) ?_
              refine mm_ast hx hb hz hm 13 (o) (by decide) rfl (show o < 12 by omega) dX9_tick_132 (fun F1 H locs hm => ?_)
              have e9 : va_up (va_up (va_up (rf_less X k) 20 (upd (rf_less X k 20) i (-2))) 23 (upd (X 23) k (-1))) 13 (upd (X 13) o (-1)) = rf_work nJ (sc 21 + 1) (rf_give f nJ 3) (k + 1) := by
                rw [rf_work_s, hWd]
                rw [rf_wk, if_neg c, if_pos d, hi9, rf_n_nI (by omega), rf_done, show rf_less X k 17 i = nI o from ho9, if_neg d3, rf_n_nI (by omega)]
                rfl
              have hm := Eq.mp (congrArg (fun z => mm_M G A s F y ad (va_up sc 21 (sc 21 + 1)) z F1 H locs) e9) hm
              have c9 : nI (rf_cnt nJ (sc 21 + 1) (rf_give f nJ 3) k + 1) = nI (rf_cnt nJ (sc 21 + 1) (rf_give f nJ 3) (k + 1)) := by rw [rf_cnt_s, hWd, rf_wc, if_neg c, if_pos d]
              rw [c9] at hl
              refine lv_iinc (v := (nI (k + 1))) (lv' := [(2, .int (nI (k + 1))), (1, .int (nI (rf_cnt nJ (sc 21 + 1) (rf_give f nJ 3) (k + 1)))), (3, .int (nI i)), (0, .ref y)]) hx hb dX9_tick_133 hl (k := 2) rfl (nI_1 _) (by decide) rfl (fun ls hl => ?_)
              refine lv_goto (tgt := 42) hx hb dX9_tick_136 (by decide) ?_
              exact ih (k + 1)  (by omega)  _ _ _ _ hm (lv_sub hl [0, 1, 3] rfl)
            · have d3 := (nI_eq (a := rf_left (va_up (rf_less X k) 20 (upd (rf_less X k 20) i (-2))) (nI o) nJ) (b := 0) (by omega) (by omega)).mp d3
              refine lv_aload_n hx hb dX9_tick_124 rfl (lv_at hl 3 rfl) ?_
              refine mm_get hx hb hT hown hz hm 21 (by decide) wd_756 rfl (v := .int ((va_up sc 21 (sc 21 + 1)) 21)) rfl dX9_tick_125 ?_
              refine lv_goto (tgt := 132) hx hb dX9_tick_128 (by decide) ?_
              refine mm_ast hx hb hz hm 13 (o) (by decide) rfl (show o < 12 by omega) dX9_tick_132 (fun F1 H locs hm => ?_)
              have e9 : va_up (va_up (va_up (rf_less X k) 20 (upd (rf_less X k 20) i (-2))) 23 (upd (X 23) k (-1))) 13 (upd (X 13) o (sc 21 + 1)) = rf_work nJ (sc 21 + 1) (rf_give f nJ 3) (k + 1) := by
                rw [rf_work_s, hWd]
                rw [rf_wk, if_neg c, if_pos d, hi9, rf_n_nI (by omega), rf_done, show rf_less X k 17 i = nI o from ho9, if_pos d3, rf_n_nI (by omega)]
                rfl
              have hm := Eq.mp (congrArg (fun z => mm_M G A s F y ad (va_up sc 21 (sc 21 + 1)) z F1 H locs) e9) hm
              have c9 : nI (rf_cnt nJ (sc 21 + 1) (rf_give f nJ 3) k + 1) = nI (rf_cnt nJ (sc 21 + 1) (rf_give f nJ 3) (k + 1)) := by rw [rf_cnt_s, hWd, rf_wc, if_neg c, if_pos d]
              rw [c9] at hl
              refine lv_iinc (v := (nI (k + 1))) (lv' := [(2, .int (nI (k + 1))), (1, .int (nI (rf_cnt nJ (sc 21 + 1) (rf_give f nJ 3) (k + 1)))), (3, .int (nI i)), (0, .ref y)]) hx hb dX9_tick_133 hl (k := 2) rfl (nI_1 _) (by decide) rfl (fun ls hl => ?_)
              refine lv_goto (tgt := 42) hx hb dX9_tick_136 (by decide) ?_
              exact ih (k + 1)  (by omega)  _ _ _ _ hm (lv_sub hl [0, 1, 3] rfl)
set_option maxHeartbeats 4000000 in
set_option maxRecDepth 100000 in
theorem c_X9_pass (l : Launch) (G : fw_G) (F : fw_F) (sz y : Nat) (ad : Nat → Nat) (sc : mm_S) (f : mm_A) (nJ nO : Nat) (q : Int32) (hW : mm_W G F y ad sc f) (e16 : sc 16 = nI nJ) (hJ : nJ ≤ 96) (hO : nO ≤ 12) (hj : rf_jok f nJ nO) : mm_Ci l G F sz y ad yX9_pass cX9_pass 4 (.int) { frames := 4, cells := 0, slots := 0, locals := 94 } [.int q] (fun r sc1 f1 => (rf_in q (nI 1) (nI 200) = false → f1 = f ∧ sc1 = va_up sc 0 (nI 1)) ∧ (∀ j, q = nI j → 1 ≤ j → j ≤ 200 → sc1 = va_up (va_up sc 0 (nI 0)) 21 (sc 21 + nI j) ∧ f1 = rf_passf nJ (sc 21) f j ∧ r = nI (rf_passn nJ (sc 21) f j))) := by
  refine fw_met (lv := [(0, .ref y), (1, .int q)]) (by decide +kernel) (Nat.le_of_ble_eq_true rfl) rfl ?_
  intro A hA p e s m below meth c ls hx hb hml hown hT hr hlk hin hz hsz hw hAn hl
  rw [← hA]
  have hown : s.vm.findClass RX9 = some m.cls := hown
  have C : CallFix p m c cX9_pass 4 s _ fw_tb RX9 := ⟨hx, hb, hml, hown, hT⟩
  have hm : mm_M G A s F y ad sc f F s.heap [] := ⟨hw, hW, mm_keep.rf⟩
  refine lv_aload_n hx hb dX9_pass_0 rfl (lv_at hl 0 rfl) ?_
  refine lv_iload_n hx hb dX9_pass_1 rfl (lv_at hl 1 rfl) ?_
  refine lv_iconst (v := (nI 1)) hx hb dX9_pass_2 (by decide) ?_
  refine lv_sipush (v := (nI 200)) hx hb dX9_pass_3 (by decide) ?_
  refine mm_calls (As := [.int q, .int (nI 1), .int (nI 200)]) (rest := [.ref y]) C hz hm (c_X9_in l G _ _ q (nI 1) (nI 200)) wd_821 ySX9_in ⟨Nat.le_of_ble_eq_true rfl, Nat.le_of_ble_eq_true rfl⟩ rfl hl.1 rfl (Nat.le_of_ble_eq_true rfl) dX9_pass_6 ⟨Nat.le_of_ble_eq_true rfl, Nat.le_of_ble_eq_true rfl⟩ (fun r H locs hm hp => ?_)
  refine W.widen (k := 0) (n := 0) (Nat.le_of_ble_eq_true rfl) (Nat.le_of_ble_eq_true rfl) ?_
  subst hp
  refine lv_if_eq (tgt := 16) hx hb dX9_pass_9 (by decide) (fun cq => ?_) (fun cq => ?_)
  · have cq := fw_b0 cq
    refine lv_iconst (v := (nI 1)) hx hb dX9_pass_16 (by decide) ?_
    refine mm_put hx hb hT hown hz hm 0 (by decide) wd_735 dX9_pass_17 (fun F1 H locs hm => ?_)
    refine lv_iconst (v := (nI 0)) hx hb dX9_pass_20 (by decide) ?_
    refine lv_istore_n (lv' := [(2, .int (nI 0)), (0, .ref y), (1, .int q)]) hx hb dX9_pass_21 rfl hl (by decide) rfl (fun ls hl => ?_)
    refine lv_iconst (v := (nI 0)) hx hb dX9_pass_22 (by decide) ?_
    refine lv_istore_n (lv' := [(3, .int (nI 0)), (2, .int (nI 0)), (0, .ref y), (1, .int q)]) hx hb dX9_pass_23 rfl hl (by decide) rfl (fun ls hl => ?_)
    refine lv_iload_n hx hb dX9_pass_24 rfl (lv_at hl 0 rfl) ?_
    refine lv_iload_n hx hb dX9_pass_25 rfl (lv_at hl 3 rfl) ?_
    refine lv_icmp_ge (tgt := 49) hx hb dX9_pass_26 (by decide) (fun d => ?_) (fun d => ?_)
    · refine lv_iload_n hx hb dX9_pass_49 rfl (lv_at hl 1 rfl) ?_
      exact mm_iret hx hb hr hlk (Nat.le_of_ble_eq_true rfl) (Nat.le_of_ble_eq_true rfl) hm dX9_pass_50 (⟨fun _ => ⟨rfl, rfl⟩, fun i h1 h2 h3 => by subst h1; rw [rf_in_t.mpr ⟨nI_le h2 (by omega), nI_le h3 (by decide)⟩] at cq; cases cq⟩)
    · refine lv_aload_n hx hb dX9_pass_29 rfl (lv_at hl 2 rfl) ?_
      refine mm_get hx hb hT hown hz hm 0 (by decide) wd_735 rfl (v := .int (nI 1)) rfl dX9_pass_30 ?_
      refine lv_if_ne (tgt := 49) hx hb dX9_pass_33 (by decide) (fun cx => ?_) (fun cx => absurd cx (by decide))
      refine lv_iload_n hx hb dX9_pass_49 rfl (lv_at hl 1 rfl) ?_
      exact mm_iret hx hb hr hlk (Nat.le_of_ble_eq_true rfl) (Nat.le_of_ble_eq_true rfl) hm dX9_pass_50 (⟨fun _ => ⟨rfl, rfl⟩, fun i h1 h2 h3 => by subst h1; rw [rf_in_t.mpr ⟨nI_le h2 (by omega), nI_le h3 (by decide)⟩] at cq; cases cq⟩)
  · have cq := fw_b1 cq
    obtain ⟨i, hi, rfl⟩ : ∃ i, i ≤ 200 ∧ q = nI i := nI_of2 (M := nI 200) (by decide) (Int32.not_lt.mpr (Int32.le_trans (show (0 : Int32) ≤ nI 1 by decide) (rf_in_t.mp cq).1)) (rf_in_t.mp cq).2
    refine lv_iconst (v := (nI 0)) hx hb dX9_pass_12 (by decide) ?_
    refine lv_goto (tgt := 17) hx hb dX9_pass_13 (by decide) ?_
    refine mm_put hx hb hT hown hz hm 0 (by decide) wd_735 dX9_pass_17 (fun F1 H locs hm => ?_)
    refine lv_iconst (v := (nI 0)) hx hb dX9_pass_20 (by decide) ?_
    refine lv_istore_n (lv' := [(2, .int (nI 0)), (0, .ref y), (1, .int (nI i))]) hx hb dX9_pass_21 rfl hl (by decide) rfl (fun ls hl => ?_)
    refine lv_iconst (v := (nI 0)) hx hb dX9_pass_22 (by decide) ?_
    refine lv_istore_n (lv' := [(3, .int (nI 0)), (2, .int (nI 0)), (0, .ref y), (1, .int (nI i))]) hx hb dX9_pass_23 rfl hl (by decide) rfl (fun ls hl => ?_)
    rw [show va_up sc 0 (nI 0) = va_up (va_up sc 0 (nI 0)) 21 (sc 21 + nI 0) from (va_up_same (f := va_up sc 0 (nI 0)) (k := 21) (v := sc 21 + nI 0) (by show sc 21 = sc 21 + nI 0; rw [show nI 0 = (0 : Int32) from rfl, Int32.add_zero])).symm] at hm
    suffices hlp : ∀ (d k : Nat), k + d = i →  ∀ (F1 : fw_F) (H : Heap) (locs : List Loc) (ls : Array Slot), mm_M G A s F y ad (va_up (va_up sc 0 (nI 0)) 21 (sc 21 + nI k)) (rf_passf nJ (sc 21) f k) F1 H locs → lv_has ls 4 [(3, .int (nI k)), (2, .int (nI (rf_passn nJ (sc 21) f k))), (0, .ref y), (1, .int (nI i))] → W p l e { frames := 4, cells := 0, slots := 0, locals := 94 } s m ([.ref y, .int (nI i)] : List Value).toArray below meth c H locs 0 0 (MQ below (va_Qi (mm_post G y ad F (fun r sc1 f1 => (rf_in (nI i) (nI 1) (nI 200) = false → f1 = f ∧ sc1 = va_up sc 0 (nI 1)) ∧ (∀ j, nI i = nI j → 1 ≤ j → j ≤ 200 → sc1 = va_up (va_up sc 0 (nI 0)) 21 (sc 21 + nI j) ∧ f1 = rf_passf nJ (sc 21) f j ∧ r = nI (rf_passn nJ (sc 21) f j)))) (fw_B G A) A) ([.ref y, .int (nI i)] : List Value).toArray s 0 0 A) (F0 m 24 ls []) by
      exact hlp i 0  (Nat.zero_add _)  _ _ _ _ hm (lv_sub hl [0, 1, 2, 3] rfl)
    intro d
    induction d with
    | zero =>
      intro k  hk  F1 H locs ls hm hl
      obtain rfl : k = i := by omega
      refine lv_iload_n hx hb dX9_pass_24 rfl (lv_at hl 0 rfl) ?_
      refine lv_iload_n hx hb dX9_pass_25 rfl (lv_at hl 3 rfl) ?_
      refine lv_icmp_ge (tgt := 49) hx hb dX9_pass_26 (by decide) (fun d => ?_) (fun d => ?_)
      · have d := (nI_leI (a := k) (b := k) (by omega) (by omega)).mp d
        refine lv_iload_n hx hb dX9_pass_49 rfl (lv_at hl 1 rfl) ?_
        exact mm_iret hx hb hr hlk (Nat.le_of_ble_eq_true rfl) (Nat.le_of_ble_eq_true rfl) hm dX9_pass_50 (⟨fun h => (by rw [cq] at h; cases h), fun j h1 h2 h3 => by rw [← nI_j (by omega) (by omega) h1]; exact ⟨rfl, rfl, rfl⟩⟩)
      · have d : ¬ k ≤ k := fun h9 => d ((nI_leI (a := k) (b := k) (by omega) (by omega)).mpr h9)
        omega
    | succ d ih =>
      intro k  hk  F1 H locs ls hm hl
      refine lv_iload_n hx hb dX9_pass_24 rfl (lv_at hl 0 rfl) ?_
      refine lv_iload_n hx hb dX9_pass_25 rfl (lv_at hl 3 rfl) ?_
      refine lv_icmp_ge (tgt := 49) hx hb dX9_pass_26 (by decide) (fun d => ?_) (fun d => ?_)
      · have d := (nI_leI (a := i) (b := k) (by omega) (by omega)).mp d
        omega
      · have d : ¬ i ≤ k := fun h9 => d ((nI_leI (a := i) (b := k) (by omega) (by omega)).mpr h9)
        refine lv_aload_n hx hb dX9_pass_29 rfl (lv_at hl 2 rfl) ?_
        refine mm_get hx hb hT hown hz hm 0 (by decide) wd_735 rfl (v := .int ((va_up (va_up sc 0 (nI 0)) 21 (sc 21 + nI k)) 0)) rfl dX9_pass_30 ?_
        refine fw_top (x' := (nI 0)) (rfl) ?_
        refine lv_if_ne (tgt := 49) hx hb dX9_pass_33 (by decide) (fun cx => absurd cx (by decide)) (fun cx => ?_)
        refine lv_iload_n hx hb dX9_pass_36 rfl (lv_at hl 1 rfl) ?_
        refine lv_aload_n hx hb dX9_pass_37 rfl (lv_at hl 2 rfl) ?_
        refine mm_calli (As := []) (rest := [.int (nI (rf_passn nJ (sc 21) f k))]) C hz hm (c_X9_tick l G _ _ y ad _ _ nJ nO hm.2.1 e16 hJ hO (rf_jok_pass hJ hj k)) wd_889 yVX9_tick ⟨Nat.le_of_ble_eq_true rfl, Nat.le_of_ble_eq_true rfl⟩ rfl hl.1 rfl (Nat.le_of_ble_eq_true rfl) dX9_pass_38 ⟨Nat.le_of_ble_eq_true rfl, Nat.le_of_ble_eq_true rfl⟩ (fun r sc1 f1 F1 H locs hm hp => ?_)
        refine W.widen (k := 0) (n := 0) (Nat.le_of_ble_eq_true rfl) (Nat.le_of_ble_eq_true rfl) ?_
        obtain ⟨h7, h8, h9⟩ := hp
        have h6 : va_up (va_up (va_up sc 0 (nI 0)) 21 (sc 21 + nI k)) 21 ((va_up (va_up sc 0 (nI 0)) 21 (sc 21 + nI k)) 21 + 1) = va_up (va_up sc 0 (nI 0)) 21 (sc 21 + nI (k + 1)) := by
          show va_up (va_up (va_up sc 0 (nI 0)) 21 (sc 21 + nI k)) 21 (sc 21 + nI k + 1) = _
          rw [bx_uu, Int32.add_assoc, nI_1]
        rw [h7, h8, h6] at hm
        subst h9
        refine lv_iadd hx hb dX9_pass_41 ?_
        refine fw_top (nI_add _ _) ?_
        refine fw_top (x' := (nI (rf_passn nJ (sc 21) f (k + 1)))) (rfl) ?_
        refine lv_istore_n (lv' := [(2, .int (nI (rf_passn nJ (sc 21) f (k + 1)))), (3, .int (nI k)), (0, .ref y), (1, .int (nI i))]) hx hb dX9_pass_42 rfl hl (by decide) rfl (fun ls hl => ?_)
        refine lv_iinc (v := (nI (k + 1))) (lv' := [(3, .int (nI (k + 1))), (2, .int (nI (rf_passn nJ (sc 21) f (k + 1)))), (0, .ref y), (1, .int (nI i))]) hx hb dX9_pass_43 hl (k := 1) rfl (nI_1 _) (by decide) rfl (fun ls hl => ?_)
        refine lv_goto (tgt := 24) hx hb dX9_pass_46 (by decide) ?_
        exact ih (k + 1)  (by omega)  _ _ _ _ hm (lv_sub hl [0, 1, 2, 3] rfl)
end
section
/-! The reference's methods: orders, trains, designs. -/
theorem rf_cutL_cong {f g : mm_A} {mo te : Int32} (h2 : f 2 = g 2) (h3 : f 3 = g 3) (h4 : f 4 = g 4) : ∀ (j : Nat) (its : Int32), rf_cutL f mo te j its = rf_cutL g mo te j its
  | 0, _ => rfl
  | j + 1, its => by rw [rf_cutL, rf_cutL, h2, h3, h4]; exact rf_cutL_cong h2 h3 h4 j _
theorem rf_cut_cong {f g : mm_A} {mo te : Int32} {n : Nat} (h2 : f 2 = g 2) (h3 : f 3 = g 3) (h4 : f 4 = g 4) : rf_cut f n mo te = rf_cut g n mo te := rf_cutL_cong h2 h3 h4 n _
def rf_addJ (f : mm_A) (nJ nC : Nat) (o mo te : Int32) : mm_A := va_up (va_up (va_up (va_up f 17 (upd (f 17) nJ o)) 18 (upd (f 18) nJ (rf_cut f nC mo te))) 19 (upd (f 19) nJ te)) 20 (upd (f 20) nJ (-1))
def rf_ordJ (f : mm_A) (nC nJ nO t : Nat) : Nat → mm_A
  | 0 => f
  | k + 1 => rf_addJ (rf_addJ (rf_ordJ f nC nJ nO t k) (nJ + 2 * k) nC (nI nO) (f 9 (12 * t + 3 * k)) (f 9 (12 * t + 3 * k + 1))) (nJ + 2 * k + 1) nC (nI nO) (f 9 (12 * t + 3 * k)) (f 9 (12 * t + 3 * k + 2))
theorem rf_ordJ_s (f : mm_A) (nC nJ nO t k : Nat) : rf_ordJ f nC nJ nO t (k + 1) = rf_addJ (rf_addJ (rf_ordJ f nC nJ nO t k) (nJ + 2 * k) nC (nI nO) (f 9 (12 * t + 3 * k)) (f 9 (12 * t + 3 * k + 1))) (nJ + 2 * k + 1) nC (nI nO) (f 9 (12 * t + 3 * k)) (f 9 (12 * t + 3 * k + 2)) := rfl
theorem rf_ordJ_9 (f : mm_A) (nC nJ nO t : Nat) : ∀ k, rf_ordJ f nC nJ nO t k 9 = f 9 ∧ rf_ordJ f nC nJ nO t k 8 = f 8 ∧ rf_ordJ f nC nJ nO t k 12 = f 12 ∧ rf_ordJ f nC nJ nO t k 13 = f 13
  | 0 => ⟨rfl, rfl, rfl, rfl⟩
  | k + 1 => rf_ordJ_9 f nC nJ nO t k
def rf_cans (f : mm_A) (nC : Nat) (b : Bool) : Nat → Bool
  | 0 => b
  | k + 1 => rf_cans f nC b k && !(decide (rf_cut f nC (f 6 (3 * k)) (f 6 (3 * k + 1)) = -1)) && !(decide (rf_cut f nC (f 6 (3 * k)) (f 6 (3 * k + 2)) = -1))
theorem rf_cans_s (f : mm_A) (nC : Nat) (b : Bool) (k : Nat) : rf_cans f nC b (k + 1) = (rf_cans f nC b k && !(decide (rf_cut f nC (f 6 (3 * k)) (f 6 (3 * k + 1)) = -1)) && !(decide (rf_cut f nC (f 6 (3 * k)) (f 6 (3 * k + 2)) = -1))) := rfl
theorem rf_cans_t {f : mm_A} {nC : Nat} {b : Bool} : ∀ {k : Nat}, rf_cans f nC b k = true → b = true
  | 0, h => h
  | k + 1, h => by
    rw [rf_cans_s, Bool.and_eq_true, Bool.and_eq_true] at h
    exact rf_cans_t h.1.1
def rf_can0 (f : mm_A) (nD nT : Nat) (ds : Int32) : Bool := decide (0 < nD) && decide (ds = rf_dist f nD) && decide (nT < 8)
def rf_copy (f : mm_A) (nT : Nat) : Nat → Nat → Int32
  | 0 => f 9
  | k + 1 => upd (rf_copy f nT k) (12 * nT + k) (f 6 k)
def rf_lk (f : mm_A) (nC : Nat) (mo te : Int32) : Nat := if rf_cut f nC mo te = -1 then 1 else 0
theorem rf_lk_b {f : mm_A} {nC : Nat} {mo te : Int32} : fw_b (decide (rf_cut f nC mo te = -1)) = nI (rf_lk f nC mo te) := by
  unfold rf_lk
  by_cases h : rf_cut f nC mo te = -1
  · rw [decide_eq_true h, if_pos h]; rfl
  · rw [decide_eq_false h, if_neg h]; rfl
theorem rf_lk_le (f : mm_A) (nC : Nat) (mo te : Int32) : rf_lk f nC mo te ≤ 1 := by unfold rf_lk; split <;> omega
def rf_news (f : mm_A) (nC : Nat) (mo x1 x2 x3 x4 : Int32) : Nat := rf_lk f nC mo x1 + (if x2 = x1 then 0 else rf_lk f nC mo x2) + (if x3 = x1 ∨ x3 = x2 then 0 else rf_lk f nC mo x3) + (if x4 = x1 ∨ x4 = x2 ∨ x4 = x3 then 0 else rf_lk f nC mo x4)
def rf_ln (f : mm_A) (nC : Nat) (mo : Int32) (ab be : Nat) : Nat → Int32
  | 0 => -1
  | k + 1 => if (8 + k / 13 % 13) * (8 + k / 2197) * be = (8 + k % 13) * (8 + k / 169 % 13) * ab then
      (if rf_ln f nC mo ab be k = -1 ∨ nI (rf_news f nC mo (nI (8 + k % 13)) (nI (8 + k / 13 % 13)) (nI (8 + k / 169 % 13)) (nI (8 + k / 2197))) < rf_ln f nC mo ab be k then nI (rf_news f nC mo (nI (8 + k % 13)) (nI (8 + k / 13 % 13)) (nI (8 + k / 169 % 13)) (nI (8 + k / 2197))) else rf_ln f nC mo ab be k) else rf_ln f nC mo ab be k
theorem rf_ln_s (f : mm_A) (nC : Nat) (mo : Int32) (ab be k : Nat) : rf_ln f nC mo ab be (k + 1) = if (8 + k / 13 % 13) * (8 + k / 2197) * be = (8 + k % 13) * (8 + k / 169 % 13) * ab then
      (if rf_ln f nC mo ab be k = -1 ∨ nI (rf_news f nC mo (nI (8 + k % 13)) (nI (8 + k / 13 % 13)) (nI (8 + k / 169 % 13)) (nI (8 + k / 2197))) < rf_ln f nC mo ab be k then nI (rf_news f nC mo (nI (8 + k % 13)) (nI (8 + k / 13 % 13)) (nI (8 + k / 169 % 13)) (nI (8 + k / 2197))) else rf_ln f nC mo ab be k) else rf_ln f nC mo ab be k := rfl
def rf_okL (mo ab be : Int32) : Bool := rf_in mo (nI 1) (nI 4) && rf_in ab (nI 1) (nI 400) && rf_in be (nI 1) (nI 400)
set_option maxHeartbeats 4000000 in
set_option maxRecDepth 100000 in
theorem c_X9_wear (l : Launch) (G : fw_G) (F : fw_F) (sz y : Nat) (ad : Nat → Nat) (sc : mm_S) (f : mm_A) (nO nT : Nat) (o q : Int32) (hW : mm_W G F y ad sc f) (e11 : sc 11 = nI nO) (hO : nO ≤ 12) (hn : nT ≤ 8) (htok : ∀ j, j < nT → rf_tok f j) (hot : ∀ j, j < nO → f 12 j = nI (rf_ot f j) ∧ rf_ot f j < nT) : mm_Ci l G F sz y ad yX9_wear cX9_wear 3 (.int) { frames := 2, cells := 0, slots := 0, locals := 43 } [.int o, .int q] (fun r sc1 f1 => f1 = f ∧ (rf_ix o nO = false → sc1 = va_up sc 0 (nI 1)) ∧ (∀ j, j < nO → o = nI j → (rf_ix q (rf_sm f (rf_ot f j)) = false → sc1 = va_up sc 0 (nI 1)) ∧ ∀ i, i < rf_sm f (rf_ot f j) → q = nI i → sc1 = va_up sc 0 (nI 0) ∧ r = f 15 (4 * j + i))) := by
  refine fw_met (lv := [(0, .ref y), (1, .int o), (2, .int q)]) (by decide +kernel) (Nat.le_of_ble_eq_true rfl) rfl ?_
  intro A hA p e s m below meth c ls hx hb hml hown hT hr hlk hin hz hsz hw hAn hl
  rw [← hA]
  have hown : s.vm.findClass RX9 = some m.cls := hown
  have C : CallFix p m c cX9_wear 3 s _ fw_tb RX9 := ⟨hx, hb, hml, hown, hT⟩
  have hm : mm_M G A s F y ad sc f F s.heap [] := ⟨hw, hW, mm_keep.rf⟩
  refine lv_aload_n hx hb dX9_wear_0 rfl (lv_at hl 0 rfl) ?_
  refine lv_aload_n hx hb dX9_wear_1 rfl (lv_at hl 0 rfl) ?_
  refine lv_iload_n hx hb dX9_wear_2 rfl (lv_at hl 1 rfl) ?_
  refine mm_calli (As := [.int o]) (rest := [.ref y]) C hz hm (c_X9_isOrder l G _ _ y ad _ _ nO o hm.2.1 e11) wd_933 yVX9_isOrder ⟨Nat.le_of_ble_eq_true rfl, Nat.le_of_ble_eq_true rfl⟩ rfl hl.1 rfl (Nat.le_of_ble_eq_true rfl) dX9_wear_3 ⟨Nat.le_of_ble_eq_true rfl, Nat.le_of_ble_eq_true rfl⟩ (fun r sc1 f1 F1 H locs hm hp => ?_)
  refine W.widen (k := 0) (n := 0) (Nat.le_of_ble_eq_true rfl) (Nat.le_of_ble_eq_true rfl) ?_
  obtain ⟨h7, h8, h9⟩ := hp
  rw [h7, h8] at hm
  subst h9
  refine lv_if_eq (tgt := 34) hx hb dX9_wear_6 (by decide) (fun h1 => ?_) (fun h1 => ?_)
  · have h1 := fw_b0 h1
    refine lv_iconst (v := (nI 1)) hx hb dX9_wear_34 (by decide) ?_
    refine mm_put hx hb hT hown hz hm 0 (by decide) wd_735 dX9_wear_35 (fun F1 H locs hm => ?_)
    refine lv_aload_n hx hb dX9_wear_38 rfl (lv_at hl 0 rfl) ?_
    refine mm_get hx hb hT hown hz hm 0 (by decide) wd_735 rfl (v := .int (nI 1)) rfl dX9_wear_39 ?_
    refine lv_if_le (tgt := 49) hx hb dX9_wear_42 (by decide) (fun cx => absurd cx (by decide)) (fun cx => ?_)
    refine lv_iconst (v := (nI 0)) hx hb dX9_wear_45 (by decide) ?_
    refine lv_goto (tgt := 59) hx hb dX9_wear_46 (by decide) ?_
    exact mm_iret hx hb hr hlk (Nat.le_of_ble_eq_true rfl) (Nat.le_of_ble_eq_true rfl) hm dX9_wear_59 (⟨rfl, fun _ => bx_uu _ _ _ _, fun j g1 g2 => absurd (rf_in_of (by omega) g1 g2) (by rw [h1]; decide)⟩)
  · have h1 := fw_b1 h1
    obtain ⟨j, hj, rfl⟩ := rf_ix_t (by omega) h1
    obtain ⟨h2, h3⟩ := hot j hj
    have h4 := htok _ h3
    have h5 := h4.2.2.1
    refine lv_iload_n hx hb dX9_wear_9 rfl (lv_at hl 2 rfl) ?_
    refine lv_iconst (v := (nI 0)) hx hb dX9_wear_10 (by decide) ?_
    refine lv_aload_n hx hb dX9_wear_11 rfl (lv_at hl 0 rfl) ?_
    refine mm_get hx hb hT hown hz hm 8 (by decide) wd_743 rfl (v := .ref (ad 8)) rfl dX9_wear_12 ?_
    refine lv_aload_n hx hb dX9_wear_15 rfl (lv_at hl 0 rfl) ?_
    refine mm_get hx hb hT hown hz hm 12 (by decide) wd_747 rfl (v := .ref (ad 12)) rfl dX9_wear_16 ?_
    refine lv_iload_n hx hb dX9_wear_19 rfl (lv_at hl 1 rfl) ?_
    refine mm_ald hx hb hz hm 12 (j) (by decide) rfl (show j < 12 by omega) dX9_wear_20 ?_
    refine fw_top (x' := (nI (rf_ot f j))) (h2) ?_
    refine mm_ald hx hb hz hm 8 (rf_ot f j) (by decide) rfl (show rf_ot f j < 8 by omega) dX9_wear_21 ?_
    refine fw_top (x' := (nI (rf_sm f (rf_ot f j)))) (h4.1) ?_
    refine lv_iconst (v := (nI 1)) hx hb dX9_wear_22 (by decide) ?_
    refine lv_isub hx hb dX9_wear_23 ?_
    refine mm_calls (As := [.int q, .int (nI 0), .int ((nI (rf_sm f (rf_ot f j))) - (nI 1))]) (rest := [.ref y]) C hz hm (c_X9_in l G _ _ q (nI 0) (nI (rf_sm f (rf_ot f j)) - nI 1)) wd_821 ySX9_in ⟨Nat.le_of_ble_eq_true rfl, Nat.le_of_ble_eq_true rfl⟩ rfl hl.1 rfl (Nat.le_of_ble_eq_true rfl) dX9_wear_24 ⟨Nat.le_of_ble_eq_true rfl, Nat.le_of_ble_eq_true rfl⟩ (fun r H locs hm hp => ?_)
    refine W.widen (k := 0) (n := 0) (Nat.le_of_ble_eq_true rfl) (Nat.le_of_ble_eq_true rfl) ?_
    subst hp
    refine lv_if_eq (tgt := 34) hx hb dX9_wear_27 (by decide) (fun d => ?_) (fun d => ?_)
    · have d := fw_b0 d
      refine lv_iconst (v := (nI 1)) hx hb dX9_wear_34 (by decide) ?_
      refine mm_put hx hb hT hown hz hm 0 (by decide) wd_735 dX9_wear_35 (fun F1 H locs hm => ?_)
      refine lv_aload_n hx hb dX9_wear_38 rfl (lv_at hl 0 rfl) ?_
      refine mm_get hx hb hT hown hz hm 0 (by decide) wd_735 rfl (v := .int (nI 1)) rfl dX9_wear_39 ?_
      refine lv_if_le (tgt := 49) hx hb dX9_wear_42 (by decide) (fun cx => absurd cx (by decide)) (fun cx => ?_)
      refine lv_iconst (v := (nI 0)) hx hb dX9_wear_45 (by decide) ?_
      refine lv_goto (tgt := 59) hx hb dX9_wear_46 (by decide) ?_
      exact mm_iret hx hb hr hlk (Nat.le_of_ble_eq_true rfl) (Nat.le_of_ble_eq_true rfl) hm dX9_wear_59 (⟨rfl, fun _ => bx_uu _ _ _ _, fun i g1 g2 => by obtain rfl := nI_j (by omega) (by omega) g2; exact ⟨fun _ => bx_uu _ _ _ _, fun i g3 g4 => absurd (rf_in_of (by omega) g3 g4) (by rw [show rf_ix q (rf_sm f (rf_ot f j)) = false from d]; decide)⟩⟩)
    · have d := fw_b1 d
      obtain ⟨i, hi, rfl⟩ := rf_ix_t (by omega) (show rf_ix q (rf_sm f (rf_ot f j)) = true from d)
      refine lv_iconst (v := (nI 0)) hx hb dX9_wear_30 (by decide) ?_
      refine lv_goto (tgt := 35) hx hb dX9_wear_31 (by decide) ?_
      refine mm_put hx hb hT hown hz hm 0 (by decide) wd_735 dX9_wear_35 (fun F1 H locs hm => ?_)
      refine lv_aload_n hx hb dX9_wear_38 rfl (lv_at hl 0 rfl) ?_
      refine mm_get hx hb hT hown hz hm 0 (by decide) wd_735 rfl (v := .int (nI 0)) rfl dX9_wear_39 ?_
      refine lv_if_le (tgt := 49) hx hb dX9_wear_42 (by decide) (fun cx => ?_) (fun cx => absurd cx (by decide))
      refine lv_aload_n hx hb dX9_wear_49 rfl (lv_at hl 0 rfl) ?_
      refine mm_get hx hb hT hown hz hm 15 (by decide) wd_750 rfl (v := .ref (ad 15)) rfl dX9_wear_50 ?_
      refine lv_iconst (v := (nI 4)) hx hb dX9_wear_53 (by decide) ?_
      refine lv_iload_n hx hb dX9_wear_54 rfl (lv_at hl 1 rfl) ?_
      refine lv_imul hx hb dX9_wear_55 ?_
      refine fw_top (pk_mul _ _) ?_
      refine lv_iload_n hx hb dX9_wear_56 rfl (lv_at hl 2 rfl) ?_
      refine lv_iadd hx hb dX9_wear_57 ?_
      refine fw_top (nI_add _ _) ?_
      refine mm_ald hx hb hz hm 15 ((4 * j) + i) (by decide) rfl (show (4 * j) + i < 48 by omega) dX9_wear_58 ?_
      exact mm_iret hx hb hr hlk (Nat.le_of_ble_eq_true rfl) (Nat.le_of_ble_eq_true rfl) hm dX9_wear_59 (⟨rfl, fun h => absurd h (by rw [h1]; decide), fun i1 g1 g2 => by obtain rfl := nI_j (by omega) (by omega) g2; exact ⟨fun h => absurd h (by rw [show rf_ix (nI i) (rf_sm f (rf_ot f j)) = true from d]; decide), fun i2 g3 g4 => by obtain rfl := nI_j (by omega) (by omega) g4; exact ⟨bx_uu _ _ _ _, rfl⟩⟩⟩)
set_option maxHeartbeats 4000000 in
set_option maxRecDepth 100000 in
theorem c_X9_waits (l : Launch) (G : fw_G) (F : fw_F) (sz y : Nat) (ad : Nat → Nat) (sc : mm_S) (f : mm_A) (nJ nC : Nat) (o mo te : Int32) (hW : mm_W G F y ad sc f) (e16 : sc 16 = nI nJ) (hJ : nJ < 96) (e1 : sc 1 = nI nC) (hC : nC ≤ 10) : mm_Cv l G F sz y ad yX9_waits cX9_waits 4 { frames := 2, cells := 0, slots := 0, locals := 46 } [.int o, .int mo, .int te] (fun sc1 f1 => sc1 = va_up sc 16 (nI (nJ + 1)) ∧ f1 = rf_addJ f nJ nC o mo te) := by
  refine fw_met (lv := [(0, .ref y), (1, .int o), (2, .int mo), (3, .int te)]) (by decide +kernel) (Nat.le_of_ble_eq_true rfl) rfl ?_
  intro A hA p e s m below meth c ls hx hb hml hown hT hr hlk hin hz hsz hw hAn hl
  rw [← hA]
  have hown : s.vm.findClass RX9 = some m.cls := hown
  have C : CallFix p m c cX9_waits 4 s _ fw_tb RX9 := ⟨hx, hb, hml, hown, hT⟩
  have hm : mm_M G A s F y ad sc f F s.heap [] := ⟨hw, hW, mm_keep.rf⟩
  refine lv_aload_n hx hb dX9_waits_0 rfl (lv_at hl 0 rfl) ?_
  refine mm_get hx hb hT hown hz hm 17 (by decide) wd_752 rfl (v := .ref (ad 17)) rfl dX9_waits_1 ?_
  refine lv_aload_n hx hb dX9_waits_4 rfl (lv_at hl 0 rfl) ?_
  refine mm_get hx hb hT hown hz hm 16 (by decide) wd_751 rfl (v := .int (sc 16)) rfl dX9_waits_5 ?_
  refine fw_top (e16) ?_
  refine lv_iload_n hx hb dX9_waits_8 rfl (lv_at hl 1 rfl) ?_
  refine mm_ast hx hb hz hm 17 (nJ) (by decide) rfl (show nJ < 96 by omega) dX9_waits_9 (fun F1 H locs hm => ?_)
  refine lv_aload_n hx hb dX9_waits_10 rfl (lv_at hl 0 rfl) ?_
  refine mm_get hx hb hT hown hz hm 18 (by decide) wd_753 rfl (v := .ref (ad 18)) rfl dX9_waits_11 ?_
  refine lv_aload_n hx hb dX9_waits_14 rfl (lv_at hl 0 rfl) ?_
  refine mm_get hx hb hT hown hz hm 16 (by decide) wd_751 rfl (v := .int (sc 16)) rfl dX9_waits_15 ?_
  refine fw_top (e16) ?_
  refine lv_aload_n hx hb dX9_waits_18 rfl (lv_at hl 0 rfl) ?_
  refine lv_iload_n hx hb dX9_waits_19 rfl (lv_at hl 2 rfl) ?_
  refine lv_iload_n hx hb dX9_waits_20 rfl (lv_at hl 3 rfl) ?_
  refine mm_calli (As := [.int mo, .int te]) (rest := [.int (nI nJ), .ref (ad 18)]) C hz hm (c_X9_cutter l G _ _ y ad _ _ nC mo te hm.2.1 e1 hC) wd_828 yVX9_cutter ⟨Nat.le_of_ble_eq_true rfl, Nat.le_of_ble_eq_true rfl⟩ rfl hl.1 rfl (Nat.le_of_ble_eq_true rfl) dX9_waits_21 ⟨Nat.le_of_ble_eq_true rfl, Nat.le_of_ble_eq_true rfl⟩ (fun r sc1 f1 F1 H locs hm hp => ?_)
  refine W.widen (k := 0) (n := 0) (Nat.le_of_ble_eq_true rfl) (Nat.le_of_ble_eq_true rfl) ?_
  obtain ⟨h7, h8, h9⟩ := hp
  rw [h7, h8] at hm
  subst h9
  refine fw_top (x' := (rf_cut f nC mo te)) (rf_cut_cong rfl rfl rfl) ?_
  refine mm_ast hx hb hz hm 18 (nJ) (by decide) rfl (show nJ < 96 by omega) dX9_waits_24 (fun F1 H locs hm => ?_)
  refine lv_aload_n hx hb dX9_waits_25 rfl (lv_at hl 0 rfl) ?_
  refine mm_get hx hb hT hown hz hm 19 (by decide) wd_754 rfl (v := .ref (ad 19)) rfl dX9_waits_26 ?_
  refine lv_aload_n hx hb dX9_waits_29 rfl (lv_at hl 0 rfl) ?_
  refine mm_get hx hb hT hown hz hm 16 (by decide) wd_751 rfl (v := .int (sc 16)) rfl dX9_waits_30 ?_
  refine fw_top (e16) ?_
  refine lv_iload_n hx hb dX9_waits_33 rfl (lv_at hl 3 rfl) ?_
  refine mm_ast hx hb hz hm 19 (nJ) (by decide) rfl (show nJ < 96 by omega) dX9_waits_34 (fun F1 H locs hm => ?_)
  refine lv_aload_n hx hb dX9_waits_35 rfl (lv_at hl 0 rfl) ?_
  refine mm_get hx hb hT hown hz hm 20 (by decide) wd_755 rfl (v := .ref (ad 20)) rfl dX9_waits_36 ?_
  refine lv_aload_n hx hb dX9_waits_39 rfl (lv_at hl 0 rfl) ?_
  refine mm_get hx hb hT hown hz hm 16 (by decide) wd_751 rfl (v := .int (sc 16)) rfl dX9_waits_40 ?_
  refine fw_top (e16) ?_
  refine lv_iconst (v := (-1)) hx hb dX9_waits_43 (by decide) ?_
  refine mm_ast hx hb hz hm 20 (nJ) (by decide) rfl (show nJ < 96 by omega) dX9_waits_44 (fun F1 H locs hm => ?_)
  refine lv_aload_n hx hb dX9_waits_45 rfl (lv_at hl 0 rfl) ?_
  refine lv_dup hx hb dX9_waits_46 rfl ?_
  refine mm_get hx hb hT hown hz hm 16 (by decide) wd_751 rfl (v := .int (sc 16)) rfl dX9_waits_47 ?_
  refine fw_top (e16) ?_
  refine lv_iconst (v := (nI 1)) hx hb dX9_waits_50 (by decide) ?_
  refine lv_iadd hx hb dX9_waits_51 ?_
  refine fw_top (nI_add _ _) ?_
  refine mm_put hx hb hT hown hz hm 16 (by decide) wd_751 dX9_waits_52 (fun F1 H locs hm => ?_)
  exact mm_vret hx hb hr hlk (Nat.le_of_ble_eq_true rfl) (Nat.le_of_ble_eq_true rfl) hm dX9_waits_55 (⟨rfl, rfl⟩)
set_option maxHeartbeats 4000000 in
set_option maxRecDepth 100000 in
theorem c_X9_order (l : Launch) (G : fw_G) (F : fw_F) (sz y : Nat) (ad : Nat → Nat) (sc : mm_S) (f : mm_A) (nC nT nO nJ : Nat) (t : Int32) (hW : mm_W G F y ad sc f) (e7 : sc 7 = nI nT) (hn : nT ≤ 8) (htok : ∀ j, j < nT → rf_tok f j) (e11 : sc 11 = nI nO) (hO : nO ≤ 12) (e16 : sc 16 = nI nJ) (hJ : nJ ≤ 8 * nO) (e1 : sc 1 = nI nC) (hC : nC ≤ 10) : mm_Ci l G F sz y ad yX9_order cX9_order 4 (.int) { frames := 3, cells := 0, slots := 0, locals := 69 } [.int t] (fun r sc1 f1 => (rf_ix t nT = false → f1 = f ∧ sc1 = va_up sc 0 (nI 1)) ∧ (rf_ix t nT = true → nO = 12 → f1 = f ∧ sc1 = va_up sc 0 (nI 2)) ∧ (∀ j, j < nT → t = nI j → nO < 12 → sc1 = va_up (va_up (va_up sc 0 (nI 0)) 16 (nI (nJ + 2 * rf_sm f j))) 11 (nI (nO + 1)) ∧ f1 = va_up (va_up (rf_ordJ f nC nJ nO j (rf_sm f j)) 12 (upd (f 12) nO (nI j))) 13 (upd (f 13) nO (-1)) ∧ r = nI nO)) := by
  refine fw_met (lv := [(0, .ref y), (1, .int t)]) (by decide +kernel) (Nat.le_of_ble_eq_true rfl) rfl ?_
  intro A hA p e s m below meth c ls hx hb hml hown hT hr hlk hin hz hsz hw hAn hl
  rw [← hA]
  have hown : s.vm.findClass RX9 = some m.cls := hown
  have C : CallFix p m c cX9_order 4 s _ fw_tb RX9 := ⟨hx, hb, hml, hown, hT⟩
  have hm : mm_M G A s F y ad sc f F s.heap [] := ⟨hw, hW, mm_keep.rf⟩
  refine lv_aload_n hx hb dX9_order_0 rfl (lv_at hl 0 rfl) ?_
  refine lv_aload_n hx hb dX9_order_1 rfl (lv_at hl 0 rfl) ?_
  refine lv_iload_n hx hb dX9_order_2 rfl (lv_at hl 1 rfl) ?_
  refine mm_calli (As := [.int t]) (rest := [.ref y]) C hz hm (c_X9_isTrain l G _ _ y ad _ _ nT t hm.2.1 e7) wd_852 yVX9_isTrain ⟨Nat.le_of_ble_eq_true rfl, Nat.le_of_ble_eq_true rfl⟩ rfl hl.1 rfl (Nat.le_of_ble_eq_true rfl) dX9_order_3 ⟨Nat.le_of_ble_eq_true rfl, Nat.le_of_ble_eq_true rfl⟩ (fun r sc1 f1 F1 H locs hm hp => ?_)
  refine W.widen (k := 0) (n := 0) (Nat.le_of_ble_eq_true rfl) (Nat.le_of_ble_eq_true rfl) ?_
  obtain ⟨h7, h8, h9⟩ := hp
  rw [h7, h8] at hm
  subst h9
  refine lv_if_ne (tgt := 13) hx hb dX9_order_6 (by decide) (fun h1 => ?_) (fun h1 => ?_)
  · have h1 := fw_b1 h1
    refine lv_aload_n hx hb dX9_order_13 rfl (lv_at hl 0 rfl) ?_
    refine mm_get hx hb hT hown hz hm 11 (by decide) wd_746 rfl (v := .int (sc 11)) rfl dX9_order_14 ?_
    refine fw_top (e11) ?_
    refine lv_bipush (v := (nI 12)) hx hb dX9_order_17 (by decide) ?_
    refine lv_icmp_ne (tgt := 26) hx hb dX9_order_19 (by decide) (fun d => ?_) (fun d => ?_)
    · have d : ¬ nO = 12 := fun h9 => d ((nI_eq (a := nO) (b := 12) (by omega) (by omega)).mpr h9)
      obtain ⟨j, hj, rfl⟩ := rf_ix_t (by omega) h1
      have h4 := htok j hj
      have h5 := h4.2.2.1
      refine lv_iconst (v := (nI 0)) hx hb dX9_order_26 (by decide) ?_
      refine mm_put hx hb hT hown hz hm 0 (by decide) wd_735 dX9_order_27 (fun F1 H locs hm => ?_)
      refine lv_aload_n hx hb dX9_order_30 rfl (lv_at hl 0 rfl) ?_
      refine mm_get hx hb hT hown hz hm 0 (by decide) wd_735 rfl (v := .int (nI 0)) rfl dX9_order_31 ?_
      refine lv_if_le (tgt := 39) hx hb dX9_order_34 (by decide) (fun cx => ?_) (fun cx => absurd cx (by decide))
      refine lv_iconst (v := (nI 0)) hx hb dX9_order_39 (by decide) ?_
      refine lv_istore_n (lv' := [(2, .int (nI 0)), (0, .ref y), (1, .int (nI j))]) hx hb dX9_order_40 rfl hl (by decide) rfl (fun ls hl => ?_)
      rw [bx_uu, show va_up sc 0 (nI 0) = va_up (va_up sc 0 (nI 0)) 16 (nI (nJ + 2 * 0)) from (va_up_same (f := va_up sc 0 (nI 0)) (k := 16) (v := nI (nJ + 2 * 0)) e16).symm] at hm
      suffices hlp : ∀ (d k : Nat), k + d = rf_sm f j →  ∀ (F1 : fw_F) (H : Heap) (locs : List Loc) (ls : Array Slot), mm_M G A s F y ad (va_up (va_up sc 0 (nI 0)) 16 (nI (nJ + 2 * k))) (rf_ordJ f nC nJ nO j k) F1 H locs → lv_has ls 4 [(2, .int (nI k)), (0, .ref y), (1, .int (nI j))] → W p l e { frames := 3, cells := 0, slots := 0, locals := 69 } s m ([.ref y, .int (nI j)] : List Value).toArray below meth c H locs 0 0 (MQ below (va_Qi (mm_post G y ad F (fun r sc1 f1 => (rf_ix (nI j) nT = false → f1 = f ∧ sc1 = va_up sc 0 (nI 1)) ∧ (rf_ix (nI j) nT = true → nO = 12 → f1 = f ∧ sc1 = va_up sc 0 (nI 2)) ∧ (∀ i, i < nT → nI j = nI i → nO < 12 → sc1 = va_up (va_up (va_up sc 0 (nI 0)) 16 (nI (nJ + 2 * rf_sm f i))) 11 (nI (nO + 1)) ∧ f1 = va_up (va_up (rf_ordJ f nC nJ nO i (rf_sm f i)) 12 (upd (f 12) nO (nI i))) 13 (upd (f 13) nO (-1)) ∧ r = nI nO))) (fw_B G A) A) ([.ref y, .int (nI j)] : List Value).toArray s 0 0 A) (F0 m 41 ls []) by
        exact hlp (rf_sm f j) 0  (Nat.zero_add _)  _ _ _ _ hm (lv_sub hl [0, 1, 2] rfl)
      intro d
      induction d with
      | zero =>
        intro k  hk  F1 H locs ls hm hl
        obtain ⟨o9, o8, o12, o13⟩ := rf_ordJ_9 f nC nJ nO j k
        have hkk : k = rf_sm f j := by omega
        refine lv_iload_n hx hb dX9_order_41 rfl (lv_at hl 0 rfl) ?_
        refine lv_aload_n hx hb dX9_order_42 rfl (lv_at hl 1 rfl) ?_
        refine mm_get hx hb hT hown hz hm 8 (by decide) wd_743 rfl (v := .ref (ad 8)) rfl dX9_order_43 ?_
        refine lv_iload_n hx hb dX9_order_46 rfl (lv_at hl 2 rfl) ?_
        refine mm_ald hx hb hz hm 8 (j) (by decide) rfl (show j < 8 by omega) dX9_order_47 ?_
        refine fw_top (x' := (nI (rf_sm f j))) (by rw [o8]; exact h4.1) ?_
        refine lv_icmp_ge (tgt := 110) hx hb dX9_order_48 (by decide) (fun g => ?_) (fun g => ?_)
        · have g := (nI_leI (a := rf_sm f j) (b := k) (by omega) (by omega)).mp g
          have hd12 : nO < 12 := by omega
          refine lv_aload_n hx hb dX9_order_110 rfl (lv_at hl 1 rfl) ?_
          refine mm_get hx hb hT hown hz hm 12 (by decide) wd_747 rfl (v := .ref (ad 12)) rfl dX9_order_111 ?_
          refine lv_aload_n hx hb dX9_order_114 rfl (lv_at hl 1 rfl) ?_
          refine mm_get hx hb hT hown hz hm 11 (by decide) wd_746 rfl (v := .int ((va_up (va_up sc 0 (nI 0)) 16 (nI (nJ + 2 * k))) 11)) rfl dX9_order_115 ?_
          refine fw_top (e11) ?_
          refine lv_iload_n hx hb dX9_order_118 rfl (lv_at hl 2 rfl) ?_
          refine mm_ast hx hb hz hm 12 (nO) (by decide) rfl (show nO < 12 by omega) dX9_order_119 (fun F1 H locs hm => ?_)
          refine lv_aload_n hx hb dX9_order_120 rfl (lv_at hl 1 rfl) ?_
          refine mm_get hx hb hT hown hz hm 13 (by decide) wd_748 rfl (v := .ref (ad 13)) rfl dX9_order_121 ?_
          refine lv_aload_n hx hb dX9_order_124 rfl (lv_at hl 1 rfl) ?_
          refine mm_get hx hb hT hown hz hm 11 (by decide) wd_746 rfl (v := .int ((va_up (va_up sc 0 (nI 0)) 16 (nI (nJ + 2 * k))) 11)) rfl dX9_order_125 ?_
          refine fw_top (e11) ?_
          refine lv_iconst (v := (-1)) hx hb dX9_order_128 (by decide) ?_
          refine mm_ast hx hb hz hm 13 (nO) (by decide) rfl (show nO < 12 by omega) dX9_order_129 (fun F1 H locs hm => ?_)
          refine lv_aload_n hx hb dX9_order_130 rfl (lv_at hl 1 rfl) ?_
          refine lv_dup hx hb dX9_order_131 rfl ?_
          refine mm_get hx hb hT hown hz hm 11 (by decide) wd_746 rfl (v := .int ((va_up (va_up sc 0 (nI 0)) 16 (nI (nJ + 2 * k))) 11)) rfl dX9_order_132 ?_
          refine fw_top (e11) ?_
          refine lv_iconst (v := (nI 1)) hx hb dX9_order_135 (by decide) ?_
          refine lv_iadd hx hb dX9_order_136 ?_
          refine fw_top (nI_add _ _) ?_
          refine mm_put hx hb hT hown hz hm 11 (by decide) wd_746 dX9_order_137 (fun F1 H locs hm => ?_)
          refine lv_aload_n hx hb dX9_order_140 rfl (lv_at hl 1 rfl) ?_
          refine mm_get hx hb hT hown hz hm 11 (by decide) wd_746 rfl (v := .int (nI (nO + 1))) rfl dX9_order_141 ?_
          refine lv_iconst (v := (nI 1)) hx hb dX9_order_144 (by decide) ?_
          refine lv_isub hx hb dX9_order_145 ?_
          refine fw_top (pk_sub (by omega)) ?_
          exact mm_iret hx hb hr hlk (Nat.le_of_ble_eq_true rfl) (Nat.le_of_ble_eq_true rfl) hm dX9_order_146 (⟨fun h => absurd h (by rw [h1]; decide), fun _ h => absurd h d, fun i g1 g2 _ => by obtain rfl := nI_j (by omega) (by omega) g2; subst hkk; exact ⟨rfl, by rw [← o12, ← o13]; rfl, by rw [Nat.add_sub_cancel]⟩⟩)
        · have g : ¬ (rf_sm f j) ≤ k := fun h9 => g ((nI_leI (a := rf_sm f j) (b := k) (by omega) (by omega)).mpr h9)
          omega
      | succ d ih =>
        intro k  hk  F1 H locs ls hm hl
        obtain ⟨o9, o8, o12, o13⟩ := rf_ordJ_9 f nC nJ nO j k
        refine lv_iload_n hx hb dX9_order_41 rfl (lv_at hl 0 rfl) ?_
        refine lv_aload_n hx hb dX9_order_42 rfl (lv_at hl 1 rfl) ?_
        refine mm_get hx hb hT hown hz hm 8 (by decide) wd_743 rfl (v := .ref (ad 8)) rfl dX9_order_43 ?_
        refine lv_iload_n hx hb dX9_order_46 rfl (lv_at hl 2 rfl) ?_
        refine mm_ald hx hb hz hm 8 (j) (by decide) rfl (show j < 8 by omega) dX9_order_47 ?_
        refine fw_top (x' := (nI (rf_sm f j))) (by rw [o8]; exact h4.1) ?_
        refine lv_icmp_ge (tgt := 110) hx hb dX9_order_48 (by decide) (fun g => ?_) (fun g => ?_)
        · have g := (nI_leI (a := rf_sm f j) (b := k) (by omega) (by omega)).mp g
          omega
        · have g : ¬ (rf_sm f j) ≤ k := fun h9 => g ((nI_leI (a := rf_sm f j) (b := k) (by omega) (by omega)).mpr h9)
          have hkk : k < rf_sm f j := by omega
          have hd12 : nO < 12 := by omega
          refine lv_bipush (v := (nI 12)) hx hb dX9_order_51 (by decide) ?_
          refine lv_iload_n hx hb dX9_order_53 rfl (lv_at hl 2 rfl) ?_
          refine lv_imul hx hb dX9_order_54 ?_
          refine fw_top (pk_mul _ _) ?_
          refine lv_iconst (v := (nI 3)) hx hb dX9_order_55 (by decide) ?_
          refine lv_iload_n hx hb dX9_order_56 rfl (lv_at hl 0 rfl) ?_
          refine lv_imul hx hb dX9_order_57 ?_
          refine fw_top (pk_mul _ _) ?_
          refine lv_iadd hx hb dX9_order_58 ?_
          refine fw_top (nI_add _ _) ?_
          refine lv_istore_n (lv' := [(3, .int (nI ((12 * j) + (3 * k)))), (2, .int (nI k)), (0, .ref y), (1, .int (nI j))]) hx hb dX9_order_59 rfl hl (by decide) rfl (fun ls hl => ?_)
          refine lv_aload_n hx hb dX9_order_60 rfl (lv_at hl 2 rfl) ?_
          refine lv_aload_n hx hb dX9_order_61 rfl (lv_at hl 2 rfl) ?_
          refine mm_get hx hb hT hown hz hm 11 (by decide) wd_746 rfl (v := .int ((va_up (va_up sc 0 (nI 0)) 16 (nI (nJ + 2 * k))) 11)) rfl dX9_order_62 ?_
          refine fw_top (e11) ?_
          refine lv_aload_n hx hb dX9_order_65 rfl (lv_at hl 2 rfl) ?_
          refine mm_get hx hb hT hown hz hm 9 (by decide) wd_744 rfl (v := .ref (ad 9)) rfl dX9_order_66 ?_
          refine lv_iload_n hx hb dX9_order_69 rfl (lv_at hl 0 rfl) ?_
          refine mm_ald hx hb hz hm 9 ((12 * j) + (3 * k)) (by decide) rfl (show (12 * j) + (3 * k) < 96 by omega) dX9_order_70 ?_
          refine fw_top (x' := (f 9 (12 * j + 3 * k))) (by show rf_ordJ f nC nJ nO j k 9 _ = _; rw [o9]) ?_
          refine lv_aload_n hx hb dX9_order_71 rfl (lv_at hl 2 rfl) ?_
          refine mm_get hx hb hT hown hz hm 9 (by decide) wd_744 rfl (v := .ref (ad 9)) rfl dX9_order_72 ?_
          refine lv_iload_n hx hb dX9_order_75 rfl (lv_at hl 0 rfl) ?_
          refine lv_iconst (v := (nI 1)) hx hb dX9_order_76 (by decide) ?_
          refine lv_iadd hx hb dX9_order_77 ?_
          refine fw_top (nI_add _ _) ?_
          refine mm_ald hx hb hz hm 9 (((12 * j) + (3 * k)) + 1) (by decide) rfl (show ((12 * j) + (3 * k)) + 1 < 96 by omega) dX9_order_78 ?_
          refine fw_top (x' := (f 9 (12 * j + 3 * k + 1))) (by show rf_ordJ f nC nJ nO j k 9 _ = _; rw [o9]) ?_
          refine mm_callv (As := [.int (nI nO), .int (f 9 (12 * j + 3 * k)), .int (f 9 (12 * j + 3 * k + 1))]) (rest := []) C hz hm (c_X9_waits l G _ _ y ad _ _ (nJ + 2 * k) nC (nI nO) (f 9 (12 * j + 3 * k)) (f 9 (12 * j + 3 * k + 1)) hm.2.1 rfl (by omega) e1 hC) wd_881 yVX9_waits ⟨Nat.le_of_ble_eq_true rfl, Nat.le_of_ble_eq_true rfl⟩ rfl hl.1 rfl (Nat.le_of_ble_eq_true rfl) dX9_order_79 ⟨Nat.le_of_ble_eq_true rfl, Nat.le_of_ble_eq_true rfl⟩ (fun sc1 f1 F1 H locs hm hp => ?_)
          refine W.widen (k := 0) (n := 0) (Nat.le_of_ble_eq_true rfl) (Nat.le_of_ble_eq_true rfl) ?_
          obtain ⟨h7, h8⟩ := hp
          rw [h7, h8, bx_uu] at hm
          refine lv_aload_n hx hb dX9_order_82 rfl (lv_at hl 2 rfl) ?_
          refine lv_aload_n hx hb dX9_order_83 rfl (lv_at hl 2 rfl) ?_
          refine mm_get hx hb hT hown hz hm 11 (by decide) wd_746 rfl (v := .int ((va_up (va_up sc 0 (nI 0)) 16 (nI (nJ + 2 * k + 1))) 11)) rfl dX9_order_84 ?_
          refine fw_top (e11) ?_
          refine lv_aload_n hx hb dX9_order_87 rfl (lv_at hl 2 rfl) ?_
          refine mm_get hx hb hT hown hz hm 9 (by decide) wd_744 rfl (v := .ref (ad 9)) rfl dX9_order_88 ?_
          refine lv_iload_n hx hb dX9_order_91 rfl (lv_at hl 0 rfl) ?_
          refine mm_ald hx hb hz hm 9 ((12 * j) + (3 * k)) (by decide) rfl (show (12 * j) + (3 * k) < 96 by omega) dX9_order_92 ?_
          refine fw_top (x' := (f 9 (12 * j + 3 * k))) (by show rf_ordJ f nC nJ nO j k 9 _ = _; rw [o9]) ?_
          refine lv_aload_n hx hb dX9_order_93 rfl (lv_at hl 2 rfl) ?_
          refine mm_get hx hb hT hown hz hm 9 (by decide) wd_744 rfl (v := .ref (ad 9)) rfl dX9_order_94 ?_
          refine lv_iload_n hx hb dX9_order_97 rfl (lv_at hl 0 rfl) ?_
          refine lv_iconst (v := (nI 2)) hx hb dX9_order_98 (by decide) ?_
          refine lv_iadd hx hb dX9_order_99 ?_
          refine fw_top (nI_add _ _) ?_
          refine mm_ald hx hb hz hm 9 (((12 * j) + (3 * k)) + 2) (by decide) rfl (show ((12 * j) + (3 * k)) + 2 < 96 by omega) dX9_order_100 ?_
          refine fw_top (x' := (f 9 (12 * j + 3 * k + 2))) (by show rf_ordJ f nC nJ nO j k 9 _ = _; rw [o9]) ?_
          refine mm_callv (As := [.int (nI nO), .int (f 9 (12 * j + 3 * k)), .int (f 9 (12 * j + 3 * k + 2))]) (rest := []) C hz hm (c_X9_waits l G _ _ y ad _ _ (nJ + 2 * k + 1) nC (nI nO) (f 9 (12 * j + 3 * k)) (f 9 (12 * j + 3 * k + 2)) hm.2.1 rfl (by omega) e1 hC) wd_881 yVX9_waits ⟨Nat.le_of_ble_eq_true rfl, Nat.le_of_ble_eq_true rfl⟩ rfl hl.1 rfl (Nat.le_of_ble_eq_true rfl) dX9_order_101 ⟨Nat.le_of_ble_eq_true rfl, Nat.le_of_ble_eq_true rfl⟩ (fun sc1 f1 F1 H locs hm hp => ?_)
          refine W.widen (k := 0) (n := 0) (Nat.le_of_ble_eq_true rfl) (Nat.le_of_ble_eq_true rfl) ?_
          obtain ⟨h7, h8⟩ := hp
          rw [h7, h8, bx_uu] at hm
          rw [show nJ + 2 * k + 1 + 1 = nJ + 2 * (k + 1) by omega, ← rf_ordJ_s] at hm
          refine lv_iinc (v := (nI (k + 1))) (lv' := [(2, .int (nI (k + 1))), (3, .int (nI ((12 * j) + (3 * k)))), (0, .ref y), (1, .int (nI j))]) hx hb dX9_order_104 hl (k := 1) rfl (nI_1 _) (by decide) rfl (fun ls hl => ?_)
          refine lv_goto (tgt := 41) hx hb dX9_order_107 (by decide) ?_
          exact ih (k + 1)  (by omega)  _ _ _ _ hm (lv_sub hl [0, 2, 3] rfl)
    · have d := (nI_eq (a := nO) (b := 12) (by omega) (by omega)).mp d
      refine lv_iconst (v := (nI 2)) hx hb dX9_order_22 (by decide) ?_
      refine lv_goto (tgt := 27) hx hb dX9_order_23 (by decide) ?_
      refine mm_put hx hb hT hown hz hm 0 (by decide) wd_735 dX9_order_27 (fun F1 H locs hm => ?_)
      refine lv_aload_n hx hb dX9_order_30 rfl (lv_at hl 0 rfl) ?_
      refine mm_get hx hb hT hown hz hm 0 (by decide) wd_735 rfl (v := .int (nI 2)) rfl dX9_order_31 ?_
      refine lv_if_le (tgt := 39) hx hb dX9_order_34 (by decide) (fun cx => absurd cx (by decide)) (fun cx => ?_)
      refine lv_iconst (v := (nI 0)) hx hb dX9_order_37 (by decide) ?_
      exact mm_iret hx hb hr hlk (Nat.le_of_ble_eq_true rfl) (Nat.le_of_ble_eq_true rfl) hm dX9_order_38 (⟨fun h => absurd h (by rw [h1]; decide), fun _ _ => ⟨rfl, bx_uu _ _ _ _⟩, fun i g1 g2 g3 => absurd g3 (by omega)⟩)
  · have h1 := fw_b0 h1
    refine lv_iconst (v := (nI 1)) hx hb dX9_order_9 (by decide) ?_
    refine lv_goto (tgt := 27) hx hb dX9_order_10 (by decide) ?_
    refine mm_put hx hb hT hown hz hm 0 (by decide) wd_735 dX9_order_27 (fun F1 H locs hm => ?_)
    refine lv_aload_n hx hb dX9_order_30 rfl (lv_at hl 0 rfl) ?_
    refine mm_get hx hb hT hown hz hm 0 (by decide) wd_735 rfl (v := .int (nI 1)) rfl dX9_order_31 ?_
    refine lv_if_le (tgt := 39) hx hb dX9_order_34 (by decide) (fun cx => absurd cx (by decide)) (fun cx => ?_)
    refine lv_iconst (v := (nI 0)) hx hb dX9_order_37 (by decide) ?_
    exact mm_iret hx hb hr hlk (Nat.le_of_ble_eq_true rfl) (Nat.le_of_ble_eq_true rfl) hm dX9_order_38 (⟨fun _ => ⟨rfl, bx_uu _ _ _ _⟩, fun h => absurd h (by rw [h1]; decide), fun i g1 g2 => absurd (rf_in_of (by omega) g1 g2) (by rw [h1]; decide)⟩)
set_option maxHeartbeats 4000000 in
set_option maxRecDepth 100000 in
theorem c_X9_make (l : Launch) (G : fw_G) (F : fw_F) (sz y : Nat) (ad : Nat → Nat) (sc : mm_S) (f : mm_A) (nC nD nT : Nat) (ds : Int32) (hW : mm_W G F y ad sc f) (e7 : sc 7 = nI nT) (hn : nT ≤ 8) (e5 : sc 5 = nI nD) (hD : nD ≤ 4) (e1 : sc 1 = nI nC) (hC : nC ≤ 10) : mm_Ci l G F sz y ad yX9_make cX9_make 4 (.int) { frames := 2, cells := 0, slots := 0, locals := 46 } [.int ds] (fun r sc1 f1 => (rf_cans f nC (rf_can0 f nD nT ds) nD = false → f1 = f ∧ sc1 = va_up sc 0 (nI 1)) ∧ (rf_cans f nC (rf_can0 f nD nT ds) nD = true → sc1 = va_up (va_up (va_up sc 0 (nI 0)) 5 (nI 0)) 7 (nI (nT + 1)) ∧ f1 = va_up (va_up f 9 (rf_copy f nT (3 * nD))) 8 (upd (f 8) nT (nI nD)) ∧ r = nI nT)) := by
  refine fw_met (lv := [(0, .ref y), (1, .int ds)]) (by decide +kernel) (Nat.le_of_ble_eq_true rfl) rfl ?_
  intro A hA p e s m below meth c ls hx hb hml hown hT hr hlk hin hz hsz hw hAn hl
  rw [← hA]
  have hown : s.vm.findClass RX9 = some m.cls := hown
  have C : CallFix p m c cX9_make 4 s _ fw_tb RX9 := ⟨hx, hb, hml, hown, hT⟩
  have hm : mm_M G A s F y ad sc f F s.heap [] := ⟨hw, hW, mm_keep.rf⟩
  have hJ : ∀ (F1 : fw_F) (H : Heap) (locs : List Loc) (ls : Array Slot), mm_M G A s F y ad sc f F1 H locs → lv_has ls 4 [(2, .int (fw_b (rf_can0 f nD nT ds))), (0, .ref y), (1, .int ds)] → W p l e { frames := 2, cells := 0, slots := 0, locals := 46 } s m ([.ref y, .int ds] : List Value).toArray below meth c H locs 0 0 (MQ below (va_Qi (mm_post G y ad F (fun r sc1 f1 => (rf_cans f nC (rf_can0 f nD nT ds) nD = false → f1 = f ∧ sc1 = va_up sc 0 (nI 1)) ∧ (rf_cans f nC (rf_can0 f nD nT ds) nD = true → sc1 = va_up (va_up (va_up sc 0 (nI 0)) 5 (nI 0)) 7 (nI (nT + 1)) ∧ f1 = va_up (va_up f 9 (rf_copy f nT (3 * nD))) 8 (upd (f 8) nT (nI nD)) ∧ r = nI nT))) (fw_B G A) A) ([.ref y, .int ds] : List Value).toArray s 0 0 A) (F0 m 30 ls []) := by
    intro F1 H locs ls hm hl
    refine lv_iconst (v := (nI 0)) hx hb dX9_make_30 (by decide) ?_
    refine lv_istore_n (lv' := [(3, .int (nI 0)), (2, .int (fw_b (rf_can0 f nD nT ds))), (0, .ref y), (1, .int ds)]) hx hb dX9_make_31 rfl hl (by decide) rfl (fun ls hl => ?_)
    suffices hlp : ∀ (d k : Nat), k + d = nD →  ∀ (F1 : fw_F) (H : Heap) (locs : List Loc) (ls : Array Slot), mm_M G A s F y ad sc f F1 H locs → lv_has ls 4 [(3, .int (nI k)), (2, .int (fw_b (rf_cans f nC (rf_can0 f nD nT ds) k))), (0, .ref y), (1, .int ds)] → W p l e { frames := 2, cells := 0, slots := 0, locals := 46 } s m ([.ref y, .int ds] : List Value).toArray below meth c H locs 0 0 (MQ below (va_Qi (mm_post G y ad F (fun r sc1 f1 => (rf_cans f nC (rf_can0 f nD nT ds) nD = false → f1 = f ∧ sc1 = va_up sc 0 (nI 1)) ∧ (rf_cans f nC (rf_can0 f nD nT ds) nD = true → sc1 = va_up (va_up (va_up sc 0 (nI 0)) 5 (nI 0)) 7 (nI (nT + 1)) ∧ f1 = va_up (va_up f 9 (rf_copy f nT (3 * nD))) 8 (upd (f 8) nT (nI nD)) ∧ r = nI nT))) (fw_B G A) A) ([.ref y, .int ds] : List Value).toArray s 0 0 A) (F0 m 32 ls []) by
      exact hlp nD 0  (Nat.zero_add _)  _ _ _ _ hm (lv_sub hl [0, 1, 2, 3] rfl)
    intro d
    induction d with
    | zero =>
      intro k  hk  F1 H locs ls hm hl
      obtain rfl : k = nD := by omega
      refine lv_iload_n hx hb dX9_make_32 rfl (lv_at hl 0 rfl) ?_
      refine lv_aload_n hx hb dX9_make_33 rfl (lv_at hl 2 rfl) ?_
      refine mm_get hx hb hT hown hz hm 5 (by decide) wd_740 rfl (v := .int (sc 5)) rfl dX9_make_34 ?_
      refine fw_top (e5) ?_
      refine lv_icmp_ge (tgt := 108) hx hb dX9_make_37 (by decide) (fun g => ?_) (fun g => ?_)
      · have g := (nI_leI (a := k) (b := k) (by omega) (by omega)).mp g
        refine lv_aload_n hx hb dX9_make_108 rfl (lv_at hl 2 rfl) ?_
        refine lv_iload_n hx hb dX9_make_109 rfl (lv_at hl 1 rfl) ?_
        refine lv_if_eq (tgt := 117) hx hb dX9_make_110 (by decide) (fun hc => ?_) (fun hc => ?_)
        · have hc := fw_b0 hc
          refine lv_iconst (v := (nI 1)) hx hb dX9_make_117 (by decide) ?_
          refine mm_put hx hb hT hown hz hm 0 (by decide) wd_735 dX9_make_118 (fun F1 H locs hm => ?_)
          refine lv_aload_n hx hb dX9_make_121 rfl (lv_at hl 2 rfl) ?_
          refine mm_get hx hb hT hown hz hm 0 (by decide) wd_735 rfl (v := .int (nI 1)) rfl dX9_make_122 ?_
          refine lv_if_le (tgt := 130) hx hb dX9_make_125 (by decide) (fun cx => absurd cx (by decide)) (fun cx => ?_)
          refine lv_iconst (v := (nI 0)) hx hb dX9_make_128 (by decide) ?_
          exact mm_iret hx hb hr hlk (Nat.le_of_ble_eq_true rfl) (Nat.le_of_ble_eq_true rfl) hm dX9_make_129 (⟨fun _ => ⟨rfl, rfl⟩, fun h => absurd h (by rw [hc]; decide)⟩)
        · have hc := fw_b1 hc
          have hc8 : nT < 8 := by have h := rf_cans_t hc; simp [rf_can0] at h; exact h.2
          refine lv_iconst (v := (nI 0)) hx hb dX9_make_113 (by decide) ?_
          refine lv_goto (tgt := 118) hx hb dX9_make_114 (by decide) ?_
          refine mm_put hx hb hT hown hz hm 0 (by decide) wd_735 dX9_make_118 (fun F1 H locs hm => ?_)
          refine lv_aload_n hx hb dX9_make_121 rfl (lv_at hl 2 rfl) ?_
          refine mm_get hx hb hT hown hz hm 0 (by decide) wd_735 rfl (v := .int (nI 0)) rfl dX9_make_122 ?_
          refine lv_if_le (tgt := 130) hx hb dX9_make_125 (by decide) (fun cx => ?_) (fun cx => absurd cx (by decide))
          refine lv_iconst (v := (nI 0)) hx hb dX9_make_130 (by decide) ?_
          refine lv_istore_n (lv' := [(3, .int (nI 0)), (2, .int (fw_b (rf_cans f nC (rf_can0 f k nT ds) k))), (0, .ref y), (1, .int ds)]) hx hb dX9_make_131 rfl hl (by decide) rfl (fun ls hl => ?_)
          have hm := Eq.mp (congrArg (fun z => mm_M G A s F y ad (va_up sc 0 (nI 0)) z F1 H locs) (show f = va_up f 9 (rf_copy f nT 0) from (va_up_same rfl).symm)) hm
          suffices hlp : ∀ (d i : Nat), i + d = 3 * k →  ∀ (F1 : fw_F) (H : Heap) (locs : List Loc) (ls : Array Slot), mm_M G A s F y ad (va_up sc 0 (nI 0)) (va_up f 9 (rf_copy f nT i)) F1 H locs → lv_has ls 4 [(3, .int (nI i)), (0, .ref y), (1, .int ds)] → W p l e { frames := 2, cells := 0, slots := 0, locals := 46 } s m ([.ref y, .int ds] : List Value).toArray below meth c H locs 0 0 (MQ below (va_Qi (mm_post G y ad F (fun r sc1 f1 => (rf_cans f nC (rf_can0 f k nT ds) k = false → f1 = f ∧ sc1 = va_up sc 0 (nI 1)) ∧ (rf_cans f nC (rf_can0 f k nT ds) k = true → sc1 = va_up (va_up (va_up sc 0 (nI 0)) 5 (nI 0)) 7 (nI (nT + 1)) ∧ f1 = va_up (va_up f 9 (rf_copy f nT (3 * k))) 8 (upd (f 8) nT (nI k)) ∧ r = nI nT))) (fw_B G A) A) ([.ref y, .int ds] : List Value).toArray s 0 0 A) (F0 m 132 ls []) by
            exact hlp (3 * k) 0  (Nat.zero_add _)  _ _ _ _ hm (lv_sub hl [0, 2, 3] rfl)
          intro d
          induction d with
          | zero =>
            intro i  hk  F1 H locs ls hm hl
            obtain rfl : i = 3 * k := by omega
            refine lv_iload_n hx hb dX9_make_132 rfl (lv_at hl 0 rfl) ?_
            refine lv_iconst (v := (nI 3)) hx hb dX9_make_133 (by decide) ?_
            refine lv_aload_n hx hb dX9_make_134 rfl (lv_at hl 1 rfl) ?_
            refine mm_get hx hb hT hown hz hm 5 (by decide) wd_740 rfl (v := .int ((va_up sc 0 (nI 0)) 5)) rfl dX9_make_135 ?_
            refine fw_top (e5) ?_
            refine lv_imul hx hb dX9_make_138 ?_
            refine fw_top (pk_mul _ _) ?_
            refine lv_icmp_ge (tgt := 168) hx hb dX9_make_139 (by decide) (fun g => ?_) (fun g => ?_)
            · have g := (nI_leI (a := 3 * k) (b := 3 * k) (by omega) (by omega)).mp g
              refine lv_aload_n hx hb dX9_make_168 rfl (lv_at hl 1 rfl) ?_
              refine mm_get hx hb hT hown hz hm 8 (by decide) wd_743 rfl (v := .ref (ad 8)) rfl dX9_make_169 ?_
              refine lv_aload_n hx hb dX9_make_172 rfl (lv_at hl 1 rfl) ?_
              refine mm_get hx hb hT hown hz hm 7 (by decide) wd_742 rfl (v := .int ((va_up sc 0 (nI 0)) 7)) rfl dX9_make_173 ?_
              refine fw_top (e7) ?_
              refine lv_aload_n hx hb dX9_make_176 rfl (lv_at hl 1 rfl) ?_
              refine mm_get hx hb hT hown hz hm 5 (by decide) wd_740 rfl (v := .int ((va_up sc 0 (nI 0)) 5)) rfl dX9_make_177 ?_
              refine fw_top (e5) ?_
              refine mm_ast hx hb hz hm 8 (nT) (by decide) rfl (show nT < 8 by omega) dX9_make_180 (fun F1 H locs hm => ?_)
              refine lv_aload_n hx hb dX9_make_181 rfl (lv_at hl 1 rfl) ?_
              refine lv_iconst (v := (nI 0)) hx hb dX9_make_182 (by decide) ?_
              refine mm_put hx hb hT hown hz hm 5 (by decide) wd_740 dX9_make_183 (fun F1 H locs hm => ?_)
              refine lv_aload_n hx hb dX9_make_186 rfl (lv_at hl 1 rfl) ?_
              refine lv_dup hx hb dX9_make_187 rfl ?_
              refine mm_get hx hb hT hown hz hm 7 (by decide) wd_742 rfl (v := .int ((va_up sc 0 (nI 0)) 7)) rfl dX9_make_188 ?_
              refine fw_top (e7) ?_
              refine lv_iconst (v := (nI 1)) hx hb dX9_make_191 (by decide) ?_
              refine lv_iadd hx hb dX9_make_192 ?_
              refine fw_top (nI_add _ _) ?_
              refine mm_put hx hb hT hown hz hm 7 (by decide) wd_742 dX9_make_193 (fun F1 H locs hm => ?_)
              refine lv_aload_n hx hb dX9_make_196 rfl (lv_at hl 1 rfl) ?_
              refine mm_get hx hb hT hown hz hm 7 (by decide) wd_742 rfl (v := .int (nI (nT + 1))) rfl dX9_make_197 ?_
              refine lv_iconst (v := (nI 1)) hx hb dX9_make_200 (by decide) ?_
              refine lv_isub hx hb dX9_make_201 ?_
              refine fw_top (pk_sub (by omega)) ?_
              exact mm_iret hx hb hr hlk (Nat.le_of_ble_eq_true rfl) (Nat.le_of_ble_eq_true rfl) hm dX9_make_202 (⟨fun h => absurd h (by rw [hc]; decide), fun _ => ⟨rfl, rfl, by rw [Nat.add_sub_cancel]⟩⟩)
            · have g : ¬ (3 * k) ≤ (3 * k) := fun h9 => g ((nI_leI (a := 3 * k) (b := 3 * k) (by omega) (by omega)).mpr h9)
              omega
          | succ d ih =>
            intro i  hk  F1 H locs ls hm hl
            refine lv_iload_n hx hb dX9_make_132 rfl (lv_at hl 0 rfl) ?_
            refine lv_iconst (v := (nI 3)) hx hb dX9_make_133 (by decide) ?_
            refine lv_aload_n hx hb dX9_make_134 rfl (lv_at hl 1 rfl) ?_
            refine mm_get hx hb hT hown hz hm 5 (by decide) wd_740 rfl (v := .int ((va_up sc 0 (nI 0)) 5)) rfl dX9_make_135 ?_
            refine fw_top (e5) ?_
            refine lv_imul hx hb dX9_make_138 ?_
            refine fw_top (pk_mul _ _) ?_
            refine lv_icmp_ge (tgt := 168) hx hb dX9_make_139 (by decide) (fun g => ?_) (fun g => ?_)
            · have g := (nI_leI (a := 3 * k) (b := i) (by omega) (by omega)).mp g
              omega
            · have g : ¬ (3 * k) ≤ i := fun h9 => g ((nI_leI (a := 3 * k) (b := i) (by omega) (by omega)).mpr h9)
              refine lv_aload_n hx hb dX9_make_142 rfl (lv_at hl 1 rfl) ?_
              refine mm_get hx hb hT hown hz hm 9 (by decide) wd_744 rfl (v := .ref (ad 9)) rfl dX9_make_143 ?_
              refine lv_bipush (v := (nI 12)) hx hb dX9_make_146 (by decide) ?_
              refine lv_aload_n hx hb dX9_make_148 rfl (lv_at hl 1 rfl) ?_
              refine mm_get hx hb hT hown hz hm 7 (by decide) wd_742 rfl (v := .int ((va_up sc 0 (nI 0)) 7)) rfl dX9_make_149 ?_
              refine fw_top (e7) ?_
              refine lv_imul hx hb dX9_make_152 ?_
              refine fw_top (pk_mul _ _) ?_
              refine lv_iload_n hx hb dX9_make_153 rfl (lv_at hl 0 rfl) ?_
              refine lv_iadd hx hb dX9_make_154 ?_
              refine fw_top (nI_add _ _) ?_
              refine lv_aload_n hx hb dX9_make_155 rfl (lv_at hl 1 rfl) ?_
              refine mm_get hx hb hT hown hz hm 6 (by decide) wd_741 rfl (v := .ref (ad 6)) rfl dX9_make_156 ?_
              refine lv_iload_n hx hb dX9_make_159 rfl (lv_at hl 0 rfl) ?_
              refine mm_ald hx hb hz hm 6 (i) (by decide) rfl (show i < 12 by omega) dX9_make_160 ?_
              refine mm_ast hx hb hz hm 9 ((12 * nT) + i) (by decide) rfl (show (12 * nT) + i < 96 by omega) dX9_make_161 (fun F1 H locs hm => ?_)
              rw [bx_uu] at hm
              refine lv_iinc (v := (nI (i + 1))) (lv' := [(3, .int (nI (i + 1))), (0, .ref y), (1, .int ds)]) hx hb dX9_make_162 hl (k := 0) rfl (nI_1 _) (by decide) rfl (fun ls hl => ?_)
              refine lv_goto (tgt := 132) hx hb dX9_make_165 (by decide) ?_
              exact ih (i + 1)  (by omega)  _ _ _ _ hm (lv_sub hl [0, 1, 2] rfl)
      · have g : ¬ k ≤ k := fun h9 => g ((nI_leI (a := k) (b := k) (by omega) (by omega)).mpr h9)
        omega
    | succ d ih =>
      intro k  hk  F1 H locs ls hm hl
      have hk4 : k < nD := by omega
      refine lv_iload_n hx hb dX9_make_32 rfl (lv_at hl 0 rfl) ?_
      refine lv_aload_n hx hb dX9_make_33 rfl (lv_at hl 2 rfl) ?_
      refine mm_get hx hb hT hown hz hm 5 (by decide) wd_740 rfl (v := .int (sc 5)) rfl dX9_make_34 ?_
      refine fw_top (e5) ?_
      refine lv_icmp_ge (tgt := 108) hx hb dX9_make_37 (by decide) (fun g => ?_) (fun g => ?_)
      · have g := (nI_leI (a := nD) (b := k) (by omega) (by omega)).mp g
        omega
      · have g : ¬ nD ≤ k := fun h9 => g ((nI_leI (a := nD) (b := k) (by omega) (by omega)).mpr h9)
        refine lv_iload_n hx hb dX9_make_40 rfl (lv_at hl 1 rfl) ?_
        refine lv_if_eq (tgt := 100) hx hb dX9_make_41 (by decide) (fun h2 => ?_) (fun h2 => ?_)
        · have h2 := fw_b0 h2
          refine lv_iconst (v := (nI 0)) hx hb dX9_make_100 (by decide) ?_
          refine fw_top (x' := (fw_b (rf_cans f nC (rf_can0 f nD nT ds) (k + 1)))) (by rw [rf_cans_s, h2]; rfl) ?_
          refine lv_istore_n (lv' := [(2, .int (fw_b (rf_cans f nC (rf_can0 f nD nT ds) (k + 1)))), (3, .int (nI k)), (0, .ref y), (1, .int ds)]) hx hb dX9_make_101 rfl hl (by decide) rfl (fun ls hl => ?_)
          refine lv_iinc (v := (nI (k + 1))) (lv' := [(3, .int (nI (k + 1))), (2, .int (fw_b (rf_cans f nC (rf_can0 f nD nT ds) (k + 1)))), (0, .ref y), (1, .int ds)]) hx hb dX9_make_102 hl (k := 1) rfl (nI_1 _) (by decide) rfl (fun ls hl => ?_)
          refine lv_goto (tgt := 32) hx hb dX9_make_105 (by decide) ?_
          exact ih (k + 1)  (by omega)  _ _ _ _ hm (lv_sub hl [0, 1, 2, 3] rfl)
        · have h2 := fw_b1 h2
          refine lv_aload_n hx hb dX9_make_44 rfl (lv_at hl 2 rfl) ?_
          refine lv_aload_n hx hb dX9_make_45 rfl (lv_at hl 2 rfl) ?_
          refine mm_get hx hb hT hown hz hm 6 (by decide) wd_741 rfl (v := .ref (ad 6)) rfl dX9_make_46 ?_
          refine lv_iconst (v := (nI 3)) hx hb dX9_make_49 (by decide) ?_
          refine lv_iload_n hx hb dX9_make_50 rfl (lv_at hl 0 rfl) ?_
          refine lv_imul hx hb dX9_make_51 ?_
          refine fw_top (pk_mul _ _) ?_
          refine mm_ald hx hb hz hm 6 (3 * k) (by decide) rfl (show 3 * k < 12 by omega) dX9_make_52 ?_
          refine lv_aload_n hx hb dX9_make_53 rfl (lv_at hl 2 rfl) ?_
          refine mm_get hx hb hT hown hz hm 6 (by decide) wd_741 rfl (v := .ref (ad 6)) rfl dX9_make_54 ?_
          refine lv_iconst (v := (nI 3)) hx hb dX9_make_57 (by decide) ?_
          refine lv_iload_n hx hb dX9_make_58 rfl (lv_at hl 0 rfl) ?_
          refine lv_imul hx hb dX9_make_59 ?_
          refine fw_top (pk_mul _ _) ?_
          refine lv_iconst (v := (nI 1)) hx hb dX9_make_60 (by decide) ?_
          refine lv_iadd hx hb dX9_make_61 ?_
          refine fw_top (nI_add _ _) ?_
          refine mm_ald hx hb hz hm 6 ((3 * k) + 1) (by decide) rfl (show (3 * k) + 1 < 12 by omega) dX9_make_62 ?_
          refine mm_calli (As := [.int (f 6 (3 * k)), .int (f 6 ((3 * k) + 1))]) (rest := []) C hz hm (c_X9_cutter l G _ _ y ad _ _ nC (f 6 (3 * k)) (f 6 (3 * k + 1)) hm.2.1 e1 hC) wd_828 yVX9_cutter ⟨Nat.le_of_ble_eq_true rfl, Nat.le_of_ble_eq_true rfl⟩ rfl hl.1 rfl (Nat.le_of_ble_eq_true rfl) dX9_make_63 ⟨Nat.le_of_ble_eq_true rfl, Nat.le_of_ble_eq_true rfl⟩ (fun r sc1 f1 F1 H locs hm hp => ?_)
          refine W.widen (k := 0) (n := 0) (Nat.le_of_ble_eq_true rfl) (Nat.le_of_ble_eq_true rfl) ?_
          obtain ⟨h7, h8, h9⟩ := hp
          rw [h7, h8] at hm
          subst h9
          refine lv_iconst (v := (-1)) hx hb dX9_make_66 (by decide) ?_
          refine lv_icmp_eq (tgt := 100) hx hb dX9_make_67 (by decide) (fun h3 => ?_) (fun h3 => ?_)
          · refine lv_iconst (v := (nI 0)) hx hb dX9_make_100 (by decide) ?_
            refine fw_top (x' := (fw_b (rf_cans f nC (rf_can0 f nD nT ds) (k + 1)))) (by rw [rf_cans_s, h2, decide_eq_true h3]; rfl) ?_
            refine lv_istore_n (lv' := [(2, .int (fw_b (rf_cans f nC (rf_can0 f nD nT ds) (k + 1)))), (3, .int (nI k)), (0, .ref y), (1, .int ds)]) hx hb dX9_make_101 rfl hl (by decide) rfl (fun ls hl => ?_)
            refine lv_iinc (v := (nI (k + 1))) (lv' := [(3, .int (nI (k + 1))), (2, .int (fw_b (rf_cans f nC (rf_can0 f nD nT ds) (k + 1)))), (0, .ref y), (1, .int ds)]) hx hb dX9_make_102 hl (k := 1) rfl (nI_1 _) (by decide) rfl (fun ls hl => ?_)
            refine lv_goto (tgt := 32) hx hb dX9_make_105 (by decide) ?_
            exact ih (k + 1)  (by omega)  _ _ _ _ hm (lv_sub hl [0, 1, 2, 3] rfl)
          · refine lv_aload_n hx hb dX9_make_70 rfl (lv_at hl 2 rfl) ?_
            refine lv_aload_n hx hb dX9_make_71 rfl (lv_at hl 2 rfl) ?_
            refine mm_get hx hb hT hown hz hm 6 (by decide) wd_741 rfl (v := .ref (ad 6)) rfl dX9_make_72 ?_
            refine lv_iconst (v := (nI 3)) hx hb dX9_make_75 (by decide) ?_
            refine lv_iload_n hx hb dX9_make_76 rfl (lv_at hl 0 rfl) ?_
            refine lv_imul hx hb dX9_make_77 ?_
            refine fw_top (pk_mul _ _) ?_
            refine mm_ald hx hb hz hm 6 (3 * k) (by decide) rfl (show 3 * k < 12 by omega) dX9_make_78 ?_
            refine lv_aload_n hx hb dX9_make_79 rfl (lv_at hl 2 rfl) ?_
            refine mm_get hx hb hT hown hz hm 6 (by decide) wd_741 rfl (v := .ref (ad 6)) rfl dX9_make_80 ?_
            refine lv_iconst (v := (nI 3)) hx hb dX9_make_83 (by decide) ?_
            refine lv_iload_n hx hb dX9_make_84 rfl (lv_at hl 0 rfl) ?_
            refine lv_imul hx hb dX9_make_85 ?_
            refine fw_top (pk_mul _ _) ?_
            refine lv_iconst (v := (nI 2)) hx hb dX9_make_86 (by decide) ?_
            refine lv_iadd hx hb dX9_make_87 ?_
            refine fw_top (nI_add _ _) ?_
            refine mm_ald hx hb hz hm 6 ((3 * k) + 2) (by decide) rfl (show (3 * k) + 2 < 12 by omega) dX9_make_88 ?_
            refine mm_calli (As := [.int (f 6 (3 * k)), .int (f 6 ((3 * k) + 2))]) (rest := []) C hz hm (c_X9_cutter l G _ _ y ad _ _ nC (f 6 (3 * k)) (f 6 (3 * k + 2)) hm.2.1 e1 hC) wd_828 yVX9_cutter ⟨Nat.le_of_ble_eq_true rfl, Nat.le_of_ble_eq_true rfl⟩ rfl hl.1 rfl (Nat.le_of_ble_eq_true rfl) dX9_make_89 ⟨Nat.le_of_ble_eq_true rfl, Nat.le_of_ble_eq_true rfl⟩ (fun r sc1 f1 F1 H locs hm hp => ?_)
            refine W.widen (k := 0) (n := 0) (Nat.le_of_ble_eq_true rfl) (Nat.le_of_ble_eq_true rfl) ?_
            obtain ⟨h7, h8, h9⟩ := hp
            rw [h7, h8] at hm
            subst h9
            refine lv_iconst (v := (-1)) hx hb dX9_make_92 (by decide) ?_
            refine lv_icmp_eq (tgt := 100) hx hb dX9_make_93 (by decide) (fun h4 => ?_) (fun h4 => ?_)
            · refine lv_iconst (v := (nI 0)) hx hb dX9_make_100 (by decide) ?_
              refine fw_top (x' := (fw_b (rf_cans f nC (rf_can0 f nD nT ds) (k + 1)))) (by rw [rf_cans_s, h2, decide_eq_false h3, decide_eq_true h4]; rfl) ?_
              refine lv_istore_n (lv' := [(2, .int (fw_b (rf_cans f nC (rf_can0 f nD nT ds) (k + 1)))), (3, .int (nI k)), (0, .ref y), (1, .int ds)]) hx hb dX9_make_101 rfl hl (by decide) rfl (fun ls hl => ?_)
              refine lv_iinc (v := (nI (k + 1))) (lv' := [(3, .int (nI (k + 1))), (2, .int (fw_b (rf_cans f nC (rf_can0 f nD nT ds) (k + 1)))), (0, .ref y), (1, .int ds)]) hx hb dX9_make_102 hl (k := 1) rfl (nI_1 _) (by decide) rfl (fun ls hl => ?_)
              refine lv_goto (tgt := 32) hx hb dX9_make_105 (by decide) ?_
              exact ih (k + 1)  (by omega)  _ _ _ _ hm (lv_sub hl [0, 1, 2, 3] rfl)
            · refine lv_iconst (v := (nI 1)) hx hb dX9_make_96 (by decide) ?_
              refine lv_goto (tgt := 101) hx hb dX9_make_97 (by decide) ?_
              refine fw_top (x' := (fw_b (rf_cans f nC (rf_can0 f nD nT ds) (k + 1)))) (by rw [rf_cans_s, h2, decide_eq_false h3, decide_eq_false h4]; rfl) ?_
              refine lv_istore_n (lv' := [(2, .int (fw_b (rf_cans f nC (rf_can0 f nD nT ds) (k + 1)))), (3, .int (nI k)), (0, .ref y), (1, .int ds)]) hx hb dX9_make_101 rfl hl (by decide) rfl (fun ls hl => ?_)
              refine lv_iinc (v := (nI (k + 1))) (lv' := [(3, .int (nI (k + 1))), (2, .int (fw_b (rf_cans f nC (rf_can0 f nD nT ds) (k + 1)))), (0, .ref y), (1, .int ds)]) hx hb dX9_make_102 hl (k := 1) rfl (nI_1 _) (by decide) rfl (fun ls hl => ?_)
              refine lv_goto (tgt := 32) hx hb dX9_make_105 (by decide) ?_
              exact ih (k + 1)  (by omega)  _ _ _ _ hm (lv_sub hl [0, 1, 2, 3] rfl)
  refine lv_aload_n hx hb dX9_make_0 rfl (lv_at hl 0 rfl) ?_
  refine mm_get hx hb hT hown hz hm 5 (by decide) wd_740 rfl (v := .int (sc 5)) rfl dX9_make_1 ?_
  refine fw_top (e5) ?_
  refine lv_if_le (tgt := 28) hx hb dX9_make_4 (by decide) (fun g1 => ?_) (fun g1 => ?_)
  · have g1 := (nI_leI (a := nD) (b := 0) (by omega) (by omega)).mp g1
    refine lv_iconst (v := (nI 0)) hx hb dX9_make_28 (by decide) ?_
    refine fw_top (x' := (fw_b (rf_can0 f nD nT ds))) (by rw [rf_can0, decide_eq_false (show ¬ 0 < nD by omega)]; rfl) ?_
    refine lv_istore_n (lv' := [(2, .int (fw_b (rf_can0 f nD nT ds))), (0, .ref y), (1, .int ds)]) hx hb dX9_make_29 rfl hl (by decide) rfl (fun ls hl => ?_)
    exact hJ _ _ _ _ hm (lv_sub hl [0, 1, 2] rfl)
  · have g1 : ¬ nD ≤ 0 := fun h9 => g1 ((nI_leI (a := nD) (b := 0) (by omega) (by omega)).mpr h9)
    have g1 : 0 < nD := by omega
    refine lv_iload_n hx hb dX9_make_7 rfl (lv_at hl 1 rfl) ?_
    refine lv_aload_n hx hb dX9_make_8 rfl (lv_at hl 0 rfl) ?_
    refine mm_calli (As := []) (rest := [.int ds]) C hz hm (c_X9_draftDistance l G _ _ y ad _ _ nD hm.2.1 e5 hD) wd_836 yVX9_draftDistance ⟨Nat.le_of_ble_eq_true rfl, Nat.le_of_ble_eq_true rfl⟩ rfl hl.1 rfl (Nat.le_of_ble_eq_true rfl) dX9_make_9 ⟨Nat.le_of_ble_eq_true rfl, Nat.le_of_ble_eq_true rfl⟩ (fun r sc1 f1 F1 H locs hm hp => ?_)
    refine W.widen (k := 0) (n := 0) (Nat.le_of_ble_eq_true rfl) (Nat.le_of_ble_eq_true rfl) ?_
    obtain ⟨h7, h8, h9⟩ := hp
    rw [h7, h8] at hm
    subst h9
    refine lv_icmp_ne (tgt := 28) hx hb dX9_make_12 (by decide) (fun g2 => ?_) (fun g2 => ?_)
    · refine lv_iconst (v := (nI 0)) hx hb dX9_make_28 (by decide) ?_
      refine fw_top (x' := (fw_b (rf_can0 f nD nT ds))) (by rw [rf_can0, decide_eq_true g1, decide_eq_false g2]; rfl) ?_
      refine lv_istore_n (lv' := [(2, .int (fw_b (rf_can0 f nD nT ds))), (0, .ref y), (1, .int ds)]) hx hb dX9_make_29 rfl hl (by decide) rfl (fun ls hl => ?_)
      exact hJ _ _ _ _ hm (lv_sub hl [0, 1, 2] rfl)
    · refine lv_aload_n hx hb dX9_make_15 rfl (lv_at hl 0 rfl) ?_
      refine mm_get hx hb hT hown hz hm 7 (by decide) wd_742 rfl (v := .int (sc 7)) rfl dX9_make_16 ?_
      refine fw_top (e7) ?_
      refine lv_bipush (v := (nI 8)) hx hb dX9_make_19 (by decide) ?_
      refine lv_icmp_ge (tgt := 28) hx hb dX9_make_21 (by decide) (fun g3 => ?_) (fun g3 => ?_)
      · have g3 := (nI_leI (a := 8) (b := nT) (by omega) (by omega)).mp g3
        refine lv_iconst (v := (nI 0)) hx hb dX9_make_28 (by decide) ?_
        refine fw_top (x' := (fw_b (rf_can0 f nD nT ds))) (by rw [rf_can0, decide_eq_true g1, decide_eq_true g2, decide_eq_false (show ¬ nT < 8 by omega)]; rfl) ?_
        refine lv_istore_n (lv' := [(2, .int (fw_b (rf_can0 f nD nT ds))), (0, .ref y), (1, .int ds)]) hx hb dX9_make_29 rfl hl (by decide) rfl (fun ls hl => ?_)
        exact hJ _ _ _ _ hm (lv_sub hl [0, 1, 2] rfl)
      · have g3 : ¬ 8 ≤ nT := fun h9 => g3 ((nI_leI (a := 8) (b := nT) (by omega) (by omega)).mpr h9)
        refine lv_iconst (v := (nI 1)) hx hb dX9_make_24 (by decide) ?_
        refine lv_goto (tgt := 29) hx hb dX9_make_25 (by decide) ?_
        refine fw_top (x' := (fw_b (rf_can0 f nD nT ds))) (by rw [rf_can0, decide_eq_true g1, decide_eq_true g2, decide_eq_true (show nT < 8 by omega)]; rfl) ?_
        refine lv_istore_n (lv' := [(2, .int (fw_b (rf_can0 f nD nT ds))), (0, .ref y), (1, .int ds)]) hx hb dX9_make_29 rfl hl (by decide) rfl (fun ls hl => ?_)
        exact hJ _ _ _ _ hm (lv_sub hl [0, 1, 2] rfl)
set_option maxHeartbeats 4000000 in
set_option maxRecDepth 100000 in
theorem c_X9_news (l : Launch) (G : fw_G) (F : fw_F) (sz y : Nat) (ad : Nat → Nat) (sc : mm_S) (f : mm_A) (nC : Nat) (mo x1 x2 x3 x4 : Int32) (hW : mm_W G F y ad sc f) (e1 : sc 1 = nI nC) (hC : nC ≤ 10) : mm_Ci l G F sz y ad yX9_news cX9_news 7 (.int) { frames := 3, cells := 0, slots := 0, locals := 68 } [.int mo, .int x1, .int x2, .int x3, .int x4] (fun r sc1 f1 => sc1 = sc ∧ f1 = f ∧ r = nI (rf_news f nC mo x1 x2 x3 x4)) := by
  refine fw_met (lv := [(0, .ref y), (1, .int mo), (2, .int x1), (3, .int x2), (4, .int x3), (5, .int x4)]) (by decide +kernel) (Nat.le_of_ble_eq_true rfl) rfl ?_
  intro A hA p e s m below meth c ls hx hb hml hown hT hr hlk hin hz hsz hw hAn hl
  rw [← hA]
  have hown : s.vm.findClass RX9 = some m.cls := hown
  have C : CallFix p m c cX9_news 7 s _ fw_tb RX9 := ⟨hx, hb, hml, hown, hT⟩
  have hm : mm_M G A s F y ad sc f F s.heap [] := ⟨hw, hW, mm_keep.rf⟩
  have hJ3 : ∀ (F1 : fw_F) (H : Heap) (locs : List Loc) (ls : Array Slot), mm_M G A s F y ad sc f F1 H locs → lv_has ls 7 [(6, .int (nI (rf_lk f nC mo x1 + (if x2 = x1 then 0 else rf_lk f nC mo x2) + (if x3 = x1 ∨ x3 = x2 then 0 else rf_lk f nC mo x3)))), (0, .ref y), (1, .int mo), (2, .int x1), (3, .int x2), (4, .int x3), (5, .int x4)] → W p l e { frames := 3, cells := 0, slots := 0, locals := 68 } s m ([.ref y, .int mo, .int x1, .int x2, .int x3, .int x4] : List Value).toArray below meth c H locs 0 0 (MQ below (va_Qi (mm_post G y ad F (fun r sc1 f1 => sc1 = sc ∧ f1 = f ∧ r = nI (rf_news f nC mo x1 x2 x3 x4))) (fw_B G A) A) ([.ref y, .int mo, .int x1, .int x2, .int x3, .int x4] : List Value).toArray s 0 0 A) (F0 m 56 ls []) := by
    intro F1 H locs ls hm hl
    refine lv_iload hx hb dX9_news_56 (lv_at hl 0 rfl) ?_
    refine lv_iload hx hb dX9_news_58 (lv_at hl 6 rfl) ?_
    refine lv_iload_n hx hb dX9_news_60 rfl (lv_at hl 3 rfl) ?_
    refine lv_icmp_eq (tgt := 77) hx hb dX9_news_61 (by decide) (fun g1 => ?_) (fun g1 => ?_)
    · refine lv_iconst (v := (nI 0)) hx hb dX9_news_77 (by decide) ?_
      refine lv_goto (tgt := 88) hx hb dX9_news_78 (by decide) ?_
      refine lv_iadd hx hb dX9_news_88 ?_
      refine fw_top (nI_add _ _) ?_
      exact mm_iret hx hb hr hlk (Nat.le_of_ble_eq_true rfl) (Nat.le_of_ble_eq_true rfl) hm dX9_news_89 (⟨rfl, rfl, by rw [rf_news, if_pos (show x4 = x1 ∨ x4 = x2 ∨ x4 = x3 from Or.inl g1)]⟩)
    · refine lv_iload hx hb dX9_news_64 (lv_at hl 6 rfl) ?_
      refine lv_iload_n hx hb dX9_news_66 rfl (lv_at hl 4 rfl) ?_
      refine lv_icmp_eq (tgt := 77) hx hb dX9_news_67 (by decide) (fun g2 => ?_) (fun g2 => ?_)
      · refine lv_iconst (v := (nI 0)) hx hb dX9_news_77 (by decide) ?_
        refine lv_goto (tgt := 88) hx hb dX9_news_78 (by decide) ?_
        refine lv_iadd hx hb dX9_news_88 ?_
        refine fw_top (nI_add _ _) ?_
        exact mm_iret hx hb hr hlk (Nat.le_of_ble_eq_true rfl) (Nat.le_of_ble_eq_true rfl) hm dX9_news_89 (⟨rfl, rfl, by rw [rf_news, if_pos (show x4 = x1 ∨ x4 = x2 ∨ x4 = x3 from Or.inr (Or.inl g2))]⟩)
      · refine lv_iload hx hb dX9_news_70 (lv_at hl 6 rfl) ?_
        refine lv_iload hx hb dX9_news_72 (lv_at hl 5 rfl) ?_
        refine lv_icmp_ne (tgt := 81) hx hb dX9_news_74 (by decide) (fun g3 => ?_) (fun g3 => ?_)
        · refine lv_aload_n hx hb dX9_news_81 rfl (lv_at hl 1 rfl) ?_
          refine lv_iload_n hx hb dX9_news_82 rfl (lv_at hl 2 rfl) ?_
          refine lv_iload hx hb dX9_news_83 (lv_at hl 6 rfl) ?_
          refine mm_calli (As := [.int mo, .int x4]) (rest := [.int (nI (rf_lk f nC mo x1 + (if x2 = x1 then 0 else rf_lk f nC mo x2) + (if x3 = x1 ∨ x3 = x2 then 0 else rf_lk f nC mo x3)))]) C hz hm (c_X9_lacks l G _ _ y ad _ _ nC mo x4 hm.2.1 e1 hC) wd_961 yVX9_lacks ⟨Nat.le_of_ble_eq_true rfl, Nat.le_of_ble_eq_true rfl⟩ rfl hl.1 rfl (Nat.le_of_ble_eq_true rfl) dX9_news_85 ⟨Nat.le_of_ble_eq_true rfl, Nat.le_of_ble_eq_true rfl⟩ (fun r sc1 f1 F1 H locs hm hp => ?_)
          refine W.widen (k := 0) (n := 0) (Nat.le_of_ble_eq_true rfl) (Nat.le_of_ble_eq_true rfl) ?_
          obtain ⟨h7, h8, h9⟩ := hp
          rw [h7, h8] at hm
          subst h9
          refine fw_top (x' := (nI (rf_lk f nC mo x4))) (rf_lk_b) ?_
          refine lv_iadd hx hb dX9_news_88 ?_
          refine fw_top (nI_add _ _) ?_
          exact mm_iret hx hb hr hlk (Nat.le_of_ble_eq_true rfl) (Nat.le_of_ble_eq_true rfl) hm dX9_news_89 (⟨rfl, rfl, by rw [rf_news, if_neg (show ¬ (x4 = x1 ∨ x4 = x2 ∨ x4 = x3) from fun h => h.elim g1 (fun h => h.elim g2 g3))]⟩)
        · refine lv_iconst (v := (nI 0)) hx hb dX9_news_77 (by decide) ?_
          refine lv_goto (tgt := 88) hx hb dX9_news_78 (by decide) ?_
          refine lv_iadd hx hb dX9_news_88 ?_
          refine fw_top (nI_add _ _) ?_
          exact mm_iret hx hb hr hlk (Nat.le_of_ble_eq_true rfl) (Nat.le_of_ble_eq_true rfl) hm dX9_news_89 (⟨rfl, rfl, by rw [rf_news, if_pos (show x4 = x1 ∨ x4 = x2 ∨ x4 = x3 from Or.inr (Or.inr g3))]⟩)
  have hJ2 : ∀ (F1 : fw_F) (H : Heap) (locs : List Loc) (ls : Array Slot), mm_M G A s F y ad sc f F1 H locs → lv_has ls 7 [(6, .int (nI (rf_lk f nC mo x1 + (if x2 = x1 then 0 else rf_lk f nC mo x2)))), (0, .ref y), (1, .int mo), (2, .int x1), (3, .int x2), (4, .int x3), (5, .int x4)] → W p l e { frames := 3, cells := 0, slots := 0, locals := 68 } s m ([.ref y, .int mo, .int x1, .int x2, .int x3, .int x4] : List Value).toArray below meth c H locs 0 0 (MQ below (va_Qi (mm_post G y ad F (fun r sc1 f1 => sc1 = sc ∧ f1 = f ∧ r = nI (rf_news f nC mo x1 x2 x3 x4))) (fw_B G A) A) ([.ref y, .int mo, .int x1, .int x2, .int x3, .int x4] : List Value).toArray s 0 0 A) (F0 m 28 ls []) := by
    intro F1 H locs ls hm hl
    refine lv_iload hx hb dX9_news_28 (lv_at hl 0 rfl) ?_
    refine lv_iload hx hb dX9_news_30 (lv_at hl 5 rfl) ?_
    refine lv_iload_n hx hb dX9_news_32 rfl (lv_at hl 3 rfl) ?_
    refine lv_icmp_eq (tgt := 42) hx hb dX9_news_33 (by decide) (fun g1 => ?_) (fun g1 => ?_)
    · refine lv_iconst (v := (nI 0)) hx hb dX9_news_42 (by decide) ?_
      refine lv_goto (tgt := 53) hx hb dX9_news_43 (by decide) ?_
      refine lv_iadd hx hb dX9_news_53 ?_
      refine fw_top (nI_add _ _) ?_
      refine fw_top (x' := (nI (rf_lk f nC mo x1 + (if x2 = x1 then 0 else rf_lk f nC mo x2) + (if x3 = x1 ∨ x3 = x2 then 0 else rf_lk f nC mo x3)))) (congrArg nI (by rw [if_pos (show x3 = x1 ∨ x3 = x2 from Or.inl g1)])) ?_
      refine lv_istore (lv' := [(6, .int (nI (rf_lk f nC mo x1 + (if x2 = x1 then 0 else rf_lk f nC mo x2) + (if x3 = x1 ∨ x3 = x2 then 0 else rf_lk f nC mo x3)))), (0, .ref y), (1, .int mo), (2, .int x1), (3, .int x2), (4, .int x3), (5, .int x4)]) hx hb dX9_news_54 hl (by decide) rfl (fun ls hl => ?_)
      exact hJ3 _ _ _ _ hm (lv_sub hl [0, 1, 2, 3, 4, 5, 6] rfl)
    · refine lv_iload hx hb dX9_news_36 (lv_at hl 5 rfl) ?_
      refine lv_iload_n hx hb dX9_news_38 rfl (lv_at hl 4 rfl) ?_
      refine lv_icmp_ne (tgt := 46) hx hb dX9_news_39 (by decide) (fun g2 => ?_) (fun g2 => ?_)
      · refine lv_aload_n hx hb dX9_news_46 rfl (lv_at hl 1 rfl) ?_
        refine lv_iload_n hx hb dX9_news_47 rfl (lv_at hl 2 rfl) ?_
        refine lv_iload hx hb dX9_news_48 (lv_at hl 5 rfl) ?_
        refine mm_calli (As := [.int mo, .int x3]) (rest := [.int (nI (rf_lk f nC mo x1 + (if x2 = x1 then 0 else rf_lk f nC mo x2)))]) C hz hm (c_X9_lacks l G _ _ y ad _ _ nC mo x3 hm.2.1 e1 hC) wd_961 yVX9_lacks ⟨Nat.le_of_ble_eq_true rfl, Nat.le_of_ble_eq_true rfl⟩ rfl hl.1 rfl (Nat.le_of_ble_eq_true rfl) dX9_news_50 ⟨Nat.le_of_ble_eq_true rfl, Nat.le_of_ble_eq_true rfl⟩ (fun r sc1 f1 F1 H locs hm hp => ?_)
        refine W.widen (k := 0) (n := 0) (Nat.le_of_ble_eq_true rfl) (Nat.le_of_ble_eq_true rfl) ?_
        obtain ⟨h7, h8, h9⟩ := hp
        rw [h7, h8] at hm
        subst h9
        refine fw_top (x' := (nI (rf_lk f nC mo x3))) (rf_lk_b) ?_
        refine lv_iadd hx hb dX9_news_53 ?_
        refine fw_top (nI_add _ _) ?_
        refine fw_top (x' := (nI (rf_lk f nC mo x1 + (if x2 = x1 then 0 else rf_lk f nC mo x2) + (if x3 = x1 ∨ x3 = x2 then 0 else rf_lk f nC mo x3)))) (congrArg nI (by rw [if_neg (show ¬ (x3 = x1 ∨ x3 = x2) from fun h => h.elim g1 g2)])) ?_
        refine lv_istore (lv' := [(6, .int (nI (rf_lk f nC mo x1 + (if x2 = x1 then 0 else rf_lk f nC mo x2) + (if x3 = x1 ∨ x3 = x2 then 0 else rf_lk f nC mo x3)))), (0, .ref y), (1, .int mo), (2, .int x1), (3, .int x2), (4, .int x3), (5, .int x4)]) hx hb dX9_news_54 hl (by decide) rfl (fun ls hl => ?_)
        exact hJ3 _ _ _ _ hm (lv_sub hl [0, 1, 2, 3, 4, 5, 6] rfl)
      · refine lv_iconst (v := (nI 0)) hx hb dX9_news_42 (by decide) ?_
        refine lv_goto (tgt := 53) hx hb dX9_news_43 (by decide) ?_
        refine lv_iadd hx hb dX9_news_53 ?_
        refine fw_top (nI_add _ _) ?_
        refine fw_top (x' := (nI (rf_lk f nC mo x1 + (if x2 = x1 then 0 else rf_lk f nC mo x2) + (if x3 = x1 ∨ x3 = x2 then 0 else rf_lk f nC mo x3)))) (congrArg nI (by rw [if_pos (show x3 = x1 ∨ x3 = x2 from Or.inr g2)])) ?_
        refine lv_istore (lv' := [(6, .int (nI (rf_lk f nC mo x1 + (if x2 = x1 then 0 else rf_lk f nC mo x2) + (if x3 = x1 ∨ x3 = x2 then 0 else rf_lk f nC mo x3)))), (0, .ref y), (1, .int mo), (2, .int x1), (3, .int x2), (4, .int x3), (5, .int x4)]) hx hb dX9_news_54 hl (by decide) rfl (fun ls hl => ?_)
        exact hJ3 _ _ _ _ hm (lv_sub hl [0, 1, 2, 3, 4, 5, 6] rfl)
  refine lv_aload_n hx hb dX9_news_0 rfl (lv_at hl 0 rfl) ?_
  refine lv_iload_n hx hb dX9_news_1 rfl (lv_at hl 1 rfl) ?_
  refine lv_iload_n hx hb dX9_news_2 rfl (lv_at hl 2 rfl) ?_
  refine mm_calli (As := [.int mo, .int x1]) (rest := []) C hz hm (c_X9_lacks l G _ _ y ad _ _ nC mo x1 hm.2.1 e1 hC) wd_961 yVX9_lacks ⟨Nat.le_of_ble_eq_true rfl, Nat.le_of_ble_eq_true rfl⟩ rfl hl.1 rfl (Nat.le_of_ble_eq_true rfl) dX9_news_3 ⟨Nat.le_of_ble_eq_true rfl, Nat.le_of_ble_eq_true rfl⟩ (fun r sc1 f1 F1 H locs hm hp => ?_)
  refine W.widen (k := 0) (n := 0) (Nat.le_of_ble_eq_true rfl) (Nat.le_of_ble_eq_true rfl) ?_
  obtain ⟨h7, h8, h9⟩ := hp
  rw [h7, h8] at hm
  subst h9
  refine fw_top (x' := (nI (rf_lk f nC mo x1))) (rf_lk_b) ?_
  refine lv_istore (lv' := [(6, .int (nI (rf_lk f nC mo x1))), (0, .ref y), (1, .int mo), (2, .int x1), (3, .int x2), (4, .int x3), (5, .int x4)]) hx hb dX9_news_6 hl (by decide) rfl (fun ls hl => ?_)
  refine lv_iload hx hb dX9_news_8 (lv_at hl 0 rfl) ?_
  refine lv_iload_n hx hb dX9_news_10 rfl (lv_at hl 4 rfl) ?_
  refine lv_iload_n hx hb dX9_news_11 rfl (lv_at hl 3 rfl) ?_
  refine lv_icmp_ne (tgt := 19) hx hb dX9_news_12 (by decide) (fun g1 => ?_) (fun g1 => ?_)
  · refine lv_aload_n hx hb dX9_news_19 rfl (lv_at hl 1 rfl) ?_
    refine lv_iload_n hx hb dX9_news_20 rfl (lv_at hl 2 rfl) ?_
    refine lv_iload_n hx hb dX9_news_21 rfl (lv_at hl 4 rfl) ?_
    refine mm_calli (As := [.int mo, .int x2]) (rest := [.int (nI (rf_lk f nC mo x1))]) C hz hm (c_X9_lacks l G _ _ y ad _ _ nC mo x2 hm.2.1 e1 hC) wd_961 yVX9_lacks ⟨Nat.le_of_ble_eq_true rfl, Nat.le_of_ble_eq_true rfl⟩ rfl hl.1 rfl (Nat.le_of_ble_eq_true rfl) dX9_news_22 ⟨Nat.le_of_ble_eq_true rfl, Nat.le_of_ble_eq_true rfl⟩ (fun r sc1 f1 F1 H locs hm hp => ?_)
    refine W.widen (k := 0) (n := 0) (Nat.le_of_ble_eq_true rfl) (Nat.le_of_ble_eq_true rfl) ?_
    obtain ⟨h7, h8, h9⟩ := hp
    rw [h7, h8] at hm
    subst h9
    refine fw_top (x' := (nI (rf_lk f nC mo x2))) (rf_lk_b) ?_
    refine lv_iadd hx hb dX9_news_25 ?_
    refine fw_top (nI_add _ _) ?_
    refine fw_top (x' := (nI (rf_lk f nC mo x1 + (if x2 = x1 then 0 else rf_lk f nC mo x2)))) (congrArg nI (by rw [if_neg g1])) ?_
    refine lv_istore (lv' := [(6, .int (nI (rf_lk f nC mo x1 + (if x2 = x1 then 0 else rf_lk f nC mo x2)))), (0, .ref y), (1, .int mo), (2, .int x1), (3, .int x2), (4, .int x3), (5, .int x4)]) hx hb dX9_news_26 hl (by decide) rfl (fun ls hl => ?_)
    exact hJ2 _ _ _ _ hm (lv_sub hl [0, 1, 2, 3, 4, 5, 6] rfl)
  · refine lv_iconst (v := (nI 0)) hx hb dX9_news_15 (by decide) ?_
    refine lv_goto (tgt := 25) hx hb dX9_news_16 (by decide) ?_
    refine lv_iadd hx hb dX9_news_25 ?_
    refine fw_top (nI_add _ _) ?_
    refine fw_top (x' := (nI (rf_lk f nC mo x1 + (if x2 = x1 then 0 else rf_lk f nC mo x2)))) (congrArg nI (by rw [if_pos g1])) ?_
    refine lv_istore (lv' := [(6, .int (nI (rf_lk f nC mo x1 + (if x2 = x1 then 0 else rf_lk f nC mo x2)))), (0, .ref y), (1, .int mo), (2, .int x1), (3, .int x2), (4, .int x3), (5, .int x4)]) hx hb dX9_news_26 hl (by decide) rfl (fun ls hl => ?_)
    exact hJ2 _ _ _ _ hm (lv_sub hl [0, 1, 2, 3, 4, 5, 6] rfl)
end
