/-! The reference's memory: scalars sc and arrays f by the places of the fields. -/
def mm_len : Nat → Nat
  | 2 => 10 | 3 => 10 | 4 => 10 | 6 => 12 | 8 => 8 | 9 => 96 | 10 => 8 | 12 => 12 | 13 => 12 | 14 => 12 | 15 => 48
  | 17 => 96 | 18 => 96 | 19 => 96 | 20 => 96 | 22 => 3 | 23 => 3 | 24 => 3 | _ => 0
abbrev mm_S : Type := Nat → Int32
abbrev mm_A : Type := Nat → Nat → Int32
def mm_fs (sc : mm_S) (ad : Nat → Nat) : List Value := [.int (sc 0), .int (sc 1), .ref (ad 2), .ref (ad 3), .ref (ad 4), .int (sc 5), .ref (ad 6), .int (sc 7), .ref (ad 8), .ref (ad 9), .ref (ad 10), .int (sc 11), .ref (ad 12), .ref (ad 13), .ref (ad 14), .ref (ad 15), .int (sc 16), .ref (ad 17), .ref (ad 18), .ref (ad 19), .ref (ad 20), .int (sc 21), .ref (ad 22), .ref (ad 23), .ref (ad 24)]
def mm_cl (G : fw_G) (k : Nat) : ClassId := if k = 14 then fw_cZ G else fw_cI G
def mm_W (G : fw_G) (F : fw_F) (y : Nat) (ad : Nat → Nat) (sc : mm_S) (f : mm_A) : Prop := F y = some ((100, 0, 0), fw_obj 10 (mm_fs sc ad)) ∧ ∀ k, mm_len k ≠ 0 → F (ad k) = some ((101, k, 0), fw_ia (mm_cl G k) (mm_len k) (f k))
/-- what isn't the reference's stays -/
def mm_keep (F F1 : fw_F) : Prop := ∀ (b : Nat) (t : fw_T) (e : fw_E), t.1 ≠ 100 → t.1 ≠ 101 → F b = some (t, e) → F1 b = some (t, e)
theorem mm_keep.rf {F : fw_F} : mm_keep F F := fun _ _ _ _ _ h => h
theorem mm_keep.tr {F F1 F2 : fw_F} (h : mm_keep F F1) (h2 : mm_keep F1 F2) : mm_keep F F2 := fun b t e g1 g2 h3 => h2 b t e g1 g2 (h b t e g1 g2 h3)
def mm_M (G : fw_G) (A : Nat → Prop) (s : State) (Fi : fw_F) (y : Nat) (ad : Nat → Nat) (sc : mm_S) (f : mm_A) (F : fw_F) (H : Heap) (locs : List Loc) : Prop := fw_S G A s F H locs ∧ mm_W G F y ad sc f ∧ mm_keep Fi F
def mm_post (G : fw_G) (y : Nat) (ad : Nat → Nat) (F : fw_F) (P : Int32 → mm_S → mm_A → Prop) : Int32 → fw_F → Prop := fun r F1 => ∃ sc f, mm_W G F1 y ad sc f ∧ mm_keep F F1 ∧ P r sc f
def mm_postv (G : fw_G) (y : Nat) (ad : Nat → Nat) (F : fw_F) (P : mm_S → mm_A → Prop) : fw_F → Prop := fun F1 => ∃ sc f, mm_W G F1 y ad sc f ∧ mm_keep F F1 ∧ P sc f
theorem mm_fs_put {sc : mm_S} {ad : Nat → Nat} {x : Int32} (k : Nat) (hk : k = 0 ∨ k = 1 ∨ k = 5 ∨ k = 7 ∨ k = 11 ∨ k = 16 ∨ k = 21) : (mm_fs sc ad).set k (.int x) = mm_fs (va_up sc k x) ad := by
  rcases hk with rfl | rfl | rfl | rfl | rfl | rfl | rfl <;> rfl
theorem mm_set {G : fw_G} {F : fw_F} {y : Nat} {ad : Nat → Nat} {sc sc' : mm_S} {f : mm_A} (h : mm_W G F y ad sc f) : mm_W G (va_up F y (some ((100, 0, 0), fw_obj 10 (mm_fs sc' ad)))) y ad sc' f :=
  ⟨fw_up_self, fun k hk => fw_up_tag (h.2 k hk) h.1 (by intro z; cases z)⟩
theorem mm_keep_set {Fi F : fw_F} {a : Nat} {t : fw_T} {e e' : fw_E} (h : mm_keep Fi F) (ha : F a = some (t, e)) (ht : t.1 = 100 ∨ t.1 = 101) : mm_keep Fi (va_up F a (some (t, e'))) := fun b u d g1 g2 h3 => fw_up_tag (h b u d g1 g2 h3) ha (fun z => by subst z; rcases ht with q | q <;> contradiction)
theorem mm_seta {G : fw_G} {F : fw_F} {y : Nat} {ad : Nat → Nat} {sc : mm_S} {f : mm_A} {k : Nat} {g : Nat → Int32} (h : mm_W G F y ad sc f) (hk : mm_len k ≠ 0) : mm_W G (va_up F (ad k) (some ((101, k, 0), fw_ia (mm_cl G k) (mm_len k) g))) y ad sc (va_up f k g) := by
  refine ⟨fw_up_tag h.1 (h.2 k hk) (by intro z; cases z), fun j hj => ?_⟩
  by_cases e : j = k
  · subst e
    rw [va_up_self f]
    exact fw_up_self
  · rw [va_up_ne f _ e]
    exact fw_up_tag (h.2 j hj) (h.2 k hk) (by intro z; injection z with z1 z2; injection z2 with z3 z4; exact e z3)
section MMR
variable {p : Program} {l : Launch} {e : Env} {R : Room} {s : State} {m : MethodId} {args : Array Value} {below : List Frame} {meth : Method} {c : Code} {H : Heap} {locs : List Loc} {cells slots : Nat} {Q : State → Prop}
variable {cc : ByteArray} {pc : Nat} {ls : Array Slot} {rest : List Value} {G : fw_G} {A : Nat → Prop} {F Fi : fw_F} {y : Nat} {ad : Nat → Nat} {sc : mm_S} {f : mm_A}
theorem mm_get (hx : p.tables.exec = Jvm.exec) (hb : c.code = cc) (hT : ∀ w ∈ fw_tb, w.before args s = true) (hown : s.vm.findClass RX9 = some m.cls) (hz : fw_Z G A s s.heap) (hm : mm_M G A s Fi y ad sc f F H locs) {index : Nat} (k : Nat) (hk : k < 25) (hl : Cond.fieldLink RX9 index RX9 (TX9 k).2.1 (TX9 k).2.2.1 ∈ fw_tb) (hsame : (TX9 k).1 = RX9) {v : Value} (hv : (mm_fs sc ad)[k]? = some v) (hdg : decode cc pc = .ok (.getfield index, 3))
    (kk : W p l e R s m args below meth c H locs cells slots Q (F0 m (pc + 3) ls (v :: rest))) : W p l e R s m args below meth c H locs cells slots Q (F0 m pc ls (.ref y :: rest)) :=
  fw_get hx hb hT fi_RX9 hown hz hm.1 hm.2.1.1 rfl k hk (hT _ hl) (fun _ h => by rw [hsame] at h; exact h) hv hdg kk
theorem mm_put (hx : p.tables.exec = Jvm.exec) (hb : c.code = cc) (hT : ∀ w ∈ fw_tb, w.before args s = true) (hown : s.vm.findClass RX9 = some m.cls) (hz : fw_Z G A s s.heap) (hm : mm_M G A s Fi y ad sc f F H locs) {index : Nat} (k : Nat) (hk : k = 0 ∨ k = 1 ∨ k = 5 ∨ k = 7 ∨ k = 11 ∨ k = 16 ∨ k = 21) (hl : Cond.fieldLink RX9 index RX9 (TX9 k).2.1 (TX9 k).2.2.1 ∈ fw_tb) {x : Int32} (hdg : decode cc pc = .ok (.putfield index, 3))
    (kk : ∀ F1 H1 locs1, mm_M G A s Fi y ad (va_up sc k x) f F1 H1 locs1 → W p l e R s m args below meth c H1 locs1 cells slots Q (F0 m (pc + 3) ls rest)) : W p l e R s m args below meth c H locs cells slots Q (F0 m pc ls (.int x :: .ref y :: rest)) := by
  have h9 : k < 25 ∧ (TX9 k).1 = RX9 ∧ (TX9 k).2.2.2 = false ∧ parseFieldDescriptor (TX9 k).2.2.1 = some .int := by
    rcases hk with rfl | rfl | rfl | rfl | rfl | rfl | rfl <;> decide +kernel
  exact fw_put hx hb hT fi_RX9 tyX9 tyX9_ok nmX9 hown hz hm.1 hm.2.1.1 rfl k h9.1 (hT _ hl) (fun _ h => by rw [h9.2.1] at h; exact h) h9.2.2.1 h9.2.2.2 rfl rfl h9.1 (mm_fs_put k hk) hdg (fun H1 locs1 hw => kk _ H1 locs1 ⟨hw, mm_set hm.2.1, mm_keep_set hm.2.2 hm.2.1.1 (Or.inl rfl)⟩)
theorem mm_len_le (k : Nat) : mm_len k ≤ 96 := by
  unfold mm_len
  split <;> decide
theorem mm_in {k j : Nat} (hj : j < mm_len k) : vp_in (nI j) (mm_len k) ∧ (nI j).toNatClampNeg = j := ⟨vp_in_nI hj (by have := mm_len_le k; omega), nI_clamp (by have := mm_len_le k; omega)⟩
theorem mm_ald (hx : p.tables.exec = Jvm.exec) (hb : c.code = cc) (hz : fw_Z G A s s.heap) (hm : mm_M G A s Fi y ad sc f F H locs) (k j : Nat) {i : Int32} (h14 : k ≠ 14) (hi : i = nI j) (hj : j < mm_len k) (hdg : decode cc pc = .ok (.iaload, 1))
    (kk : W p l e R s m args below meth c H locs cells slots Q (F0 m (pc + 1) ls (.int (f k j) :: rest))) : W p l e R s m args below meth c H locs cells slots Q (F0 m pc ls (.int i :: .ref (ad k) :: rest)) := by
  subst hi
  have h := hm.2.1.2 k (by omega)
  rw [mm_cl, if_neg h14] at h
  refine fw_iald hx hb hz hm.1 h (mm_in hj).1 hdg ?_
  rw [(mm_in hj).2]
  exact kk
theorem mm_zald (hx : p.tables.exec = Jvm.exec) (hb : c.code = cc) (hz : fw_Z G A s s.heap) (hm : mm_M G A s Fi y ad sc f F H locs) (j : Nat) {i : Int32} (hi : i = nI j) (hj : j < 12) (hdg : decode cc pc = .ok (.baload, 1))
    (kk : W p l e R s m args below meth c H locs cells slots Q (F0 m (pc + 1) ls (.int (f 14 j) :: rest))) : W p l e R s m args below meth c H locs cells slots Q (F0 m pc ls (.int i :: .ref (ad 14) :: rest)) := by
  subst hi
  have h := hm.2.1.2 14 (by decide)
  rw [mm_cl, if_pos rfl] at h
  refine fw_zald hx hb hz hm.1 h (mm_in (k := 14) hj).1 hdg ?_
  rw [(mm_in (k := 14) hj).2]
  exact kk
theorem mm_ast (hx : p.tables.exec = Jvm.exec) (hb : c.code = cc) (hz : fw_Z G A s s.heap) (hm : mm_M G A s Fi y ad sc f F H locs) (k j : Nat) {i x : Int32} (h14 : k ≠ 14) (hi : i = nI j) (hj : j < mm_len k) (hdg : decode cc pc = .ok (.iastore, 1))
    (kk : ∀ F1 H1 locs1, mm_M G A s Fi y ad sc (va_up f k (upd (f k) j x)) F1 H1 locs1 → W p l e R s m args below meth c H1 locs1 cells slots Q (F0 m (pc + 1) ls rest)) : W p l e R s m args below meth c H locs cells slots Q (F0 m pc ls (.int x :: .int i :: .ref (ad k) :: rest)) := by
  subst hi
  have h := hm.2.1.2 k (by omega)
  have h' := h
  rw [mm_cl, if_neg h14] at h'
  refine fw_iast hx hb hz hm.1 h' (mm_in hj).1 hdg (fun H1 locs1 hw => ?_)
  rw [(mm_in hj).2] at hw
  refine kk _ H1 locs1 ⟨hw, ?_, mm_keep_set hm.2.2 h' (Or.inr rfl)⟩
  have h5 := mm_seta (g := upd (f k) j x) hm.2.1 (k := k) (by omega)
  rw [mm_cl, if_neg h14] at h5
  exact h5
theorem mm_zast (hx : p.tables.exec = Jvm.exec) (hb : c.code = cc) (hz : fw_Z G A s s.heap) (hm : mm_M G A s Fi y ad sc f F H locs) (j : Nat) {i x : Int32} (hi : i = nI j) (hj : j < 12) (hdg : decode cc pc = .ok (.bastore, 1))
    (kk : ∀ F1 H1 locs1, mm_M G A s Fi y ad sc (va_up f 14 (upd (f 14) j (vp_nar .boolean x))) F1 H1 locs1 → W p l e R s m args below meth c H1 locs1 cells slots Q (F0 m (pc + 1) ls rest)) : W p l e R s m args below meth c H locs cells slots Q (F0 m pc ls (.int x :: .int i :: .ref (ad 14) :: rest)) := by
  subst hi
  have h := hm.2.1.2 14 (by decide)
  rw [mm_cl, if_pos rfl] at h
  refine fw_zast hx hb hz hm.1 h (mm_in (k := 14) hj).1 hdg (fun H1 locs1 hw => ?_)
  rw [(mm_in (k := 14) hj).2] at hw
  refine kk _ H1 locs1 ⟨hw, ?_, mm_keep_set hm.2.2 h (Or.inr rfl)⟩
  have h5 := mm_seta (g := upd (f 14) j (vp_nar .boolean x)) hm.2.1 (k := 14) (by decide)
  rw [mm_cl, if_pos rfl] at h5
  exact h5
/-! contracts of the reference's methods: Ci, Cv on the object, Si static and reading alone -/
abbrev mm_Ci (l : Launch) (G : fw_G) (F : fw_F) (sz y : Nat) (ad : Nat → Nat) (yy : MethodName) (bytes : ByteArray) (maxL : Nat) (ret : FieldType) (rm : Room) (As : List Value) (P : Int32 → mm_S → mm_A → Prop) : Prop :=
  Met l yy (fw_ws yy bytes maxL (some ret)) rm (va_Pc (.ref y :: As) (fw_Pre G F sz)) (va_Qi (mm_post G y ad F P) (fw_B G (fw_W G F sz)) (fw_W G F sz)) rm.cells rm.slots (fw_W G F sz)
abbrev mm_Cv (l : Launch) (G : fw_G) (F : fw_F) (sz y : Nat) (ad : Nat → Nat) (yy : MethodName) (bytes : ByteArray) (maxL : Nat) (rm : Room) (As : List Value) (P : mm_S → mm_A → Prop) : Prop :=
  Met l yy (fw_ws yy bytes maxL none) rm (va_Pc (.ref y :: As) (fw_Pre G F sz)) (va_Qv (mm_postv G y ad F P) (fw_B G (fw_W G F sz)) (fw_W G F sz)) rm.cells rm.slots (fw_W G F sz)
abbrev fw_Si (l : Launch) (G : fw_G) (F : fw_F) (sz : Nat) (yy : MethodName) (bytes : ByteArray) (maxL : Nat) (ret : FieldType) (rm : Room) (As : List Value) (P : Int32 → Prop) : Prop :=
  Met l yy (fw_ws yy bytes maxL (some ret)) rm (va_Pc As (fw_Pre G F sz)) (va_Qi (fun r F1 => F1 = F ∧ P r) (fw_B G (fw_W G F sz)) (fw_W G F sz)) rm.cells rm.slots (fw_W G F sz)
variable {yy : MethodName} {bytes : ByteArray} {maxL nL n index : Nat} {ret : FieldType} {rm : Room} {own C : String} {As : List Value} {st0 : List Value}
theorem mm_calli {P : Int32 → mm_S → mm_A → Prop} (S : CallFix p m c cc nL s args fw_tb own) (hz : fw_Z G A s s.heap) (hm : mm_M G A s Fi y ad sc f F H locs) (hM : mm_Ci l G F H.size y ad yy bytes maxL ret rm As P)
    (hl : Cond.methodLink own index yy ∈ fw_tb) (hy : fw_yV RX9 yy bytes maxL (some ret) n) (hR : rm.frames + 1 ≤ R.frames ∧ 8 + (maxL + 11) + rm.locals ≤ R.locals) (hn : As.length = n) (hsize : ls.size = nL) (hstack : st0 = As.reverse ++ .ref y :: rest) (hW : (rest.map fun v => v.category).sum ≤ 8) (hdg : decode cc pc = .ok (.invokevirtual index, 3)) (hf : cells + rm.cells ≤ R.cells ∧ slots + rm.slots ≤ R.slots)
    (kk : ∀ r sc1 f1 F1 H1 locs1, mm_M G A s Fi y ad sc1 f1 F1 H1 locs1 → P r sc1 f1 → W p l e R s m args below meth c H1 locs1 (cells + rm.cells) (slots + rm.slots) Q (F0 m (pc + 3) ls (.int r :: rest))) : W p l e R s m args below meth c H locs cells slots Q (F0 m pc ls st0) :=
  fw_calli (fw_runV (rest := rest) S hz hm.1 hM (fw_cwV S.2.2.2.2 hl hy rfl rfl hR) (fw_rec hz hm.1 hm.2.1.1 (q := (RX9, TX9, 25)) rfl) hn hsize hstack hW hdg hf) hm.1 (fun r F1 H1 locs1 hw hp => by
    obtain ⟨sc1, f1, h1, h2, h3⟩ := hp
    exact kk r sc1 f1 F1 H1 locs1 ⟨hw, h1, hm.2.2.tr h2⟩ h3)
theorem mm_callv {P : mm_S → mm_A → Prop} (S : CallFix p m c cc nL s args fw_tb own) (hz : fw_Z G A s s.heap) (hm : mm_M G A s Fi y ad sc f F H locs) (hM : mm_Cv l G F H.size y ad yy bytes maxL rm As P)
    (hl : Cond.methodLink own index yy ∈ fw_tb) (hy : fw_yV RX9 yy bytes maxL none n) (hR : rm.frames + 1 ≤ R.frames ∧ 8 + (maxL + 11) + rm.locals ≤ R.locals) (hn : As.length = n) (hsize : ls.size = nL) (hstack : st0 = As.reverse ++ .ref y :: rest) (hW : (rest.map fun v => v.category).sum ≤ 8) (hdg : decode cc pc = .ok (.invokevirtual index, 3)) (hf : cells + rm.cells ≤ R.cells ∧ slots + rm.slots ≤ R.slots)
    (kk : ∀ sc1 f1 F1 H1 locs1, mm_M G A s Fi y ad sc1 f1 F1 H1 locs1 → P sc1 f1 → W p l e R s m args below meth c H1 locs1 (cells + rm.cells) (slots + rm.slots) Q (F0 m (pc + 3) ls rest)) : W p l e R s m args below meth c H locs cells slots Q (F0 m pc ls st0) :=
  fw_callv (fw_runV (rest := rest) S hz hm.1 hM (fw_cwV S.2.2.2.2 hl hy rfl rfl hR) (fw_rec hz hm.1 hm.2.1.1 (q := (RX9, TX9, 25)) rfl) hn hsize hstack hW hdg hf) hm.1 (fun F1 H1 locs1 hw hp => by
    obtain ⟨sc1, f1, h1, h2, h3⟩ := hp
    exact kk sc1 f1 F1 H1 locs1 ⟨hw, h1, hm.2.2.tr h2⟩ h3)
/-- a static method that reads alone, called from anywhere -/
theorem fw_calls {P : Int32 → Prop} (S : CallFix p m c cc nL s args fw_tb own) (hz : fw_Z G A s s.heap) (hw : fw_S G A s F H locs) (hM : fw_Si l G F H.size yy bytes maxL ret rm As P)
    (hl : Cond.methodLink own index yy ∈ fw_tb) (hy : fw_yS C yy bytes maxL (some ret) n) (hR : rm.frames + 1 ≤ R.frames ∧ 8 + (maxL + 11) + rm.locals ≤ R.locals) (hn : As.length = n) (hsize : ls.size = nL) (hstack : st0 = As.reverse ++ rest) (hW : (rest.map fun v => v.category).sum ≤ 8) (hdg : decode cc pc = .ok (.invokestatic index, 3)) (hf : cells + rm.cells ≤ R.cells ∧ slots + rm.slots ≤ R.slots)
    (kk : ∀ r H1 locs1, fw_S G A s F H1 locs1 → P r → W p l e R s m args below meth c H1 locs1 (cells + rm.cells) (slots + rm.slots) Q (F0 m (pc + 3) ls (.int r :: rest))) : W p l e R s m args below meth c H locs cells slots Q (F0 m pc ls st0) :=
  fw_calli (fw_runS (rest := rest) S hz hw hM (fw_cwS S.2.2.2.2 hl hy rfl rfl hR) hn hsize hstack hW hdg hf) hw (fun r F1 H1 locs1 hw1 hp => by
    obtain ⟨h2, h3⟩ := hp
    subst h2
    exact kk r H1 locs1 hw1 h3)
theorem mm_calls {P : Int32 → Prop} (S : CallFix p m c cc nL s args fw_tb own) (hz : fw_Z G A s s.heap) (hm : mm_M G A s Fi y ad sc f F H locs) (hM : fw_Si l G F H.size yy bytes maxL ret rm As P)
    (hl : Cond.methodLink own index yy ∈ fw_tb) (hy : fw_yS C yy bytes maxL (some ret) n) (hR : rm.frames + 1 ≤ R.frames ∧ 8 + (maxL + 11) + rm.locals ≤ R.locals) (hn : As.length = n) (hsize : ls.size = nL) (hstack : st0 = As.reverse ++ rest) (hW : (rest.map fun v => v.category).sum ≤ 8) (hdg : decode cc pc = .ok (.invokestatic index, 3)) (hf : cells + rm.cells ≤ R.cells ∧ slots + rm.slots ≤ R.slots)
    (kk : ∀ r H1 locs1, mm_M G A s Fi y ad sc f F H1 locs1 → P r → W p l e R s m args below meth c H1 locs1 (cells + rm.cells) (slots + rm.slots) Q (F0 m (pc + 3) ls (.int r :: rest))) : W p l e R s m args below meth c H locs cells slots Q (F0 m pc ls st0) :=
  fw_calls S hz hm.1 hM hl hy hR hn hsize hstack hW hdg hf (fun r H1 locs1 hw hp => kk r H1 locs1 ⟨hw, hm.2⟩ hp)
theorem mm_iret {P : Int32 → mm_S → mm_A → Prop} {v : Int32} {mc ms : Nat} (hx : p.tables.exec = Jvm.exec) (hb : c.code = cc) (hr : meth.sig.returnType = some .int) (hlk : meth.locks = false) (hc : cells ≤ mc) (hs : slots ≤ ms) (hm : mm_M G A s Fi y ad sc f F H locs) (hdg : decode cc pc = .ok (.ireturn, 1)) (hp : P v sc f) :
    W p l e R s m args below meth c H locs cells slots (MQ below (va_Qi (mm_post G y ad Fi P) (fw_B G A) A) args s mc ms A) (F0 m pc ls [.int v]) :=
  fw_iret hx hb hr hlk hc hs hm.1 hdg ⟨sc, f, hm.2.1, hm.2.2, hp⟩
theorem mm_zret {P : Int32 → mm_S → mm_A → Prop} {v : Int32} {mc ms : Nat} (hx : p.tables.exec = Jvm.exec) (hb : c.code = cc) (hr : meth.sig.returnType = some .boolean) (hn : v = 0 ∨ v = 1) (hlk : meth.locks = false) (hc : cells ≤ mc) (hs : slots ≤ ms) (hm : mm_M G A s Fi y ad sc f F H locs) (hdg : decode cc pc = .ok (.ireturn, 1)) (hp : P v sc f) :
    W p l e R s m args below meth c H locs cells slots (MQ below (va_Qi (mm_post G y ad Fi P) (fw_B G A) A) args s mc ms A) (F0 m pc ls [.int v]) :=
  fw_zret hx hb hr (by rcases hn with rfl | rfl <;> rfl) hlk hc hs hm.1 hdg ⟨sc, f, hm.2.1, hm.2.2, hp⟩
theorem mm_vret {P : mm_S → mm_A → Prop} {mc ms : Nat} (hx : p.tables.exec = Jvm.exec) (hb : c.code = cc) (hr : meth.sig.returnType = none) (hlk : meth.locks = false) (hc : cells ≤ mc) (hs : slots ≤ ms) (hm : mm_M G A s Fi y ad sc f F H locs) (hdg : decode cc pc = .ok (.return_, 1)) (hp : P sc f) :
    W p l e R s m args below meth c H locs cells slots (MQ below (va_Qv (mm_postv G y ad Fi P) (fw_B G A) A) args s mc ms A) (F0 m pc ls []) :=
  fw_vret hx hb hr hlk hc hs hm.1 hdg ⟨sc, f, hm.2.1, hm.2.2, hp⟩
/-- the value on top is another name of the same -/
theorem fw_top {x x' : Int32} (h : x = x') (k : W p l e R s m args below meth c H locs cells slots Q (F0 m pc ls (.int x' :: rest))) : W p l e R s m args below meth c H locs cells slots Q (F0 m pc ls (.int x :: rest)) := by
  rw [h]
  exact k
end MMR
