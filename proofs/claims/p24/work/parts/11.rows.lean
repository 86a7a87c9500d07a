/-! The kit's rows over the functional world. -/
section FWR
variable {p : Program} {l : Launch} {e : Env} {R : Room} {s : State} {m : MethodId} {args : Array Value} {below : List Frame} {meth : Method} {c : Code} {H : Heap} {locs : List Loc} {cells slots : Nat} {Q : State → Prop}
variable {cc : ByteArray} {pc : Nat} {ls : Array Slot} {rest : List Value} {G : fw_G} {A : Nat → Prop} {a : Nat} {F : fw_F} {t : fw_T}
theorem fw_get (hexec : p.tables.exec = Jvm.exec) (hb : c.code = cc) {own ref C : String} {T : u_T} {N ci index : Nat} {Ts : List Cond} (hts : ∀ w ∈ Ts, w.before args s = true) (hin : ∀ w ∈ u_ws C T N, w ∈ Ts) (hown : s.vm.findClass own = some m.cls) (hz : fw_Z G A s s.heap) (hw : fw_S G A s F H locs) {fs : List Value} (he : F a = some (t, fw_obj ci fs)) (hc : vwCl[ci]? = some (C, T, N)) (k : Nat) (hk : k < N) (hlink : (Cond.fieldLink own index ref (T k).2.1 (T k).2.2.1).before args s = true) (hsame : ∀ x, s.fieldFound? (T k).1 (T k).2.1 (T k).2.2.1 = some x → s.fieldFound? ref (T k).2.1 (T k).2.2.1 = some x) {v : Value} (hv : fs[k]? = some v) (hdg : decode cc pc = .ok (.getfield index, 3))
    (kk : W p l e R s m args below meth c H locs cells slots Q (F0 m (pc + 3) ls (v :: rest))) : W p l e R s m args below meth c H locs cells slots Q (F0 m pc ls (.ref a :: rest)) :=
  va_get hexec hb hts hin hown hz.1 (hw.at he) 0 rfl hc k hk hlink hsame hv hdg kk
theorem fw_at_obj {cell : Cell} {ci : Nat} {fs : List Value} {r : vw_C} {H : Heap} (hc : vwCl[ci]? = some r) (h1 : H[a]? = some cell) (h2 : cell.cls = G.1.1 ci) (h3 : cell.vm = .none) (h4 : ∀ k, k < r.2.2 → cell.slots[G.1.2 ci k]? = some (vp_V fs k)) : va_at G.1 vwCl (a, .inr (ci, fs)) H := ⟨r, hc, cell, h1, h2, h3, h4⟩
/-- a write at one cell -/
theorem fw_S.set {H1 : Heap} {t u : fw_T} {x y : va_E} {k : Nat} (hw : fw_S G A s F H locs) (ha : F a = some (t, .inl x)) (hy : va_at G.1 vwCl (a, y) H1) (z : H1.size = H.size) (oq : ∀ q : Nat, q ≠ a → H1[q]? = H[q]?) (hk : ∀ ci fs, x = .inr (ci, fs) → ∃ ci' fs', y = .inr (ci', fs')) : fw_S G A s (va_up F a (some (u, .inl y))) H1 (locs ++ [⟨a, k⟩]) :=
  ⟨fw_P_set hw.1 ha hy oq hk, hw.2.1.put z oq (hw.inA ha), fun q hq => hw.2.2 q (by rw [z] at hq; exact fw_W_set ha q hq)⟩
theorem fw_S.new {H1 : Heap} {y : va_E} (u : fw_T) (hw : fw_S G A s F H locs) (hA : ∀ q, s.heap.size ≤ q → A q) (hy : va_at G.1 vwCl (H.size, y) H1) (z : H1.size = H.size + 1) (oq : ∀ q : Nat, q < H.size → H1[q]? = H[q]?) : F H.size = none ∧ fw_S G A s (va_up F H.size (some (u, .inl y))) H1 locs := by
  obtain ⟨h1, h2⟩ := fw_P_new (u := u) hw.1 hy oq
  refine ⟨h1, h2, ⟨Nat.le_trans hw.2.1.1 (by omega), fun q g1 g2 => ?_, hw.2.1.2.2⟩, fun q hq => hw.2.2 q (fw_W_new (by omega) (Nat.le_refl _) q hq)⟩
  rw [oq q (Nat.lt_of_lt_of_le g1 hw.2.1.1)]
  exact hw.2.1.2.1 q g1 g2
theorem fw_put (hexec : p.tables.exec = Jvm.exec) (hb : c.code = cc) {own ref C : String} {T : u_T} {N ci index : Nat} {Ts : List Cond} (hts : ∀ w ∈ Ts, w.before args s = true) (hin : ∀ w ∈ u_ws C T N, w ∈ Ts) (ty0 : Nat → FieldType) (hty : ∀ k, k < N → parseFieldDescriptor (T k).2.2.1 = some (ty0 k)) (hnm : ∀ a, a < N → ∀ b, b < N → a ≠ b → (T a).2.1 ≠ (T b).2.1) (hown : s.vm.findClass own = some m.cls) (hz : fw_Z G A s s.heap) (hw : fw_S G A s F H locs) {fs fs' : List Value} (he : F a = some (t, fw_obj ci fs)) (hc : vwCl[ci]? = some (C, T, N)) (k : Nat) (hk : k < N) (hlink : (Cond.fieldLink own index ref (T k).2.1 (T k).2.2.1).before args s = true) (hsame : ∀ x, s.fieldFound? (T k).1 (T k).2.1 (T k).2.2.1 = some x → s.fieldFound? ref (T k).2.1 (T k).2.2.1 = some x) (hfin : (T k).2.2.2 = false) {ty : FieldType} {v : Value} (hd : parseFieldDescriptor (T k).2.2.1 = some ty) (hn : narrow ty v = v) (hfit : fits ty v = true) (hl : k < fs.length) (hfs : fs.set k v = fs')
    (hdg : decode cc pc = .ok (.putfield index, 3)) (kk : ∀ (H1 : Heap) (locs1 : List Loc), fw_S G A s (va_up F a (some (t, fw_obj ci fs'))) H1 locs1 → W p l e R s m args below meth c H1 locs1 cells slots Q (F0 m (pc + 3) ls rest)) : W p l e R s m args below meth c H locs cells slots Q (F0 m pc ls (v :: .ref a :: rest)) := by
  subst hfs
  have hap := va_apart (own := own) hts hin ty0 hty hnm hz.1 hc
  obtain ⟨r, h1, cell, q1, q2, q3, q4⟩ := hw.at he 0 _ rfl
  have hr : r = (C, T, N) := Option.some.inj (h1.symm.trans hc)
  subst hr
  obtain ⟨hS, hfc, kC, hkC, hkind⟩ := hz.1.1 ci _ hc
  obtain ⟨cf, kf, fi, f, hi, hsl⟩ := hS k hk
  have hlay := hts _ (hin _ (u_in_lay hk))
  unfold u_lay at hlay
  rw [if_neg (by rw [hfin]; decide)] at hlay
  have hst := (u_facts hfc hkC (u_lays hts hin hk) hi).1
  have h6 := u_store hfc hkC hkind hlay hi hd hn hfit
  refine W.putK hexec hb (f := f) ⟨hown, hlink, ⟨_, _, _, hsame _ hi⟩, hst⟩ (by rw [q2]; exact h6) q1 q3 (by rw [hsl]; exact k2_hasslot (q4 k hk)) rfl rfl hdg fun H' e1 e2 e3 => ?_
  rw [hsl] at e1 ⊢
  exact kk H' _ (hw.set he ⟨_, hc, t_OB.to (V := updV (vp_V fs) k v) ⟨_, e1, q2, q3, t_set q4 hap hk v⟩ (fun j _ => vp_updV_set hl v j)⟩ e2 e3 (fun _ _ _ => ⟨_, _, rfl⟩))
theorem fw_putF (hexec : p.tables.exec = Jvm.exec) (hb : c.code = cc) {own ref C : String} {T : u_T} {N ci index : Nat} {Ts : List Cond} (hts : ∀ w ∈ Ts, w.before args s = true) (hin : ∀ w ∈ u_ws C T N, w ∈ Ts) (ty0 : Nat → FieldType) (hty : ∀ k, k < N → parseFieldDescriptor (T k).2.2.1 = some (ty0 k)) (hnm : ∀ a, a < N → ∀ b, b < N → a ≠ b → (T a).2.1 ≠ (T b).2.1) (hown : s.vm.findClass own = some m.cls) (hz : fw_Z G A s s.heap) (hw : fw_S G A s F H locs) {fs fs' : List Value} (he : F a = some (t, fw_obj ci fs)) (hc : vwCl[ci]? = some (C, T, N)) (k : Nat) (hk : k < N) (hlink : (Cond.fieldLink own index ref (T k).2.1 (T k).2.2.1).before args s = true) (hsame : ∀ x, s.fieldFound? (T k).1 (T k).2.1 (T k).2.2.1 = some x → s.fieldFound? ref (T k).2.1 (T k).2.2.1 = some x) (hfin : (T k).2.2.2 = true) (hin2 : meth.name = "<init>") (hdecl : (T k).1 = own) {ty : FieldType} {v : Value} (hd : parseFieldDescriptor (T k).2.2.1 = some ty) (hn : narrow ty v = v) (hfit : fits ty v = true) (hl : k < fs.length) (hfs : fs.set k v = fs')
    (hdg : decode cc pc = .ok (.putfield index, 3)) (kk : ∀ (H1 : Heap) (locs1 : List Loc), fw_S G A s (va_up F a (some (t, fw_obj ci fs'))) H1 locs1 → W p l e R s m args below meth c H1 locs1 cells slots Q (F0 m (pc + 3) ls rest)) : W p l e R s m args below meth c H locs cells slots Q (F0 m pc ls (v :: .ref a :: rest)) := by
  subst hfs
  have hap := va_apart (own := own) hts hin ty0 hty hnm hz.1 hc
  obtain ⟨r, h1, cell, q1, q2, q3, q4⟩ := hw.at he 0 _ rfl
  have hr : r = (C, T, N) := Option.some.inj (h1.symm.trans hc)
  subst hr
  obtain ⟨hS, hfc, kC, hkC, hkind⟩ := hz.1.1 ci _ hc
  obtain ⟨cf, kf, fi, f, hi, hsl⟩ := hS k hk
  have hlay := hts _ (hin _ (u_in_lay hk))
  unfold u_lay at hlay
  rw [if_pos hfin] at hlay
  have hst := (u_facts hfc hkC (u_lays hts hin hk) hi).1
  have hcf : m.cls = cf := by
    obtain ⟨_, _, c', _, _, _, -, -, hf', -, -, -, hown2, -⟩ := Cond.laysFinal_spec hlay
    have e1 : c' = cf := by have := hi.symm.trans hf'; simp at this; exact this.1.symm
    rw [hdecl] at hown2
    rw [← e1]; exact Option.some.inj (hown.symm.trans hown2)
  have h6 := u_fits hfc hkC hkind (Or.inr hlay) hi hd hn hfit
  refine W.putFinK hexec hb hown hlink (hsame _ hi) hst hcf hin2 (by rw [q2]; exact h6) q1 q3 (by rw [hsl]; exact k2_hasslot (q4 k hk)) rfl rfl hdg fun H' e1 e2 e3 => ?_
  rw [hsl] at e1 ⊢
  exact kk H' _ (hw.set he ⟨_, hc, t_OB.to (V := updV (vp_V fs) k v) ⟨_, e1, q2, q3, t_set q4 hap hk v⟩ (fun j _ => vp_updV_set hl v j)⟩ e2 e3 (fun _ _ _ => ⟨_, _, rfl⟩))
theorem fw_new (u : fw_T) {c0 : Code} (hexec : p.tables.exec = Jvm.exec) (hb : c0.code = cc) {own C : String} {T : u_T} {N ci index : Nat} {Ts : List Cond} (hts : ∀ w ∈ Ts, w.before args s = true) (hin : ∀ w ∈ u_ws C T N, w ∈ Ts) (ty : Nat → FieldType) (hty : ∀ k, k < N → parseFieldDescriptor (T k).2.2.1 = some (ty k)) (hown : s.vm.findClass own = some m.cls) (hcl : (Cond.classLink own index C).before args s = true) (hinst : (Cond.instantiable C N).before args s = true) (hini : (Cond.initialized C).before args s = true)
    (hz : fw_Z G A s s.heap) (hw : fw_S G A s F H locs) (hA : ∀ q, s.heap.size ≤ q → A q) (hc : vwCl[ci]? = some (C, T, N)) {fs : List Value} (hfs : ∀ j, j < N → defaultValue (ty j) = vp_V fs j) (hcells : cells + 1 ≤ R.cells) (hslots : slots + N ≤ R.slots) (hdg : decode cc pc = .ok (.new index, 3))
    (kk : ∀ (q : Nat) (H1 : Heap), F q = none → fw_S G A s (va_up F q (some (u, fw_obj ci fs))) H1 locs →
      W p l e R s m args below meth c0 H1 locs (cells + 1) (slots + N) Q (F0 m (pc + 3) ls (.ref q :: rest))) : W p l e R s m args below meth c0 H locs cells slots Q (F0 m pc ls rest) := by
  have hKn := hz.1.1 ci _ hc
  refine W.newcK hexec hb hown hcl hinst hini rfl hdg hcells hslots hKn.2.1 rfl fun H1 kC hkC e1 z1 o1 => ?_
  obtain ⟨g1, g2⟩ := hw.new (y := .inr (ci, fs)) u hA ⟨_, hc, (u_born ty hts hin hKn hkC e1 hty).to hfs⟩ z1 o1
  exact kk H.size H1 g1 g2
theorem fw_newa (u : fw_T) (hexec : p.tables.exec = Jvm.exec) (hb : c.code = cc) {atype : ArrayType} (harr : (Cond.arrayClass (newarray.typeOf atype)).before args s = true) {cA : ClassId} (hcA : ∀ cX : ClassId, s.vm.findClass ("[" ++ (newarray.typeOf atype).toString) = some cX → cX = cA)
    (hw : fw_S G A s F H locs) (hA : ∀ q, s.heap.size ≤ q → A q)
    {n : Int32} {N' : Nat} {a0 : vp_A} (ha : ∀ cA : ClassId, vp_cell cA a0 = arrV cA N' (fun _ => defaultValue (newarray.typeOf atype))) (hn : ¬ n < 0) (hN : n.toNatClampNeg = N') (hbytes : N' * componentBytes (newarray.typeOf atype) ≤ 536870912) (hcells : cells + 1 ≤ R.cells) (hslots : slots + N' ≤ R.slots) (hdg : decode cc pc = .ok (.newarray atype, 2))
    (kk : ∀ (q : Nat) (H1 : Heap), F q = none → fw_S G A s (va_up F q (some (u, .inl (.inl (cA, a0))))) H1 locs →
      W p l e R s m args below meth c H1 locs (cells + 1) (slots + N') Q (F0 m (pc + 2) ls (.ref q :: rest))) : W p l e R s m args below meth c H locs cells slots Q (F0 m pc ls (.int n :: rest)) := by
  refine va_newaK hexec hb harr rfl hdg rfl hn hN hbytes hcells hslots rfl fun H1 cX e1 z1 o1 hAr hNm => ?_
  obtain rfl := hcA cX hNm
  obtain ⟨g1, g2⟩ := hw.new (y := .inl (cX, a0)) u hA (show H1[H.size]? = some (vp_cell _ _) by rw [ha]; exact e1) z1 o1
  exact kk H.size H1 g1 g2
theorem fw_iald (hexec : p.tables.exec = Jvm.exec) (hb : c.code = cc) (hz : fw_Z G A s s.heap) (hw : fw_S G A s F H locs) {n : Nat} {f : Nat → Int32} (ha : F a = some (t, fw_ia (fw_cI G) n f)) {i : Int32} (hin : vp_in i n) (hdg : decode cc pc = .ok (.iaload, 1))
    (kk : W p l e R s m args below meth c H locs cells slots Q (F0 m (pc + 1) ls (.int (f i.toNatClampNeg) :: rest))) : W p l e R s m args below meth c H locs cells slots Q (F0 m pc ls (.int i :: .ref a :: rest)) :=
  va_iald hexec hb hz.1 (hw.at ha) 0 0 rfl rfl hin hdg kk
theorem fw_iast (hexec : p.tables.exec = Jvm.exec) (hb : c.code = cc) (hz : fw_Z G A s s.heap) (hw : fw_S G A s F H locs) {n : Nat} {f : Nat → Int32} (ha : F a = some (t, fw_ia (fw_cI G) n f)) {i : Int32} {x : Int32} (hin : vp_in i n) (hdg : decode cc pc = .ok (.iastore, 1))
    (kk : ∀ (H1 : Heap) (locs1 : List Loc), fw_S G A s (va_up F a (some (t, fw_ia (fw_cI G) n (upd f i.toNatClampNeg x)))) H1 locs1 → W p l e R s m args below meth c H1 locs1 cells slots Q (F0 m (pc + 1) ls rest)) : W p l e R s m args below meth c H locs cells slots Q (F0 m pc ls (.int x :: .int i :: .ref a :: rest)) := by
  have hP := hw.at ha
  refine W.iast hexec hb (hP 0 _ rfl) ((hz.1.2 0 _ rfl).1 n (fun j => .int (f j))) (fun q => by cases q) (by show ¬ (i < 0 ∨ (arrV _ _ _).slots.size ≤ _); rw [arrV_size]; exact hin) rfl rfl hdg fun H1 e z oq => ?_
  refine kk H1 _ (hw.set ha ?_ z oq (fun _ _ h => by cases h))
  show H1[a]? = some (vp_cell _ _)
  rw [e]
  rw [vp_cell_i, vp_cell_i, arrV_store]
  congr 2
  funext q
  by_cases hq : q = i.toNatClampNeg
  · subst hq
    simp [updV, upd]
  · simp [updV, upd, hq]
/-! the ends -/
theorem fw_end {v : Option Value} {post : fw_F → Prop} {Qc : Outcome → Prop} (hw : fw_S G A s F H locs) (hp : post F) : ∀ t : State, t.heap = H → s.WarmedH t.vm → ((∃ u : fw_F, post u ∧ fw_B G A u t) ∧ va_F A s t) := fun t ht _ => ⟨⟨F, hp, by rw [fw_B, ht]; exact ⟨hw.1, hw.2.2⟩⟩, hw.2.1.F ht⟩
theorem fw_iret {post : Int32 → fw_F → Prop} {v : Int32} (hexec : p.tables.exec = Jvm.exec) (hb : c.code = cc) (hr : meth.sig.returnType = some .int) (hlocks : meth.locks = false) {mc ms : Nat} (hc : cells ≤ mc) (hs : slots ≤ ms) (hw : fw_S G A s F H locs) (hdg : decode cc pc = .ok (.ireturn, 1)) (hp : post v F) :
    W p l e R s m args below meth c H locs cells slots (MQ below (va_Qi post (fw_B G A) A) args s mc ms A) (F0 m pc ls [.int v]) := by
  refine W.widen hc hs ?_
  exact W.iret hexec hb hr (fun t ht hW => ⟨⟨v, F, rfl, hp, by rw [fw_B, ht]; exact ⟨hw.1, hw.2.2⟩⟩, hw.2.1.F ht⟩) hw.2.1.2.2 hdg hlocks
theorem fw_zret {post : Int32 → fw_F → Prop} {v : Int32} (hexec : p.tables.exec = Jvm.exec) (hb : c.code = cc) (hr : meth.sig.returnType = some .boolean) (hn : narrow .boolean (.int v) = .int v) (hlocks : meth.locks = false) {mc ms : Nat} (hc : cells ≤ mc) (hs : slots ≤ ms) (hw : fw_S G A s F H locs) (hdg : decode cc pc = .ok (.ireturn, 1)) (hp : post v F) :
    W p l e R s m args below meth c H locs cells slots (MQ below (va_Qi post (fw_B G A) A) args s mc ms A) (F0 m pc ls [.int v]) := by
  refine W.widen hc hs ?_
  exact W.zret hexec hb hr hn (fun t ht hW => ⟨⟨v, F, rfl, hp, by rw [fw_B, ht]; exact ⟨hw.1, hw.2.2⟩⟩, hw.2.1.F ht⟩) hw.2.1.2.2 hdg hlocks
theorem fw_lret {post : Int64 → fw_F → Prop} {v : Int64} (hexec : p.tables.exec = Jvm.exec) (hb : c.code = cc) (hr : meth.sig.returnType = some .long) (hlocks : meth.locks = false) {mc ms : Nat} (hc : cells ≤ mc) (hs : slots ≤ ms) (hw : fw_S G A s F H locs) (hdg : decode cc pc = .ok (.lreturn, 1)) (hp : post v F) :
    W p l e R s m args below meth c H locs cells slots (MQ below (va_Ql post (fw_B G A) A) args s mc ms A) (F0 m pc ls [.long v]) := by
  refine W.widen hc hs ?_
  exact W.lret hexec hb hr (fun t ht hW => ⟨⟨v, F, rfl, hp, by rw [fw_B, ht]; exact ⟨hw.1, hw.2.2⟩⟩, hw.2.1.F ht⟩) hw.2.1.2.2 hdg hlocks
theorem fw_vret {post : fw_F → Prop} (hexec : p.tables.exec = Jvm.exec) (hb : c.code = cc) (hr : meth.sig.returnType = none) (hlocks : meth.locks = false) {mc ms : Nat} (hc : cells ≤ mc) (hs : slots ≤ ms) (hw : fw_S G A s F H locs) (hdg : decode cc pc = .ok (.return_, 1)) (hp : post F) :
    W p l e R s m args below meth c H locs cells slots (MQ below (va_Qv post (fw_B G A) A) args s mc ms A) (F0 m pc ls []) := by
  refine W.widen hc hs ?_
  exact W.vret hexec hb hr (fun t ht hW => ⟨⟨F, rfl, hp, by rw [fw_B, ht]; exact ⟨hw.1, hw.2.2⟩⟩, hw.2.1.F ht⟩) hw.2.1.2.2 hdg hlocks
/-- an answer that is a reference or null -/
def fw_Qo (post : Option Nat → fw_F → Prop) (B : fw_F → State → Prop) (A : Nat → Prop) : Array Value → State → Outcome → State → Prop := fun _ st oc t => (∃ (r : Option Nat) (u : fw_F), oc = .returned (some (va_rf r)) ∧ post r u ∧ B u t) ∧ va_F A st t
theorem fw_aret {post : Option Nat → fw_F → Prop} {v : Option Nat} {x : Value} {n : String} (hexec : p.tables.exec = Jvm.exec) (hb : c.code = cc) (hr : meth.sig.returnType = some (.object n)) (hlocks : meth.locks = false) {mc ms : Nat} (hc : cells ≤ mc) (hs : slots ≤ ms) (hw : fw_S G A s F H locs) (hdg : decode cc pc = .ok (.areturn, 1)) (hx : x = va_rf v) (hp : post v F) :
    W p l e R s m args below meth c H locs cells slots (MQ below (fw_Qo post (fw_B G A) A) args s mc ms A) (F0 m pc ls [x]) := by
  subst hx
  refine W.widen hc hs ?_
  refine W.aret hexec hb hr (Or.inl ⟨_, rfl⟩) ?_ (fun t ht hW => ⟨⟨v, F, rfl, hp, by rw [fw_B, ht]; exact ⟨hw.1, hw.2.2⟩⟩, hw.2.1.F ht⟩) hw.2.1.2.2 hdg hlocks
  cases v with
  | none => exact Or.inl rfl
  | some a => exact Or.inr ⟨a, rfl⟩
/-! calls -/
variable {y : MethodName} {bytes : ByteArray} {maxL nL mc ms n index : Nat} {ret : Option FieldType} {ws : List Cond} {rm : Room} {Ts : List Cond} {own C : String} {b : Addr} {As : List Value} {st0 : List Value}
abbrev fw_A (G : fw_G) (F : fw_F) (H : Heap) : Nat → Prop := fw_W G F H.size
theorem fw_S.stepA (hw : fw_S G A s F H locs) : (∀ q, q < H.size → fw_A G F H q → A q) ∧ ∀ q, fw_A G F H q → A q := ⟨fun q _ h => hw.2.2 q h, fun q h => hw.2.2 q h⟩
theorem fw_preS {as : List Value} (hz : fw_Z G A s s.heap) (hw : fw_S G A s F H locs) : PreS s H (va_Pc as (fw_Pre G F H.size)) as :=
  ⟨fun a U g mk q => ⟨q.1, q.2.1, q.2.2.1, q.2.2.2.to (State.WarmedH.refl U) (fun _ _ _ => rfl) (fun _ h => h)⟩, fun U hU hW => ⟨rfl, by rw [hU], by rw [hU]; exact hw.1, by rw [hU]; exact hz.to hW (fun q h1 h2 => hw.2.1.2.1 q h1 h2) hw.2.2⟩⟩
theorem fw_after {post : fw_F → Prop} {F1 : fw_F} {H1 : Heap} {locs1 : List Loc} {t : State} (hw : fw_S G A s F H locs) (ht : t.heap = H1) (hB : fw_B G (fw_A G F H) F1 t) (hS : va_S A s.heap H1 locs1) : fw_S G A s F1 H1 locs1 := by
  subst ht
  exact ⟨hB.1, hS, fun q hq => hw.2.2 q (hB.2 q hq)⟩
theorem fw_calli {post : Int32 → fw_F → Prop} {as : Array Value} (hr : va_Run p l e R s m args below meth c H locs cells slots mc ms (F0 m pc ls st0) rest (va_Qi post (fw_B G (fw_A G F H)) (fw_A G F H) as) (fw_A G F H)) (hw : fw_S G A s F H locs)
    (kk : ∀ (r : Int32) (F1 : fw_F) (H1 : Heap) (locs1 : List Loc), fw_S G A s F1 H1 locs1 → post r F1 → W p l e R s m args below meth c H1 locs1 (cells + mc) (slots + ms) Q (F0 m (pc + 3) ls (.int r :: rest))) : W p l e R s m args below meth c H locs cells slots Q (F0 m pc ls st0) :=
  va_calli hr hw.2.1 hw.stepA.1 hw.stepA.2 (fun r u t H1 locs1 ht _ hp hB _ _ hS => kk r u H1 locs1 (fw_after (post := post r) hw ht hB hS) hp)
theorem fw_calll {post : Int64 → fw_F → Prop} {as : Array Value} (hr : va_Run p l e R s m args below meth c H locs cells slots mc ms (F0 m pc ls st0) rest (va_Ql post (fw_B G (fw_A G F H)) (fw_A G F H) as) (fw_A G F H)) (hw : fw_S G A s F H locs)
    (kk : ∀ (r : Int64) (F1 : fw_F) (H1 : Heap) (locs1 : List Loc), fw_S G A s F1 H1 locs1 → post r F1 → W p l e R s m args below meth c H1 locs1 (cells + mc) (slots + ms) Q (F0 m (pc + 3) ls (.long r :: rest))) : W p l e R s m args below meth c H locs cells slots Q (F0 m pc ls st0) :=
  va_calll hr hw.2.1 hw.stepA.1 hw.stepA.2 (fun r u t H1 locs1 ht _ hp hB _ _ hS => kk r u H1 locs1 (fw_after (post := post r) hw ht hB hS) hp)
theorem fw_callv {post : fw_F → Prop} {as : Array Value} (hr : va_Run p l e R s m args below meth c H locs cells slots mc ms (F0 m pc ls st0) rest (va_Qv post (fw_B G (fw_A G F H)) (fw_A G F H) as) (fw_A G F H)) (hw : fw_S G A s F H locs)
    (kk : ∀ (F1 : fw_F) (H1 : Heap) (locs1 : List Loc), fw_S G A s F1 H1 locs1 → post F1 → W p l e R s m args below meth c H1 locs1 (cells + mc) (slots + ms) Q (F0 m (pc + 3) ls rest)) : W p l e R s m args below meth c H locs cells slots Q (F0 m pc ls st0) :=
  va_callv hr hw.2.1 hw.stepA.1 hw.stepA.2 (fun u t H1 locs1 ht _ hp hB _ _ hS => kk u H1 locs1 (fw_after (post := post) hw ht hB hS) hp)
theorem fw_callo {post : Option Nat → fw_F → Prop} {as : Array Value} (hr : va_Run p l e R s m args below meth c H locs cells slots mc ms (F0 m pc ls st0) rest (fw_Qo post (fw_B G (fw_A G F H)) (fw_A G F H) as) (fw_A G F H)) (hw : fw_S G A s F H locs)
    (kk : ∀ (r : Option Nat) (F1 : fw_F) (H1 : Heap) (locs1 : List Loc), fw_S G A s F1 H1 locs1 → post r F1 → W p l e R s m args below meth c H1 locs1 (cells + mc) (slots + ms) Q (F0 m (pc + 3) ls (va_rf r :: rest))) : W p l e R s m args below meth c H locs cells slots Q (F0 m pc ls st0) := by
  intro T hT X
  obtain ⟨v, st₀, t, T', L, h0, X', hL, e1, e2, ⟨⟨r, u, hv, hp, hb⟩, hz, hk⟩, st⟩ := hr T hT X
  cases hv
  rw [h0] at hz hk
  obtain ⟨t2, a1, b1⟩ := kk r u T'.heap (locs ++ L) (fw_after (post := post r) hw e1.symm hb ⟨Nat.le_trans hw.2.1.1 (by rw [e1]; exact hz), fun q h1 h2 => by rw [e1, hk q (Nat.lt_of_lt_of_le h1 hw.2.1.1) (fun z => h2 (hw.2.2 q z))]; exact hw.2.1.2.1 q h1 h2, fun q hq => by
      rcases List.mem_append.mp hq with h | h
      · exact hw.2.1.2.2 q h
      · exact hw.2.2 _ (hL q h)⟩) hp T' rfl X'
  exact ⟨t2, st t2 a1, b1⟩
theorem fw_rec (hz : fw_Z G A s s.heap) (hw : fw_S G A s F H locs) {ci : Nat} {fs : List Value} {q : vw_C} (hF : F b = some (t, fw_obj ci fs)) (hc : vwCl[ci]? = some q) : ∃ cell : Cell, H[b]? = some cell ∧ cell.vm.isStatics = false ∧ s.vm.findClass q.1 = some cell.cls := va_recv hz.1 (hw.at hF) hc (q0 := 0) rfl
theorem fw_recL (hz : fw_Z G A s s.heap) (hw : fw_S G A s F H locs) {arr k : Nat} {f : Nat → Nat} (hF : F b = some (t, fw_ls arr k f)) : ∃ cell : Cell, H[b]? = some cell ∧ cell.vm.isStatics = false ∧ s.vm.findClass RJx4a65c = some cell.cls := by
  obtain ⟨mc, cap, row, h1, -⟩ := hw.1.1 b t _ hF
  exact va_recv (q := (RJx4a65c, TJx4a65c, 3)) (ws := [(b, .inr (0, [.int mc, .ref arr, .int (nI k)]))]) (q0 := 0) (ci := 0) hz.1 (fun k q hk => by cases k with | zero => cases hk; exact h1 | succ k => cases hk) rfl rfl
theorem fw_runV {Qc : Array Value → State → Outcome → State → Prop} (S : CallFix p m c cc nL s args Ts own) (hz : fw_Z G A s s.heap) (hw : fw_S G A s F H locs) (hM : Met l y ws rm (va_Pc (.ref b :: As) (fw_Pre G F H.size)) Qc mc ms (fw_A G F H)) (cw : CallW R s args own C index y bytes maxL ret ws rm mc ms n)
    (hrec : ∃ cell : Cell, H[b]? = some cell ∧ cell.vm.isStatics = false ∧ s.vm.findClass C = some cell.cls) (hn : As.length = n) (hsize : ls.size = nL) (hstack : st0 = As.reverse ++ .ref b :: rest) (hW : (rest.map fun v => v.category).sum ≤ 8) (hdg : decode cc pc = .ok (.invokevirtual index, 3)) (hf : cells + mc ≤ R.cells ∧ slots + ms ≤ R.slots) :
    va_Run p l e R s m args below meth c H locs cells slots mc ms (F0 m pc ls st0) rest (Qc (Value.ref b :: As).toArray) (fw_A G F H) :=
  va_runV (rest := rest) S hM cw ⟨(fw_preS (as := .ref b :: As) hz hw).1, hrec, (fw_preS (as := .ref b :: As) hz hw).2⟩ rfl hn hsize hstack (lv_room (m := m) (pc := pc) (ls := ls) (rest := st0) hW) hdg hf
theorem fw_runS {Qc : Array Value → State → Outcome → State → Prop} (S : CallFix p m c cc nL s args Ts own) (hz : fw_Z G A s s.heap) (hw : fw_S G A s F H locs) (hM : Met l y ws rm (va_Pc As (fw_Pre G F H.size)) Qc mc ms (fw_A G F H)) (cw : CallB R s args own index y bytes maxL ret ws rm mc ms n ∧ (Cond.static y).before args s = true)
    (hn : As.length = n) (hsize : ls.size = nL) (hstack : st0 = As.reverse ++ rest) (hW : (rest.map fun v => v.category).sum ≤ 8) (hdg : decode cc pc = .ok (.invokestatic index, 3)) (hf : cells + mc ≤ R.cells ∧ slots + ms ≤ R.slots) :
    va_Run p l e R s m args below meth c H locs cells slots mc ms (F0 m pc ls st0) rest (Qc As.toArray) (fw_A G F H) :=
  va_runS (rest := rest) S hM cw (fw_preS hz hw) rfl hn hsize hstack (lv_room (m := m) (pc := pc) (ls := ls) (rest := st0) hW) hdg hf
theorem fw_runI {Qc : Array Value → State → Outcome → State → Prop} (S : CallFix p m c cc nL s args Ts own) (hz : fw_Z G A s s.heap) (hw : fw_S G A s F H locs) (hM : Met l y ws rm (va_Pc (.ref b :: As) (fw_Pre G F H.size)) Qc mc ms (fw_A G F H)) (cw : CallB R s args own index y bytes maxL none ws rm mc ms n ∧ y.name = "<init>" ∧ (Cond.instanceMethod y).before args s = true)
    (hn : As.length = n) (hsize : ls.size = nL) (hstack : st0 = As.reverse ++ .ref b :: rest) (hW : (rest.map fun v => v.category).sum ≤ 8) (hdg : decode cc pc = .ok (.invokespecial index, 3)) (hf : cells + mc ≤ R.cells ∧ slots + ms ≤ R.slots) :
    va_Run p l e R s m args below meth c H locs cells slots mc ms (F0 m pc ls st0) rest (Qc (Value.ref b :: As).toArray) (fw_A G F H) :=
  va_runI (rest := rest) S hM cw (fw_preS (as := .ref b :: As) hz hw) rfl hn hsize hstack (lv_room (m := m) (pc := pc) (ls := ls) (rest := st0) hW) hdg hf
end FWR
/-- a method's contract out of its walk -/
theorem fw_met {l : Launch} {y : MethodName} {rm : Room} {Qc : Array Value → State → Outcome → State → Prop} {mc ms : Nat} {cc : ByteArray} {maxL : Nat} {ret : Option FieldType} {G : fw_G} {F : fw_F} {sz : Nat} {As : List Value} {lv : List (Nat × Value)}
    (hy : plainName y.cls = true) (hlen : (lg_sl As).length ≤ maxL) (hlv : lv_args 0 As = lv)
    (body : ∀ (A : Nat → Prop), A = fw_W G F sz → ∀ (p : Program) (e : Env) (s : State) (m : MethodId) (below : List Frame) (meth : Method) (c : Code) (ls : Array Slot), p.tables.exec = Jvm.exec → c.code = cc → c.maxLocals = maxL → s.vm.findClass y.cls = some m.cls → (∀ w ∈ fw_tb, w.before As.toArray s = true) → meth.sig.returnType = ret → meth.locks = false → (y.name = "<init>" → meth.name = "<init>") → fw_Z G A s s.heap → s.heap.size = sz → fw_S G A s F s.heap [] → (∀ q, s.heap.size ≤ q → A q) → lv_has ls maxL lv →
      W p l e rm s m As.toArray below meth c s.heap [] 0 0 (MQ below Qc As.toArray s mc ms A) (F0 m 0 ls [])) : Met l y (fw_ws y cc maxL ret) rm (va_Pc As (fw_Pre G F sz)) Qc mc ms (fw_W G F sz) := by
  refine Met.ofW (cc := cc) (maxL := maxL) (ret := ret) hy rfl ?_
  intro p e s m args below meth c s₁ B hml hv
  obtain ⟨rfl, hsz, hP, hZ⟩ := hv
  subst hsz
  have hl := lv_entry As (n := maxL) hlen
  rw [lg_entry_eq]
  generalize (lg_sl As ++ List.replicate (maxL - (lg_sl As).length) Slot.unset).toArray = ls at hl ⊢
  rw [hlv] at hl
  exact body _ rfl p e s m below meth c ls B.exec B.bytes hml (findClass_of_methodNamed B.named) (fun w hw => atoms_spec (ws := fw_ws y cc maxL ret) B.pre w (List.mem_cons_of_mem _ hw)) B.returns B.notSynchronized (fun hn => by rw [← hn]; exact (name_of_methodNamed B.named B.method).1) hZ rfl (fw_S.start hP) (fun q hq => Or.inr (Or.inr hq)) hl
theorem fw_cwV {R : Room} {s : State} {args : Array Value} {own C : String} {index maxL mc ms n : Nat} {y : MethodName} {bytes : ByteArray} {ret : Option FieldType} {rm : Room} (ht : ∀ w ∈ fw_tb, w.before args s = true) (hl : Cond.methodLink own index y ∈ fw_tb) (h : fw_yV C y bytes maxL ret n) (hrc : rm.cells = mc) (hrs : rm.slots = ms) (hR : rm.frames + 1 ≤ R.frames ∧ 8 + (maxL + 11) + rm.locals ≤ R.locals) : CallW R s args own C index y bytes maxL ret (fw_ws y bytes maxL ret) rm mc ms n := cwV n ht (fw_gV hl h) rfl hrc hrs h.2.2.2.2 hR
theorem fw_cwS {R : Room} {s : State} {args : Array Value} {own C : String} {index maxL mc ms n : Nat} {y : MethodName} {bytes : ByteArray} {ret : Option FieldType} {rm : Room} (ht : ∀ w ∈ fw_tb, w.before args s = true) (hl : Cond.methodLink own index y ∈ fw_tb) (h : fw_yS C y bytes maxL ret n) (hrc : rm.cells = mc) (hrs : rm.slots = ms) (hR : rm.frames + 1 ≤ R.frames ∧ 8 + (maxL + 11) + rm.locals ≤ R.locals) : CallB R s args own index y bytes maxL ret (fw_ws y bytes maxL ret) rm mc ms n ∧ (Cond.static y).before args s = true := va_cwS n ht (fw_gS hl h) rfl hrc hrs h.2.2.2.2 hR
theorem fw_cwI {R : Room} {s : State} {args : Array Value} {own C : String} {index maxL mc ms n : Nat} {y : MethodName} {bytes : ByteArray} {rm : Room} (ht : ∀ w ∈ fw_tb, w.before args s = true) (hl : Cond.methodLink own index y ∈ fw_tb) (h : fw_yI C y bytes maxL n) (hrc : rm.cells = mc) (hrs : rm.slots = ms) (hR : rm.frames + 1 ≤ R.frames ∧ 8 + (maxL + 11) + rm.locals ≤ R.locals) : CallB R s args own index y bytes maxL none (fw_ws y bytes maxL none) rm mc ms n ∧ y.name = "<init>" ∧ (Cond.instanceMethod y).before args s = true := cwI n ht (fw_gw h.2.2.1) rfl hrc hrs (by rw [h.2.2.2.2.1]; exact ht _ h.2.1) (ht _ hl) (ht _ h.1) h.2.2.2.1 h.2.2.2.2.2 hR

