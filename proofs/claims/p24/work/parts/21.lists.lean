/-! Lists: rows for arrays of references over the functional world; a list's two cells, opened and closed. -/
abbrev fw_oa (G : fw_G) (n : Nat) (row : Nat → Option Nat) : fw_E := .inl (.inl (fw_cO G, n, .inr (.inr (.inr (.inr row)))))
section FWL
variable {p : Program} {l : Launch} {e : Env} {R : Room} {s : State} {m : MethodId} {args : Array Value} {below : List Frame} {meth : Method} {c : Code} {H : Heap} {locs : List Loc} {cells slots : Nat} {Q : State → Prop}
variable {cc : ByteArray} {pc : Nat} {ls : Array Slot} {rest : List Value} {G : fw_G} {A : Nat → Prop} {a : Nat} {F : fw_F} {t : fw_T}
theorem fw_any (hz : fw_Z G A s s.heap) (hw : fw_S G A s F H locs) {v ci : Nat} {fs : List Value} (hF : F v = some (t, fw_obj ci fs)) : va_Any "java/lang/Object" s H v := by
  have h1 := hw.at hF 0 _ rfl
  obtain ⟨r, hr, -⟩ := id h1
  refine va_rAny (q0 := 0) hz.1 (hw.at hF) rfl hr (fun comp c0 h3 h4 => ?_)
  obtain ⟨c1, t1, f1, f2, f3⟩ := Cond.castable_spec (va_Nw.use (A := #[]) rfl (hz.2.2.2.2.2.1 ci r hr))
  cases h3.symm.trans f2
  cases h4.symm.trans f1
  exact f3
theorem fw_aald (hexec : p.tables.exec = Jvm.exec) (hb : c.code = cc) (hz : fw_Z G A s s.heap) (hw : fw_S G A s F H locs) {n : Nat} {row : Nat → Option Nat} (ha : F a = some (t, fw_oa G n row)) {i : Int32} (j : Nat) (hi : i = nI j) (hj : j < n) (hn : n < 2 ^ 31) (hdg : decode cc pc = .ok (.aaload, 1))
    (kk : W p l e R s m args below meth c H locs cells slots Q (F0 m (pc + 1) ls (va_rf (row j) :: rest))) : W p l e R s m args below meth c H locs cells slots Q (F0 m pc ls (.int i :: .ref a :: rest)) := by
  subst hi
  refine va_aldq hexec hb hz.1 (hw.at ha) 0 2 rfl rfl (vp_in_nI hj hn) hdg ?_
  rw [nI_clamp (by omega)]
  exact kk
theorem fw_alen (hexec : p.tables.exec = Jvm.exec) (hb : c.code = cc) (hz : fw_Z G A s s.heap) (hw : fw_S G A s F H locs) {n : Nat} {row : Nat → Option Nat} (ha : F a = some (t, fw_oa G n row)) (hdg : decode cc pc = .ok (.arraylength, 1))
    (kk : W p l e R s m args below meth c H locs cells slots Q (F0 m (pc + 1) ls (.int (nI n) :: rest))) : W p l e R s m args below meth c H locs cells slots Q (F0 m pc ls (.ref a :: rest)) :=
  va_alen hexec hb hz.1 (hw.at ha) 0 2 rfl rfl rfl hdg kk
theorem fw_alenE (hexec : p.tables.exec = Jvm.exec) (hb : c.code = cc) (hz : fw_Z G A s s.heap) (hw : fw_S G A s F H locs) (hdg : decode cc pc = .ok (.arraylength, 1))
    (kk : W p l e R s m args below meth c H locs cells slots Q (F0 m (pc + 1) ls (.int (nI 0) :: rest))) : W p l e R s m args below meth c H locs cells slots Q (F0 m pc ls (.ref (fw_ea G) :: rest)) :=
  va_tlen hexec hb hz.2.2.1 hw.2.1 rfl hdg kk
theorem fw_aast (hexec : p.tables.exec = Jvm.exec) (hb : c.code = cc) (hz : fw_Z G A s s.heap) (hw : fw_S G A s F H locs) {n : Nat} {row : Nat → Option Nat} (ha : F a = some (t, fw_oa G n row)) {tv : fw_T} {v ci : Nat} {fs : List Value} (hv : F v = some (tv, fw_obj ci fs)) {i : Int32} (j : Nat) (hi : i = nI j) (hj : j < n) (hn : n < 2 ^ 31) (hdg : decode cc pc = .ok (.aastore, 1))
    (kk : ∀ (H1 : Heap) (locs1 : List Loc), fw_S G A s (va_up F a (some (t, fw_oa G n (va_up row j (some v))))) H1 locs1 → W p l e R s m args below meth c H1 locs1 cells slots Q (F0 m (pc + 1) ls rest)) : W p l e R s m args below meth c H locs cells slots Q (F0 m pc ls (.ref v :: .int i :: .ref a :: rest)) := by
  subst hi
  have hin := vp_in_nI hj hn
  have hcl : (nI j).toNatClampNeg = j := nI_clamp (by omega)
  have h0 : ¬ nI j < 0 := fun q => hin (Or.inl q)
  obtain ⟨cellV, g1, g3, ⟨kC, hkC⟩, hasg⟩ := fw_any hz hw hv
  obtain ⟨kA, comp, k1, k2, k3, -⟩ := (hz.1.2 2 _ rfl).2
  obtain ⟨kE, hkE, -⟩ := Vm.findClass_spec k3
  refine W.aast hexec hb (hw.at ha 0 _ rfl) (fun q h => by cases h) (fun h => by cases h) k1 k2 rfl hkE ⟨h0, by show _ < (arrV _ _ _).slots.size; rw [arrV_size, hcl]; exact hj⟩ g1 (fun q h => by rw [h] at g3; cases g3) hkC (hasg _ k3) rfl rfl hdg fun H1 e z oq => ?_
  refine kk H1 _ (hw.set ha ?_ z oq (fun _ _ h => by cases h))
  show H1[a]? = some (vp_cell _ _)
  rw [e]
  rw [vp_cell_q, vp_cell_q, arrV_store, hcl]
  congr 2
  funext q
  by_cases hq : q = j
  · subst hq
    simp [updV, va_up, va_rf]
  · simp [updV, va_up, hq]
theorem fw_aastN (hexec : p.tables.exec = Jvm.exec) (hb : c.code = cc) (hz : fw_Z G A s s.heap) (hw : fw_S G A s F H locs) {n : Nat} {row : Nat → Option Nat} (ha : F a = some (t, fw_oa G n row)) {i : Int32} (j : Nat) (hi : i = nI j) (hj : j < n) (hn : n < 2 ^ 31) (hdg : decode cc pc = .ok (.aastore, 1))
    (kk : ∀ (H1 : Heap) (locs1 : List Loc), fw_S G A s (va_up F a (some (t, fw_oa G n (va_up row j none)))) H1 locs1 → W p l e R s m args below meth c H1 locs1 cells slots Q (F0 m (pc + 1) ls rest)) : W p l e R s m args below meth c H locs cells slots Q (F0 m pc ls (.null :: .int i :: .ref a :: rest)) := by
  subst hi
  have hin := vp_in_nI hj hn
  have hcl : (nI j).toNatClampNeg = j := nI_clamp (by omega)
  refine va_WaastN hexec hb (hw.at ha 0 _ rfl) ((hz.1.2 2 _ rfl).1 n (fun k => va_rf (row k))) (fun h => by cases h) (by show ¬ (nI j < 0 ∨ (arrV _ _ _).slots.size ≤ _); rw [arrV_size]; exact hin) rfl rfl hdg fun H1 e z oq => ?_
  refine kk H1 _ (hw.set ha ?_ z oq (fun _ _ h => by cases h))
  show H1[a]? = some (vp_cell _ _)
  rw [e]
  rw [vp_cell_q, vp_cell_q, arrV_store, hcl]
  congr 2
  funext q
  by_cases hq : q = j
  · subst hq
    simp [updV, va_up, va_rf]
  · simp [updV, va_up, hq]
theorem fw_anew (u : fw_T) (hexec : p.tables.exec = Jvm.exec) (hb : c.code = cc) {own : String} {index : Nat} (hown : s.vm.findClass own = some m.cls) (hclink : (Cond.classLink own index "java/lang/Object").before args s = true) (hz : fw_Z G A s s.heap) (hw : fw_S G A s F H locs) (hA : ∀ q, s.heap.size ≤ q → A q)
    {n : Int32} (N' : Nat) (hn : n = nI N') (hN : N' ≤ 1000) (hcells : cells + 1 ≤ R.cells) (hslots : slots + N' ≤ R.slots) (hdg : decode cc pc = .ok (.anewarray index, 3))
    (kk : ∀ (q : Nat) (H1 : Heap), F q = none → q ≠ fw_ea G → (∀ a t' n' f', F a = some (t', fw_ls q n' f') → False) → fw_S G A s (va_up F q (some (u, fw_oa G N' (fun _ => none)))) H1 locs →
      W p l e R s m args below meth c H1 locs (cells + 1) (slots + N') Q (F0 m (pc + 3) ls (.ref q :: rest))) : W p l e R s m args below meth c H locs cells slots Q (F0 m pc ls (.int n :: rest)) := by
  subst hn
  have hcl : (nI N').toNatClampNeg = N' := nI_clamp (by omega)
  refine W.anew hexec hb hown hclink (va_AO.use hz.2.2.2.2.2.2.2.2.2.2) rfl hdg rfl (nI_pos (by omega)) (by rw [hcl]; omega) hcells (by rw [hcl]; exact hslots) fun cA kA comp f1 f2 f3 f4 => ?_
  rw [hcl]
  generalize hH1 : H.push ({ cls := cA, slots := Array.replicate N' .null, vm := .none } : Cell) = H1
  have z1 : H1.size = H.size + 1 := by rw [← hH1, Array.size_push]
  have e1 : H1[H.size]? = some (arrV cA N' (fun _ => .null)) := by rw [← hH1, Array.getElem?_push_size, ← arrV_new]
  have o1 : ∀ q : Nat, q < H.size → H1[q]? = H[q]? := fun q hq => by rw [← hH1, Array.getElem?_push, if_neg (Nat.ne_of_lt hq)]
  obtain rfl : fw_cO G = cA := by
    obtain ⟨-, -, -, -, -, h4⟩ := (hz.1.2 2 _ rfl).2
    exact Option.some.inj (h4.symm.trans f1)
  obtain ⟨g1, g2⟩ := hw.new (y := .inl (fw_cO G, N', .inr (.inr (.inr (.inr (fun _ => none)))))) u hA (show H1[H.size]? = some (vp_cell _ _) by rw [vp_cell_q]; exact e1) z1 o1
  have hne : H.size ≠ fw_ea G := by
    intro h
    obtain ⟨cell, h1, -⟩ := hz.2.2.1
    have h2 := (Array.getElem?_eq_some_iff.mp h1).1
    have h3 := hw.2.1.1
    rw [← h] at h2
    omega
  exact kk H.size H1 g1 hne (fun a' t' n' f' h => absurd (fw_arr_lt (hw.1.1 a' t' _ h) hne) (Nat.lt_irrefl _)) g2
theorem fw_S.setL {H1 : Heap} {t u : fw_T} {x y : va_E} {L : List Loc} (hw : fw_S G A s F H locs) (ha : F a = some (t, .inl x)) (hy : va_at G.1 vwCl (a, y) H1) (z : H1.size = H.size) (oq : ∀ q : Nat, q ≠ a → H1[q]? = H[q]?) (hk : ∀ ci fs, x = .inr (ci, fs) → ∃ ci' fs', y = .inr (ci', fs')) (hL : ∀ q ∈ L, q.base = a) : fw_S G A s (va_up F a (some (u, .inl y))) H1 (locs ++ L) := by
  obtain ⟨h1, h2, h3⟩ := hw.set (k := 0) (u := u) ha hy z oq hk
  refine ⟨h1, ⟨h2.1, h2.2.1, fun q hq => ?_⟩, h3⟩
  rcases List.mem_append.mp hq with h | h
  · exact hw.2.1.2.2 q h
  · rw [hL q h]
    exact hw.inA ha
theorem fw_acopy (hexec : p.tables.exec = Jvm.exec) (hb : c.code = cc) (hml : c.maxLocals = ls.size) {own : String} {index : Nat} (hown : s.vm.findClass own = some m.cls) (hlink : (Cond.methodLink own index arraycopyName).before args s = true) (hnat : (Cond.native arraycopyName).before args s = true) (hstat : (Cond.static arraycopyName).before args s = true) (hini : (Cond.initialized "java/lang/System").before args s = true)
    (hz : fw_Z G A s s.heap) (hw : fw_S G A s F H locs) {a0 n0 n1 : Nat} {f g : Nat → Option Nat} {t0 : fw_T} (ha0 : F a0 = some (t0, fw_oa G n0 f)) (ha1 : F a = some (t, fw_oa G n1 g))
    (sp dp n : Nat) (hn0 : n0 ≤ 1000) (hn1 : n1 ≤ 1000) (h4 : sp + n ≤ n0) (h5 : dp + n ≤ n1) (hel : ∀ i : Nat, i < n → ∀ y : Nat, f (sp + i) = some y → va_Any "java/lang/Object" s H y)
    (hframes : 1 ≤ R.frames) (hlocals : (rest.map fun v => v.category).sum + (nativeFrameWords "java/lang/System" "arraycopy" 5 + 11) ≤ R.locals) (hdg : decode cc pc = .ok (.invokestatic index, 3))
    (kk : ∀ (H1 : Heap) (locs1 : List Loc), fw_S G A s (va_up F a (some (t, fw_oa G n1 (va_cpy f g sp dp n)))) H1 locs1 → W p l e R s m args below meth c H1 locs1 cells slots Q (F0 m (pc + 3) ls rest)) : W p l e R s m args below meth c H locs cells slots Q (F0 m pc ls (.int (nI n) :: .int (nI dp) :: .ref a :: .int (nI sp) :: .ref a0 :: rest)) := by
  have cl : ∀ k, k ≤ 1000 → (nI k).toNatClampNeg = k := fun k hk => nI_clamp (by omega)
  have c1 := cl sp (by omega)
  have c2 := cl dp (by omega)
  have c3 := cl n (by omega)
  intro T hT X
  have hc0 : H[a0]? = some (vp_cell (fw_cO G) (n0, .inr (.inr (.inr (.inr f))))) := hw.at ha0 0 _ rfl
  have hc1 : H[a]? = some (vp_cell (fw_cO G) (n1, .inr (.inr (.inr (.inr g))))) := hw.at ha1 0 _ rfl
  obtain ⟨-, k0, hk0, cm0, hkk0⟩ := (hz.1.2 2 _ rfl).1 n0 (fun j => va_rf (f j))
  obtain ⟨vm', X', step⟩ := X.arraycopy hexec hown hlink hnat hstat hini (src := a0) (dst := a) (cs := vp_cell (fw_cO G) (n0, .inr (.inr (.inr (.inr f))))) (cd := vp_cell (fw_cO G) (n1, .inr (.inr (.inr (.inr g))))) (srcPos := nI sp) (destPos := nI dp) (n := nI n) (by rw [hT]; exact hc0) (by rw [hT]; exact hc1)
    (fun _ h => by cases h) (fun _ h => by cases h) (fun h => by cases h) (fun h => by cases h) hk0 hk0 hkk0 hkk0 rfl (nI_pos (by omega)) (nI_pos (by omega)) (nI_pos (by omega))
    (by rw [nI_toInt (by omega), nI_toInt (by omega)]; show ¬ _ > ((arrV (fw_cO G) n0 (fun j => va_rf (f j))).slots.size : Int); rw [arrV_size]; omega)
    (by rw [nI_toInt (by omega), nI_toInt (by omega)]; show ¬ _ > ((arrV (fw_cO G) n1 (fun j => va_rf (g j))).slots.size : Int); rw [arrV_size]; omega)
    (fun vm₁ hal i hi => by
      rw [c3] at hi
      rw [c1]
      have e : (vp_cell (fw_cO G) (n0, .inr (.inr (.inr (.inr f))))).slots.getD (sp + i) .null = va_rf (f (sp + i)) := by
        show (arrV (fw_cO G) n0 (fun j => va_rf (f j))).slots.getD _ _ = _
        rw [Array.getD_eq_getD_getElem?, arrV_read _ _ (by omega)]
        rfl
      rw [e]
      cases hy : f (sp + i) with
      | none => exact ⟨rfl, trivial⟩
      | some y =>
        obtain ⟨cellV, g1, g2, ⟨kC, hkC⟩, hasg⟩ := hel i hi y hy
        obtain ⟨kA, comp, r1, r2, r3, -⟩ := (hz.1.2 2 _ rfl).2
        cases hk0.symm.trans r1
        cases hkk0.symm.trans r2
        obtain ⟨kE, hkE, -⟩ := Vm.findClass_spec r3
        obtain ⟨kC', hkC', -⟩ := hal.2.2 _ _ hkC
        obtain ⟨kE', hkE', -⟩ := hal.2.2 _ _ hkE
        refine ⟨rfl, cellV, (show T.heap[y]? = some cellV by rw [hT]; exact g1), (fun q h => by rw [h] at g2; cases g2), ⟨kC', hkC'⟩, ?_, ?_⟩
        · exact ⟨kE', hkE'⟩
        · show vm₁.assignable _ _ = true
          rw [hal.assignable]
          exact hasg _ r3)
    (g := F0 m pc ls (.int (nI n) :: .int (nI dp) :: .ref a :: .int (nI sp) :: .ref a0 :: rest)) rfl (by rw [hml]) (rest := rest) rfl (by rw [hb]; exact hdg) hframes (by show 2 * 0 + _ + _ ≤ _; omega)
  have e1 : copied (vp_cell (fw_cO G) (n0, .inr (.inr (.inr (.inr f))))) (vp_cell (fw_cO G) (n1, .inr (.inr (.inr (.inr g))))) (nI sp) (nI dp) (nI n) = vp_cell (fw_cO G) (n1, .inr (.inr (.inr (.inr (va_cpy f g sp dp n))))) := by
    rw [vp_cell_q, vp_cell_q, vp_cell_q]
    show (arrV (fw_cO G) n1 (fun j => va_rf (g j))).storeRun (nI dp).toNatClampNeg ((arrV (fw_cO G) n0 (fun j => va_rf (f j))).stretch (nI sp).toNatClampNeg (nI n).toNatClampNeg) = _
    rw [c1, c2, c3]
    exact va_copied (fun z => va_rf z) (fw_cO G) (fw_cO G) f g h4
  rw [e1] at X' step
  have hl : a < H.size := (Array.getElem?_eq_some_iff.mp hc1).1
  have hheap : ((T.setVm vm').setCell a (vp_cell (fw_cO G) (n1, .inr (.inr (.inr (.inr (va_cpy f g sp dp n))))))).heap = H.setIfInBounds a (vp_cell (fw_cO G) (n1, .inr (.inr (.inr (.inr (va_cpy f g sp dp n)))))) := by rw [← hT]; rfl
  obtain ⟨t', a1, b1⟩ := kk _ _ (hw.setL (u := t) ha1 (show (H.setIfInBounds a _)[a]? = some _ by simp [Array.getElem?_setIfInBounds, hl]) (by simp) (fun q hq => by simp [Array.getElem?_setIfInBounds, Ne.symm hq]) (fun _ _ h => by cases h) (fun q hq => by
      obtain ⟨z, -, hz⟩ := List.mem_map.mp hq
      rw [← hz])) _ hheap X'
  exact ⟨t', step t' a1, b1⟩
/-! opening and closing a list -/
theorem fw_open (hw : fw_S G A s F H locs) {b arr n : Nat} {f : Nat → Nat} (hF : F b = some (t, fw_ls arr n f)) (ta : fw_T) : ∃ (mc : Int32) (cap : Nat) (row : Nat → Option Nat), n ≤ cap ∧ cap ≤ 160 ∧ (∀ i, i < n → row i = some (f i)) ∧ (∀ i, n ≤ i → row i = none) ∧
    ((arr = fw_ea G ∧ cap = 0 ∧ fw_S G A s (va_up F b (some (t, fw_obj 0 [.int mc, .ref arr, .int (nI n)]))) H locs) ∨
     (arr ≠ fw_ea G ∧ b ≠ arr ∧ F arr = none ∧ fw_S G A s (va_up (va_up F b (some (t, fw_obj 0 [.int mc, .ref arr, .int (nI n)]))) arr (some (ta, fw_oa G cap row))) H locs)) := by
  obtain ⟨mc, cap, row, h1, h2, h3, h4, h5, h6⟩ := hw.1.1 b t _ hF
  refine ⟨mc, cap, row, h2, h3, h4, h5, ?_⟩
  have ls1 : ∀ a t' arr' n' f', va_up F b (some (t, fw_obj 0 [.int mc, .ref arr, .int (nI n)])) a = some (t', fw_ls arr' n' f') → a ≠ b ∧ F a = some (t', fw_ls arr' n' f') := by
    intro a t' arr' n' f' h
    by_cases e : a = b
    · rw [e, va_up_self] at h; cases h
    · rw [va_up_ne F _ e] at h; exact ⟨e, h⟩
  have key : fw_P G (va_up F b (some (t, fw_obj 0 [.int mc, .ref arr, .int (nI n)]))) H := by
    refine ⟨fun a t' e he => ?_, fun a t' arr' n' f' he hne => ?_, fun a t' arr' n' f' he i hi => ?_⟩
    · by_cases q : a = b
      · subst q
        rw [va_up_self] at he
        cases he
        exact h1
      · rw [va_up_ne F _ q] at he
        exact hw.1.1 a t' e he
    · obtain ⟨q, he⟩ := ls1 a t' arr' n' f' he
      obtain ⟨g1, g2⟩ := hw.1.2.1 a t' arr' n' f' he hne
      refine ⟨?_, fun a' t'' n'' f'' h' => g2 a' t'' n'' f'' (ls1 a' t'' arr' n'' f'' h').2⟩
      rw [va_up_ne F _ (fun z => by rw [z, hF] at g1; cases g1)]
      exact g1
    · obtain ⟨q, he⟩ := ls1 a t' arr' n' f' he
      obtain ⟨t1, ci, fs, g1⟩ := hw.1.2.2 a t' arr' n' f' he i hi
      refine ⟨t1, ci, fs, ?_⟩
      rw [va_up_ne F _ (fun z => by rw [z, hF] at g1; cases g1)]
      exact g1
  have kW : ∀ q, fw_W G (va_up F b (some (t, fw_obj 0 [.int mc, .ref arr, .int (nI n)]))) H.size q → fw_W G F H.size q := by
    intro q h
    rcases h with ⟨x, h⟩ | ⟨a, t', n', f', h, hne⟩ | h
    · by_cases e : q = b
      · exact Or.inl ⟨_, by rw [e]; exact hF⟩
      · rw [va_up_ne F _ e] at h; exact Or.inl ⟨x, h⟩
    · exact Or.inr (Or.inl ⟨a, t', n', f', (ls1 a t' q n' f' h).2, hne⟩)
    · exact Or.inr (Or.inr h)
  rcases h6 with ⟨g1, g2⟩ | ⟨g1, g2⟩
  · exact Or.inl ⟨g1, g2, key, hw.2.1, fun q h => hw.2.2 q (kW q h)⟩
  · obtain ⟨g3, g4⟩ := hw.1.2.1 b t arr n f hF g1
    have hba : b ≠ arr := fun z => by rw [← z, hF] at g3; cases g3
    refine Or.inr ⟨g1, hba, g3, ?_, hw.2.1, ?_⟩
    · have kn : va_up F b (some (t, fw_obj 0 [.int mc, .ref arr, .int (nI n)])) arr = none := by rw [va_up_ne F _ (Ne.symm hba)]; exact g3
      refine ⟨fun a t' e he => ?_, fun a t' arr' n' f' he hne => ?_, fun a t' arr' n' f' he i hi => ?_⟩
      · by_cases q : a = arr
        · subst q
          rw [va_up_self] at he
          cases he
          exact g2
        · rw [va_up_ne _ _ q] at he
          exact key.1 a t' e he
      · have he' : va_up F b (some (t, fw_obj 0 [.int mc, .ref arr, .int (nI n)])) a = some (t', fw_ls arr' n' f') := by
          by_cases q : a = arr
          · rw [q, va_up_self] at he; cases he
          · rwa [va_up_ne _ _ q] at he
        obtain ⟨z1, z2⟩ := key.2.1 a t' arr' n' f' he' hne
        have hne2 : arr' ≠ arr := fun z => (ls1 _ _ _ _ _ he').1 (g4 a t' n' f' (by rw [← z]; exact (ls1 _ _ _ _ _ he').2))
        refine ⟨by rw [va_up_ne _ _ hne2]; exact z1, fun a' t'' n'' f'' h' => z2 a' t'' n'' f'' ?_⟩
        by_cases q : a' = arr
        · rw [q, va_up_self] at h'; cases h'
        · rwa [va_up_ne _ _ q] at h'
      · have he' : va_up F b (some (t, fw_obj 0 [.int mc, .ref arr, .int (nI n)])) a = some (t', fw_ls arr' n' f') := by
          by_cases q : a = arr
          · rw [q, va_up_self] at he; cases he
          · rwa [va_up_ne _ _ q] at he
        obtain ⟨t1, ci, fs, z1⟩ := key.2.2 a t' arr' n' f' he' i hi
        exact ⟨t1, ci, fs, fw_up_new z1 kn⟩
    · intro q h
      rcases h with ⟨x, h⟩ | ⟨a, t', n', f', h, hne⟩ | h
      · by_cases e : q = arr
        · exact hw.2.2 q (Or.inr (Or.inl ⟨b, t, n, f, by rw [e]; exact hF, by rw [e]; exact g1⟩))
        · rw [va_up_ne _ _ e] at h; exact hw.2.2 q (kW q (Or.inl ⟨x, h⟩))
      · have h' : va_up F b (some (t, fw_obj 0 [.int mc, .ref arr, .int (nI n)])) a = some (t', fw_ls q n' f') := by
          by_cases e : a = arr
          · rw [e, va_up_self] at h; cases h
          · rwa [va_up_ne _ _ e] at h
        exact hw.2.2 q (kW q (Or.inr (Or.inl ⟨a, t', n', f', h', hne⟩)))
      · exact hw.2.2 q (Or.inr (Or.inr h))
/-- the world F1 closed at b: the list there stands for b and its array -/
def fw_cl (F1 : fw_F) (b arr : Nat) (t : fw_T) (n : Nat) (f : Nat → Nat) : fw_F := va_up (va_up F1 arr none) b (some (t, fw_ls arr n f))
theorem fw_close {F1 : fw_F} {ta : fw_T} {b arr n cap : Nat} {f : Nat → Nat} {mc : Int32} {row : Nat → Option Nat} (hw : fw_S G A s F1 H locs) (hb : F1 b = some (t, fw_obj 0 [.int mc, .ref arr, .int (nI n)])) (ha : F1 arr = some (ta, fw_oa G cap row)) (hea : arr ≠ fw_ea G) (h1 : n ≤ cap) (h2 : cap ≤ 160) (h3 : ∀ i, i < n → row i = some (f i)) (h4 : ∀ i, n ≤ i → row i = none)
    (hel : ∀ i, i < n → f i ≠ b ∧ ∃ t' ci fs, F1 (f i) = some (t', fw_obj ci fs)) (hno : ∀ a t' n' f', F1 a = some (t', fw_ls arr n' f') → False) (hnb : ∀ a t' arr' n' f', F1 a = some (t', fw_ls arr' n' f') → ∀ i, i < n' → f' i ≠ b) : fw_S G A s (fw_cl F1 b arr t n f) H locs := by
  have hba : b ≠ arr := fun z => by rw [z, ha] at hb; cases hb
  have old : ∀ a x, a ≠ b → fw_cl F1 b arr t n f a = some x → a ≠ arr ∧ F1 a = some x := by
    intro a x hab h
    rw [fw_cl, va_up_ne _ _ hab] at h
    by_cases e : a = arr
    · rw [e, va_up_self] at h; cases h
    · rw [va_up_ne _ _ e] at h; exact ⟨e, h⟩
  have keep : ∀ a x, F1 a = some x → a ≠ b → a ≠ arr → fw_cl F1 b arr t n f a = some x := by
    intro a x h h' h''
    rw [fw_cl, va_up_ne _ _ h', va_up_ne _ _ h'']
    exact h
  have atb : fw_cl F1 b arr t n f b = some (t, fw_ls arr n f) := va_up_self _ _ _
  have hobj : ∀ {v t' ci fs}, F1 v = some (t', fw_obj ci fs) → v ≠ arr := fun h z => by rw [z, ha] at h; cases h
  refine ⟨⟨fun a t' e he => ?_, fun a t' arr' n' f' he hne => ?_, fun a t' arr' n' f' he i hi => ?_⟩, hw.2.1, ?_⟩
  · by_cases q : a = b
    · subst q
      rw [atb] at he
      cases he
      exact ⟨mc, cap, row, hw.1.1 _ _ _ hb, h1, h2, h3, h4, Or.inr ⟨hea, hw.1.1 _ _ _ ha⟩⟩
    · exact hw.1.1 a t' e (old a _ q he).2
  · by_cases q : a = b
    · subst q
      rw [atb] at he
      cases he
      refine ⟨?_, fun a' t'' n'' f'' h' => ?_⟩
      · rw [fw_cl, va_up_ne _ _ (Ne.symm hba), va_up_self]
      · by_cases q' : a' = a
        · exact q'
        · exact (hno a' t'' n'' f'' (old a' _ q' h').2).elim
    · have he1 := (old a _ q he).2
      obtain ⟨z1, z2⟩ := hw.1.2.1 a t' arr' n' f' he1 hne
      have hz1 : arr' ≠ arr := fun z => hno a t' n' f' (by rw [← z]; exact he1)
      refine ⟨?_, fun a' t'' n'' f'' h' => ?_⟩
      · rw [fw_cl, va_up_ne _ _ (fun z => by rw [z, hb] at z1; cases z1), va_up_ne _ _ hz1]
        exact z1
      · by_cases q' : a' = b
        · rw [q', atb] at h'; injection h' with h'; injection h' with _ h'; injection h' with h'; injection h' with h' _; exact absurd h'.symm hz1
        · exact z2 a' t'' n'' f'' (old a' _ q' h').2
  · by_cases q : a = b
    · subst q
      rw [atb] at he
      cases he
      obtain ⟨z0, t1, ci, fs, z1⟩ := hel i hi
      exact ⟨t1, ci, fs, keep _ _ z1 z0 (hobj z1)⟩
    · have he1 := (old a _ q he).2
      obtain ⟨t1, ci, fs, z1⟩ := hw.1.2.2 a t' arr' n' f' he1 i hi
      exact ⟨t1, ci, fs, keep _ _ z1 (hnb a t' arr' n' f' he1 i hi) (hobj z1)⟩
  · intro q h
    rcases h with ⟨x, h⟩ | ⟨a, t', n', f', h, hne⟩ | h
    · by_cases e : q = b
      · exact hw.2.2 q (Or.inl ⟨_, by rw [e]; exact hb⟩)
      · exact hw.2.2 q (Or.inl ⟨_, (old q x e h).2⟩)
    · by_cases e : a = b
      · rw [e, atb] at h
        injection h with h; injection h with _ h; injection h with h; injection h with h _
        exact hw.2.2 q (Or.inl ⟨_, by rw [← h]; exact ha⟩)
      · exact hw.2.2 q (Or.inr (Or.inl ⟨a, t', n', f', (old a _ e h).2, hne⟩))
    · exact hw.2.2 q (Or.inr (Or.inr h))
/-- an array that nobody asks for any more -/
theorem fw_drop {n : Nat} {row : Nat → Option Nat} (hw : fw_S G A s F H locs) (ha : F a = some (t, fw_oa G n row)) : fw_S G A s (va_up F a none) H locs := by
  have old : ∀ b x, va_up F a none b = some x → b ≠ a ∧ F b = some x := by
    intro b x h
    by_cases e : b = a
    · rw [e, va_up_self] at h; cases h
    · rw [va_up_ne _ _ e] at h; exact ⟨e, h⟩
  refine ⟨⟨fun b t' e he => hw.1.1 b t' e (old b _ he).2, fun b t' arr n f hb hne => ?_, fun b t' arr n f hb i hi => ?_⟩, hw.2.1, fun q h => hw.2.2 q ?_⟩
  · obtain ⟨h1, h2⟩ := hw.1.2.1 b t' arr n f (old b _ hb).2 hne
    refine ⟨?_, fun a' t'' n' f' h9 => h2 a' t'' n' f' (old a' _ h9).2⟩
    by_cases e : arr = a
    · rw [e, va_up_self]
    · rw [va_up_ne _ _ e]; exact h1
  · obtain ⟨t1, ci, fs, h1⟩ := hw.1.2.2 b t' arr n f (old b _ hb).2 i hi
    refine ⟨t1, ci, fs, ?_⟩
    rw [va_up_ne _ _ (fun e => by rw [e, ha] at h1; cases h1)]
    exact h1
  · rcases h with ⟨x, h⟩ | ⟨b, t', n', f', h, hne⟩ | h
    · exact Or.inl ⟨x, (old q x h).2⟩
    · exact Or.inr (Or.inl ⟨b, t', n', f', (old b _ h).2, hne⟩)
    · exact Or.inr (Or.inr h)
/-! reading a list as it stands -/
theorem fw_lsz (hexec : p.tables.exec = Jvm.exec) (hb : c.code = cc) (hT : ∀ w ∈ fw_tb, w.before args s = true) {own : String} {index b arr n : Nat} {f : Nat → Nat} (hown : s.vm.findClass own = some m.cls) (hz : fw_Z G A s s.heap) (hw : fw_S G A s F H locs) (hF : F b = some (t, fw_ls arr n f)) (hlink : (Cond.fieldLink own index RJx4a65c "size" "I").before args s = true) (hdg : decode cc pc = .ok (.getfield index, 3))
    (kk : W p l e R s m args below meth c H locs cells slots Q (F0 m (pc + 3) ls (.int (nI n) :: rest))) : W p l e R s m args below meth c H locs cells slots Q (F0 m pc ls (.ref b :: rest)) := by
  obtain ⟨mc, cap, row, h1, -⟩ := hw.1.1 b t _ hF
  exact va_get (D := G.1) (cl := vwCl) (tys := fw_tys G) (ci := 0) (T := TJx4a65c) (C := RJx4a65c) (N := 3) (ws := [(b, .inr (0, [.int mc, .ref arr, .int (nI n)]))]) hexec hb hT fi_RJx4a65c hown hz.1 (fun k q hk => by cases k with | zero => cases hk; exact h1 | succ k => cases hk) 0 rfl rfl 2 (by decide) hlink (fun _ h => h) rfl hdg kk
theorem fw_larr (hexec : p.tables.exec = Jvm.exec) (hb : c.code = cc) (hT : ∀ w ∈ fw_tb, w.before args s = true) {own : String} {index b arr n : Nat} {f : Nat → Nat} (hown : s.vm.findClass own = some m.cls) (hz : fw_Z G A s s.heap) (hw : fw_S G A s F H locs) (hF : F b = some (t, fw_ls arr n f)) (hlink : (Cond.fieldLink own index RJx4a65c "elementData" "[Ljava/lang/Object;").before args s = true) (hdg : decode cc pc = .ok (.getfield index, 3))
    (kk : W p l e R s m args below meth c H locs cells slots Q (F0 m (pc + 3) ls (.ref arr :: rest))) : W p l e R s m args below meth c H locs cells slots Q (F0 m pc ls (.ref b :: rest)) := by
  obtain ⟨mc, cap, row, h1, -⟩ := hw.1.1 b t _ hF
  exact va_get (D := G.1) (cl := vwCl) (tys := fw_tys G) (ci := 0) (T := TJx4a65c) (C := RJx4a65c) (N := 3) (ws := [(b, .inr (0, [.int mc, .ref arr, .int (nI n)]))]) hexec hb hT fi_RJx4a65c hown hz.1 (fun k q hk => by cases k with | zero => cases hk; exact h1 | succ k => cases hk) 0 rfl rfl 1 (by decide) hlink (fun _ h => h) rfl hdg kk
theorem fw_llald (hexec : p.tables.exec = Jvm.exec) (hb : c.code = cc) (hz : fw_Z G A s s.heap) (hw : fw_S G A s F H locs) {b arr n : Nat} {f : Nat → Nat} (hF : F b = some (t, fw_ls arr n f)) {i : Int32} (j : Nat) (hi : i = nI j) (hj : j < n) (hdg : decode cc pc = .ok (.aaload, 1))
    (kk : W p l e R s m args below meth c H locs cells slots Q (F0 m (pc + 1) ls (.ref (f j) :: rest))) : W p l e R s m args below meth c H locs cells slots Q (F0 m pc ls (.int i :: .ref arr :: rest)) := by
  subst hi
  obtain ⟨mc, cap, row, h1, h2, h3, h4, -, h5⟩ := hw.1.1 b t _ hF
  dsimp only at h2 h4 h5
  rcases h5 with h5 | h5
  · omega
  · refine va_aldq (ws := [(arr, .inl (fw_cO G, cap, .inr (.inr (.inr (.inr row)))))]) hexec hb hz.1 (fun k q hk => by cases k with | zero => cases hk; exact h5.2 | succ k => cases hk) 0 2 rfl rfl (vp_in_nI (show j < cap by omega) (by omega)) hdg ?_
    rw [nI_clamp (by omega), h4 j hj]
    exact kk
theorem fw_aretA {post : Option Nat → fw_F → Prop} {v : Option Nat} {x : Value} {ty : FieldType} (hexec : p.tables.exec = Jvm.exec) (hb : c.code = cc) (hr : meth.sig.returnType = some (.array ty)) (hlocks : meth.locks = false) {mc ms : Nat} (hc : cells ≤ mc) (hs : slots ≤ ms) (hw : fw_S G A s F H locs) (hdg : decode cc pc = .ok (.areturn, 1)) (hx : x = va_rf v) (hp : post v F) :
    W p l e R s m args below meth c H locs cells slots (MQ below (fw_Qo post (fw_B G A) A) args s mc ms A) (F0 m pc ls [x]) := by
  subst hx
  refine W.widen hc hs ?_
  refine W.aret hexec hb hr (Or.inr ⟨_, rfl⟩) ?_ (fun t ht hW => ⟨⟨v, F, rfl, hp, by rw [fw_B, ht]; exact ⟨hw.1, hw.2.2⟩⟩, hw.2.1.F ht⟩) hw.2.1.2.2 hdg hlocks
  cases v with
  | none => exact Or.inl rfl
  | some a => exact Or.inr ⟨a, rfl⟩
end FWL
