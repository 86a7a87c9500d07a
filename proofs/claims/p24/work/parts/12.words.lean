/-! The reference's memory: scalars sc and arrays f by the places of the fields. -/
abbrev mm_S : Type := Nat → Int32
abbrev mm_A : Type := Nat → Nat → Int32
section MMR
variable {p : Program} {l : Launch} {e : Env} {R : Room} {s : State} {m : MethodId} {args : Array Value} {below : List Frame} {meth : Method} {c : Code} {H : Heap} {locs : List Loc} {cells slots : Nat} {Q : State → Prop}
variable {cc : ByteArray} {pc : Nat} {ls : Array Slot} {rest : List Value} {G : fw_G} {A : Nat → Prop} {F Fi : fw_F} {y : Nat} {ad : Nat → Nat} {sc : mm_S} {f : mm_A}
/-! contracts of the reference's methods: Ci, Cv on the object, Si static and reading alone -/
abbrev fw_Si (l : Launch) (G : fw_G) (F : fw_F) (sz : Nat) (yy : MethodName) (bytes : ByteArray) (maxL : Nat) (ret : FieldType) (rm : Room) (As : List Value) (P : Int32 → Prop) : Prop :=
  Met l yy (fw_ws yy bytes maxL (some ret)) rm (va_Pc As (fw_Pre G F sz)) (va_Qi (fun r F1 => F1 = F ∧ P r) (fw_B G (fw_W G F sz)) (fw_W G F sz)) rm.cells rm.slots (fw_W G F sz)
variable {yy : MethodName} {bytes : ByteArray} {maxL nL n index : Nat} {ret : FieldType} {rm : Room} {own C : String} {As : List Value} {st0 : List Value}
/-- a static method that reads alone, called from anywhere -/
theorem fw_calls {P : Int32 → Prop} (S : CallFix p m c cc nL s args fw_tb own) (hz : fw_Z G A s s.heap) (hw : fw_S G A s F H locs) (hM : fw_Si l G F H.size yy bytes maxL ret rm As P)
    (hl : Cond.methodLink own index yy ∈ fw_tb) (hy : fw_yS C yy bytes maxL (some ret) n) (hR : rm.frames + 1 ≤ R.frames ∧ 8 + (maxL + 11) + rm.locals ≤ R.locals) (hn : As.length = n) (hsize : ls.size = nL) (hstack : st0 = As.reverse ++ rest) (hW : (rest.map fun v => v.category).sum ≤ 8) (hdg : decode cc pc = .ok (.invokestatic index, 3)) (hf : cells + rm.cells ≤ R.cells ∧ slots + rm.slots ≤ R.slots)
    (kk : ∀ r H1 locs1, fw_S G A s F H1 locs1 → P r → W p l e R s m args below meth c H1 locs1 (cells + rm.cells) (slots + rm.slots) Q (F0 m (pc + 3) ls (.int r :: rest))) : W p l e R s m args below meth c H locs cells slots Q (F0 m pc ls st0) :=
  fw_calli (fw_runS (rest := rest) S hz hw hM (fw_cwS S.2.2.2.2 hl hy rfl rfl hR) hn hsize hstack hW hdg hf) hw (fun r F1 H1 locs1 hw1 hp => by
    obtain ⟨h2, h3⟩ := hp
    subst h2
    exact kk r H1 locs1 hw1 h3)
/-- the value on top is another name of the same -/
theorem fw_top {x x' : Int32} (h : x = x') (k : W p l e R s m args below meth c H locs cells slots Q (F0 m pc ls (.int x' :: rest))) : W p l e R s m args below meth c H locs cells slots Q (F0 m pc ls (.int x :: rest)) := by
  rw [h]
  exact k
end MMR

