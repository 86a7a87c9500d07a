/-! The law's own calls: what never throws there; its static helpers; the script's cells. -/
section FWH
variable {p : Program} {l : Launch} {e : Env} {R : Room} {s : State} {m : MethodId} {args : Array Value} {below : List Frame} {meth : Method} {c : Code} {H : Heap} {locs : List Loc} {cells slots : Nat} {Q : State → Prop}
variable {cc : ByteArray} {pc mc ms : Nat} {ls : Array Slot} {rest st0 : List Value} {G : fw_G} {A : Nat → Prop} {F : fw_F}
/-- a call that could throw, where it can't -/
theorem fw_ask {post : Int32 → fw_F → Prop} {PX : String → Prop} {as : Array Value} (hr : vx_Run p l e R s m args below meth c H locs cells slots mc ms (F0 m pc ls st0) rest (va_Qi post (fw_B G (fw_A G F H)) (fw_A G F H) as) (fw_xc G (fw_A G F H) F PX) (fw_A G F H)) (hw : fw_S G A s F H locs) (hno : ∀ E, ¬ PX E)
    (kk : ∀ (r : Int32) (F1 : fw_F) (H1 : Heap) (locs1 : List Loc), fw_S G A s F1 H1 locs1 → post r F1 → W p l e R s m args below meth c H1 locs1 (cells + mc) (slots + ms) Q (F0 m (pc + 3) ls (.int r :: rest))) : W p l e R s m args below meth c H locs cells slots Q (F0 m pc ls st0) := by
  intro T hT X
  rcases hr T hT X with ⟨v, st₀, t, T', L, h0, X', hL, e1, e2, ⟨⟨r, u, hv, hp, hb⟩, hF⟩, st⟩ | ⟨q, st₀, t, T', L, E, ce, h0, X', hL, e1, e2, ⟨u, hu, hb, hF⟩, hce, hcv, hcl, st⟩
  · cases hv
    obtain ⟨k1, k2, k3⟩ := vx_keep h0 e1 hw.2.1 hw.stepA.1 hw.stepA.2 hL hF
    obtain ⟨t2, a1, b1⟩ := kk r u T'.heap (locs ++ L) (fw_after (post := fun _ => True) hw e1.symm hb k3) hp T' rfl X'
    exact ⟨t2, st t2 a1, b1⟩
  · exact absurd hb.1 (hno E)
variable {y : MethodName} {bytes : ByteArray} {maxL nL n index : Nat} {ret : Option FieldType} {ws : List Cond} {rm : Room} {Ts : List Cond} {own C : String} {b L : Nat} {xs : Nat → Int32} {As : List Value}
/-- a static helper of the law that itself calls what could throw -/
theorem fw_runSP {Qc : Array Value → State → Outcome → State → Prop} (S : CallFix p m c cc nL s args Ts own) (hz : fw_Z G A s s.heap) (hcx : fw_cx s) (hw : fw_S G A s F H locs) (hM : Met l y ws rm (va_Pc As (fw_PreX G F H.size)) Qc mc ms (fw_A G F H)) (cw : CallB R s args own index y bytes maxL ret ws rm mc ms n ∧ (Cond.static y).before args s = true)
    (hn : As.length = n) (hsize : ls.size = nL) (hstack : st0 = As.reverse ++ rest) (hW : (rest.map fun v => v.category).sum ≤ 8) (hdg : decode cc pc = .ok (.invokestatic index, 3)) (hf : cells + mc ≤ R.cells ∧ slots + ms ≤ R.slots) :
    va_Run p l e R s m args below meth c H locs cells slots mc ms (F0 m pc ls st0) rest (Qc As.toArray) (fw_A G F H) :=
  va_runS (rest := rest) S hM cw (fw_preX hz hcx hw) rfl hn hsize hstack (lv_room (m := m) (pc := pc) (ls := ls) (rest := st0) hW) hdg hf
/-- the script, for the helper that reads it -/
def fw_PreC (G : fw_G) (F : fw_F) (sz : Nat) (b L : Nat) (xs : Nat → Int32) (U : State) : Prop := fw_Pre G F sz U ∧ va_X b L xs U U.heap ∧ b < sz ∧ ¬ fw_W G F sz b
theorem fw_preC {as : List Value} (hz : fw_Z G A s s.heap) (hw : fw_S G A s F H locs) (hX : va_X b L xs s s.heap) (hbl : b < s.heap.size) (hbA : ¬ A b) : PreS s H (va_Pc as (fw_PreC G F H.size b L xs)) as :=
  ⟨fun a U g mk q => ⟨q.1, ⟨((fw_preS (as := as) hz hw).1 a U g mk ⟨q.1, q.2.1⟩).2, q.2.2.1.moved (State.WarmedH.refl U).alike, q.2.2.2⟩⟩, fun U hU hW => ⟨rfl, ((fw_preS (as := as) hz hw).2 U hU hW).2, by rw [hU]; exact (hX.kept (hw.2.1.2.1 b hbl hbA)).moved hW.alike, Nat.lt_of_lt_of_le hbl hw.2.1.1, fun h => hbA (hw.2.2 b h)⟩⟩
theorem fw_runSC {Qc : Array Value → State → Outcome → State → Prop} (S : CallFix p m c cc nL s args Ts own) (hz : fw_Z G A s s.heap) (hw : fw_S G A s F H locs) (hX : va_X b L xs s s.heap) (hbl : b < s.heap.size) (hbA : ¬ A b) (hM : Met l y ws rm (va_Pc As (fw_PreC G F H.size b L xs)) Qc mc ms (fw_A G F H)) (cw : CallB R s args own index y bytes maxL ret ws rm mc ms n ∧ (Cond.static y).before args s = true)
    (hn : As.length = n) (hsize : ls.size = nL) (hstack : st0 = As.reverse ++ rest) (hW : (rest.map fun v => v.category).sum ≤ 8) (hdg : decode cc pc = .ok (.invokestatic index, 3)) (hf : cells + mc ≤ R.cells ∧ slots + ms ≤ R.slots) :
    va_Run p l e R s m args below meth c H locs cells slots mc ms (F0 m pc ls st0) rest (Qc As.toArray) (fw_A G F H) :=
  va_runS (rest := rest) S hM cw (fw_preC hz hw hX hbl hbA) rfl hn hsize hstack (lv_room (m := m) (pc := pc) (ls := ls) (rest := st0) hW) hdg hf
end FWH
theorem fw_metP {l : Launch} {y : MethodName} {rm : Room} {Qc : Array Value → State → Outcome → State → Prop} {mc ms : Nat} {cc : ByteArray} {maxL : Nat} {ret : Option FieldType} {G : fw_G} {F : fw_F} {sz : Nat} {As : List Value} {lv : List (Nat × Value)}
    (hy : plainName y.cls = true) (hlen : (lg_sl As).length ≤ maxL) (hlv : lv_args 0 As = lv)
    (body : ∀ (A : Nat → Prop), A = fw_W G F sz → ∀ (p : Program) (e : Env) (s : State) (m : MethodId) (below : List Frame) (meth : Method) (c : Code) (ls : Array Slot), p.tables.exec = Jvm.exec → c.code = cc → c.maxLocals = maxL → s.vm.findClass y.cls = some m.cls → (∀ w ∈ fw_tb, w.before As.toArray s = true) → meth.sig.returnType = ret → meth.locks = false → fw_cx s → fw_Z G A s s.heap → s.heap.size = sz → fw_S G A s F s.heap [] → (∀ q, s.heap.size ≤ q → A q) → lv_has ls maxL lv →
      W p l e rm s m As.toArray below meth c s.heap [] 0 0 (MQ below Qc As.toArray s mc ms A) (F0 m 0 ls [])) : Met l y (fw_ws y cc maxL ret) rm (va_Pc As (fw_PreX G F sz)) Qc mc ms (fw_W G F sz) := by
  refine Met.ofW (cc := cc) (maxL := maxL) (ret := ret) hy rfl ?_
  intro p e s m args below meth c s₁ B hml hv
  obtain ⟨rfl, ⟨hsz, hP, hZ⟩, hcx⟩ := hv
  subst hsz
  have hl := lv_entry As (n := maxL) hlen
  rw [lg_entry_eq]
  generalize (lg_sl As ++ List.replicate (maxL - (lg_sl As).length) Slot.unset).toArray = ls at hl ⊢
  rw [hlv] at hl
  exact body _ rfl p e s m below meth c ls B.exec B.bytes hml (findClass_of_methodNamed B.named) (fun w hw => atoms_spec (ws := fw_ws y cc maxL ret) B.pre w (List.mem_cons_of_mem _ hw)) B.returns B.notSynchronized hcx hZ rfl (fw_S.start hP) (fun q hq => Or.inr (Or.inr hq)) hl
theorem fw_metC {l : Launch} {y : MethodName} {rm : Room} {Qc : Array Value → State → Outcome → State → Prop} {mc ms : Nat} {cc : ByteArray} {maxL : Nat} {ret : Option FieldType} {G : fw_G} {F : fw_F} {sz : Nat} {b L : Nat} {xs : Nat → Int32} {As : List Value} {lv : List (Nat × Value)}
    (hy : plainName y.cls = true) (hlen : (lg_sl As).length ≤ maxL) (hlv : lv_args 0 As = lv)
    (body : ∀ (A : Nat → Prop), A = fw_W G F sz → ∀ (p : Program) (e : Env) (s : State) (m : MethodId) (below : List Frame) (meth : Method) (c : Code) (ls : Array Slot), p.tables.exec = Jvm.exec → c.code = cc → c.maxLocals = maxL → s.vm.findClass y.cls = some m.cls → (∀ w ∈ fw_tb, w.before As.toArray s = true) → meth.sig.returnType = ret → meth.locks = false → va_X b L xs s s.heap → b < s.heap.size → ¬ A b → fw_Z G A s s.heap → s.heap.size = sz → fw_S G A s F s.heap [] → (∀ q, s.heap.size ≤ q → A q) → lv_has ls maxL lv →
      W p l e rm s m As.toArray below meth c s.heap [] 0 0 (MQ below Qc As.toArray s mc ms A) (F0 m 0 ls [])) : Met l y (fw_ws y cc maxL ret) rm (va_Pc As (fw_PreC G F sz b L xs)) Qc mc ms (fw_W G F sz) := by
  refine Met.ofW (cc := cc) (maxL := maxL) (ret := ret) hy rfl ?_
  intro p e s m args below meth c s₁ B hml hv
  obtain ⟨rfl, ⟨hsz, hP, hZ⟩, hX, hbl, hbA⟩ := hv
  subst hsz
  have hl := lv_entry As (n := maxL) hlen
  rw [lg_entry_eq]
  generalize (lg_sl As ++ List.replicate (maxL - (lg_sl As).length) Slot.unset).toArray = ls at hl ⊢
  rw [hlv] at hl
  exact body _ rfl p e s m below meth c ls B.exec B.bytes hml (findClass_of_methodNamed B.named) (fun w hw => atoms_spec (ws := fw_ws y cc maxL ret) B.pre w (List.mem_cons_of_mem _ hw)) B.returns B.notSynchronized hX hbl hbA hZ rfl (fw_S.start hP) (fun q hq => Or.inr (Or.inr hq)) hl
theorem p4_nlt {c : Nat} (h : c < 2 ^ 31) : ¬ nI c < -1 := fun q => nI_pos h (Int32.lt_trans q (by decide))
theorem p4_nle {c : Nat} (h : c < 2 ^ 31) : ¬ nI c ≤ -1 := fun q => nI_pos h (Int32.lt_of_le_of_lt q (by decide))
theorem lg_cmp_self (x : Int64) : lg_cmp x x = 0 := by simp [lg_cmp]
theorem rf_wait_R {f : mm_A} {wj : Nat → Nat} : ∀ nJ nW, cr_R f nJ nW wj → rf_wait f nJ = nW
  | 0, nW, h => by
    rcases Nat.eq_zero_or_pos nW with e | e
    · rw [e]; rfl
    · exact absurd (h.1 0 e).1 (Nat.not_lt_zero _)
  | n + 1, nW, h => by
    obtain ⟨h1, h2, h3⟩ := h
    rw [rf_wait_s]
    by_cases e : f 20 n = -1
    · obtain ⟨k, hk, ek⟩ := h2 n (by omega) e
      have hk1 : nW = k + 1 := by
        rcases Nat.lt_or_ge (k + 1) nW with q | q
        · have a := h3 k (k + 1) (by omega) q
          have b := (h1 (k + 1) q).1
          omega
        · omega
      subst hk1
      rw [if_pos e, rf_wait_R n k ⟨fun a ha => ⟨by have := h3 a k ha (by omega); omega, (h1 a (by omega)).2⟩, fun j hj e2 => ?_, fun a b hab hb => h3 a b hab (by omega)⟩]
      obtain ⟨a, ha, ea⟩ := h2 j (by omega) e2
      have hne : a ≠ k := fun z => by rw [z, ek] at ea; omega
      exact ⟨a, by omega, ea⟩
    · rw [if_neg e, Nat.add_zero]
      refine rf_wait_R n nW ⟨fun a ha => ⟨?_, (h1 a ha).2⟩, fun j hj e2 => h2 j (by omega) e2, h3⟩
      have q := h1 a ha
      rcases Nat.lt_or_ge (wj a) n with z | z
      · exact z
      · have z2 : wj a = n := by omega
        rw [z2] at q; exact absurd q.2 e
set_option maxRecDepth 100000 in
/-- turns of the last gear stay an int -/
theorem pv_turns {f : mm_A} {t q : Nat} (h : rf_tok f t) (hq : q ≤ 600000) : q * rf_P f t 1 / rf_P f t 2 ≤ 1898437500 := by
  obtain ⟨-, s1, s4, q4⟩ := h
  have hn : ∀ n, n ≤ rf_sm f t → rf_pn f t 1 n * 8 ^ n ≤ rf_pn f t 2 n * 60 ^ n := by
    intro n
    induction n with
    | zero => intro _; exact Nat.le_refl _
    | succ n ih =>
      intro hn
      obtain ⟨-, a1, a2⟩ := (q4 n (by omega)).2 1 (Or.inl rfl)
      obtain ⟨-, b1, b2⟩ := (q4 n (by omega)).2 2 (Or.inr rfl)
      rw [rf_pn, rf_pn, Nat.pow_succ, Nat.pow_succ]
      have h1 : rf_st f (12 * t + 3 * n + 1) * 8 ≤ rf_st f (12 * t + 3 * n + 2) * 60 := by omega
      calc rf_pn f t 1 n * rf_st f (12 * t + 3 * n + 1) * (8 ^ n * 8) = rf_pn f t 1 n * 8 ^ n * (rf_st f (12 * t + 3 * n + 1) * 8) := Nat.mul_mul_mul_comm _ _ _ _
        _ ≤ rf_pn f t 2 n * 60 ^ n * (rf_st f (12 * t + 3 * n + 2) * 60) := Nat.mul_le_mul (ih (by omega)) h1
        _ = rf_pn f t 2 n * rf_st f (12 * t + 3 * n + 2) * (60 ^ n * 60) := Nat.mul_mul_mul_comm _ _ _ _
  have h0 := hn _ (Nat.le_refl _)
  have h1 : rf_P f t 1 * 4096 ≤ rf_P f t 2 * 12960000 := by
    unfold rf_P
    generalize rf_pn f t 1 (rf_sm f t) = a at h0 ⊢
    generalize rf_pn f t 2 (rf_sm f t) = b at h0 ⊢
    rcases (show rf_sm f t = 1 ∨ rf_sm f t = 2 ∨ rf_sm f t = 3 ∨ rf_sm f t = 4 by omega) with e | e | e | e
    · rw [e, show 8 ^ 1 = 8 by decide, show 60 ^ 1 = 60 by decide] at h0
      omega
    · rw [e, show 8 ^ 2 = 64 by decide, show 60 ^ 2 = 3600 by decide] at h0
      omega
    · rw [e, show 8 ^ 3 = 512 from Nat.eq_of_beq_eq_true rfl, show 60 ^ 3 = 216000 from Nat.eq_of_beq_eq_true rfl] at h0
      omega
    · rw [e, show 8 ^ 4 = 4096 from Nat.eq_of_beq_eq_true rfl, show 60 ^ 4 = 12960000 from Nat.eq_of_beq_eq_true rfl] at h0
      omega
  have h2 := Nat.mul_le_mul hq h1
  rw [← Nat.mul_assoc] at h2
  generalize q * rf_P f t 1 = X at h2 ⊢
  exact Nat.div_le_of_le_mul (by omega)
