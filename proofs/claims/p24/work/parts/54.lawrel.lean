/-! The law: what its walk has at hand, the relation that its loop keeps. -/
def lw_E (p : Program) (l : Launch) (s : State) (m : MethodId) (c : Code) (b L : Nat) (xs : Nat → Int32) (G : fw_G) : Prop :=
  p.tables.exec = Jvm.exec ∧ c.code = code ∧ c.maxLocals = 24 ∧ s.vm.findClass RL = some m.cls ∧ (∀ w ∈ fw_tb, w.before #[Value.ref b] s = true) ∧ fw_Z G (fun q : Nat => s.heap.size ≤ q) s s.heap ∧ fw_cx s ∧ l.stackTraces = false ∧ va_X b L xs s s.heap ∧ b < s.heap.size ∧ L ≤ 260 ∧ ∀ q : Nat, s.heap.size ≤ q → (fun q : Nat => s.heap.size ≤ q) q
/-- the law's four rows -/
def p4_A (G : fw_G) (F : fw_F) (q2 q3 q4 q5 : Nat) (gA gB gO gH : Nat → Int32) : Prop := F q2 = some ((61, 0, 0), fw_ia (fw_cI G) 8 gA) ∧ F q3 = some ((62, 0, 0), fw_ia (fw_cI G) 8 gB) ∧ F q4 = some ((63, 0, 0), fw_ia (fw_cI G) 12 gO) ∧ F q5 = some ((64, 0, 0), fw_ia (fw_cI G) 12 gH)
theorem p4_A.kp {G : fw_G} {F F1 : fw_F} {q2 q3 q4 q5 : Nat} {gA gB gO gH : Nat → Int32} {P : fw_T → Prop} (h : p4_A G F q2 q3 q4 q5 gA gB gO gH) (hk : fw_kp F F1 P) (hP : ∀ t : fw_T, 61 ≤ t.1 → ¬ P t) : p4_A G F1 q2 q3 q4 q5 gA gB gO gH :=
  ⟨hk _ _ _ h.1 (hP _ (by decide)), hk _ _ _ h.2.1 (hP _ (by decide)), hk _ _ _ h.2.2.1 (hP _ (by decide)), hk _ _ _ h.2.2.2 (hP _ (by decide))⟩
theorem p4_A.s2 {G : fw_G} {F : fw_F} {q2 q3 q4 q5 : Nat} {gA gB gO gH g : Nat → Int32} (h : p4_A G F q2 q3 q4 q5 gA gB gO gH) : p4_A G (va_up F q2 (some ((61, 0, 0), fw_ia (fw_cI G) 8 g))) q2 q3 q4 q5 g gB gO gH :=
  ⟨fw_up_self, fw_up_tag h.2.1 h.1 (by intro z; cases z), fw_up_tag h.2.2.1 h.1 (by intro z; cases z), fw_up_tag h.2.2.2 h.1 (by intro z; cases z)⟩
theorem p4_A.s3 {G : fw_G} {F : fw_F} {q2 q3 q4 q5 : Nat} {gA gB gO gH g : Nat → Int32} (h : p4_A G F q2 q3 q4 q5 gA gB gO gH) : p4_A G (va_up F q3 (some ((62, 0, 0), fw_ia (fw_cI G) 8 g))) q2 q3 q4 q5 gA g gO gH :=
  ⟨fw_up_tag h.1 h.2.1 (by intro z; cases z), fw_up_self, fw_up_tag h.2.2.1 h.2.1 (by intro z; cases z), fw_up_tag h.2.2.2 h.2.1 (by intro z; cases z)⟩
theorem p4_A.s4 {G : fw_G} {F : fw_F} {q2 q3 q4 q5 : Nat} {gA gB gO gH g : Nat → Int32} (h : p4_A G F q2 q3 q4 q5 gA gB gO gH) : p4_A G (va_up F q4 (some ((63, 0, 0), fw_ia (fw_cI G) 12 g))) q2 q3 q4 q5 gA gB g gH :=
  ⟨fw_up_tag h.1 h.2.2.1 (by intro z; cases z), fw_up_tag h.2.1 h.2.2.1 (by intro z; cases z), fw_up_self, fw_up_tag h.2.2.2 h.2.2.1 (by intro z; cases z)⟩
theorem p4_A.s5 {G : fw_G} {F : fw_F} {q2 q3 q4 q5 : Nat} {gA gB gO gH g : Nat → Int32} (h : p4_A G F q2 q3 q4 q5 gA gB gO gH) : p4_A G (va_up F q5 (some ((64, 0, 0), fw_ia (fw_cI G) 12 g))) q2 q3 q4 q5 gA gB gO g :=
  ⟨fw_up_tag h.1 h.2.2.2 (by intro z; cases z), fw_up_tag h.2.1 h.2.2.2 (by intro z; cases z), fw_up_tag h.2.2.1 h.2.2.2 (by intro z; cases z), fw_up_self⟩
theorem CL.up {F : fw_F} {x nC nT nO nJ nD a : Nat} {f : mm_A} {tm : Int32} {t : fw_T} {e e' : fw_E} (h : CL F x f nC nT nO nJ nD tm) (ha : F a = some (t, e)) (ht : 60 ≤ t.1) : CL (va_up F a (some (t, e'))) x f nC nT nO nJ nD tm := h.kp (fw_kp.rf.up ha (Or.inl ht))
def p4_R (G : fw_G) (F : fw_F) (x q2 q3 q4 q5 i nC nT nO T : Nat) : Prop := ∃ (f : mm_A) (nJ : Nat) (h : Nat → Nat) (gA gB gO gH : Nat → Int32), p4_A G F q2 q3 q4 q5 gA gB gO gH ∧ T ≤ 60 * i ∧ CL F x f nC nT nO nJ 0 (nI T) ∧ PU f nT nO nJ 0 ∧ PV f nC nT nO nJ T h gA gB gO gH
theorem p4_in {a x b : Nat} (h1 : a ≤ x) (h2 : x ≤ b) (h3 : b < 2 ^ 31) : rf_in (nI x) (nI a) (nI b) = true := rf_in_t.mpr ⟨nI_le h1 (by omega), nI_le h2 h3⟩
theorem p4_okC {mo le mx : Nat} (a1 : 1 ≤ mo) (a2 : mo ≤ 4) (b1 : 8 ≤ le) (b2 : le ≤ mx) (b3 : mx ≤ 60) : rf_okC (nI mo) (nI le) (nI mx) = true := by
  rw [rf_okC, p4_in a1 a2 (by decide), p4_in b1 (by omega) (by decide), p4_in b2 b3 (by decide)]; rfl
theorem p4_okG {mo te : Nat} (a1 : 1 ≤ mo) (a2 : mo ≤ 4) (b1 : 8 ≤ te) (b2 : te ≤ 60) : rf_okG (nI mo) (nI te) = true := by
  rw [rf_okG, p4_in a1 a2 (by decide), p4_in b1 b2 (by decide)]; rfl
theorem p4_okS {mo a b : Nat} (a1 : 1 ≤ mo) (a2 : mo ≤ 4) (b1 : 8 ≤ a) (b2 : a ≤ 60) (c1 : 8 ≤ b) (c2 : b ≤ 60) : rf_okS (nI mo) (nI a) (nI b) = true := by
  rw [rf_okS, p4_in a1 a2 (by decide), p4_in b1 b2 (by decide), p4_in c1 c2 (by decide)]; rfl
theorem p4_okT {a b : Nat} (a1 : 1 ≤ a) (a2 : a ≤ 100) (b1 : 1 ≤ b) (b2 : b ≤ 100) : rf_okT (nI a) (nI b) = true := by
  rw [rf_okT, p4_in a1 a2 (by decide), p4_in b1 b2 (by decide)]; rfl
/-- the draft, a stage longer -/
theorem p4_dp1 {f : mm_A} {k m9 a9 b9 : Nat} (ha : a9 < 2 ^ 31) : rf_dp (va_up f 6 (cl_dt (f 6) k (nI m9) (nI a9) (nI b9))) 1 (k + 1) = rf_dp f 1 k * a9 := by
  rw [rf_dp, rf_dp_cg (f := f) 1 k (fun j hj => by
    show rf_n (cl_dt (f 6) k (nI m9) (nI a9) (nI b9) (3 * j + 1)) = _
    rw [cl_dt_o (by omega)])]
  show _ * rf_n (cl_dt (f 6) k (nI m9) (nI a9) (nI b9) (3 * k + 1)) = _
  rw [cl_dt_1, rf_n_nI ha]
theorem p4_dp2 {f : mm_A} {k m9 a9 b9 : Nat} (hb : b9 < 2 ^ 31) : rf_dp (va_up f 6 (cl_dt (f 6) k (nI m9) (nI a9) (nI b9))) 2 (k + 1) = rf_dp f 2 k * b9 := by
  rw [rf_dp, rf_dp_cg (f := f) 2 k (fun j hj => by
    show rf_n (cl_dt (f 6) k (nI m9) (nI a9) (nI b9) (3 * j + 2)) = _
    rw [cl_dt_o (by omega)])]
  show _ * rf_n (cl_dt (f 6) k (nI m9) (nI a9) (nI b9) (3 * k + 2)) = _
  rw [cl_dt_2, rf_n_nI hb]
theorem p4_all {f : mm_A} {k nC : Nat} {mo a b : Int32} : cl_all (va_up f 6 (cl_dt (f 6) k mo a b)) nC (va_up f 6 (cl_dt (f 6) k mo a b) 6) (k + 1) = (cl_all f nC (f 6) k && (!(decide (rf_cut f nC mo a = -1)) && !(decide (rf_cut f nC mo b = -1)))) := by
  show cl_all (va_up f 6 (cl_dt (f 6) k mo a b)) nC (cl_dt (f 6) k mo a b) (k + 1) = _
  rw [cl_all, cl_all_cg (f := f) (g := va_up f 6 (cl_dt (f 6) k mo a b)) (dt := f 6) (dt' := cl_dt (f 6) k mo a b) rfl rfl rfl k (fun i hi => cl_dt_o hi), cl_dt_0, cl_dt_1, cl_dt_2, rf_cut_cong (f := va_up f 6 (cl_dt (f 6) k mo a b)) (g := f) rfl rfl rfl, rf_cut_cong (f := va_up f 6 (cl_dt (f 6) k mo a b)) (g := f) rfl rfl rfl]
