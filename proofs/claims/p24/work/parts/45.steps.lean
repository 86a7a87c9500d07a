/-! What each call does to the relation. -/
theorem cr_T.kp {F F2 : fw_F} {P : fw_T → Prop} {ta sl fr : Nat → Nat} {sa : Nat → Nat → Nat} {f : mm_A} {nT : Nat} (h : cr_T F ta sl fr sa f nT) (hk : fw_kp F F2 P) (hP : ∀ t : fw_T, (t.1 = 3 ∨ t.1 = 13 ∨ t.1 = 33 ∨ t.1 = 23) → t.2.1 < nT → ¬ P t) : cr_T F2 ta sl fr sa f nT := fun i hi => by
  obtain ⟨h1, ⟨ar, h2⟩, h3, h4⟩ := h i hi
  exact ⟨hk _ _ _ h1 (hP _ (by simp) hi), ⟨ar, hk _ _ _ h2 (hP _ (by simp) hi)⟩, hk _ _ _ h3 (hP _ (by simp) hi), fun k hk9 => hk _ _ _ (h4 k hk9) (hP _ (by simp) hi)⟩
theorem cr_Z.kp {F F2 : fw_F} {P : fw_T → Prop} {ml : Nat → Nat} {ms sa : Nat → Nat → Nat} {f : mm_A} {nO : Nat} (h : cr_Z F ml ms sa f nO) (hk : fw_kp F F2 P) (hP : ∀ t : fw_T, (t.1 = 6 ∨ t.1 = 7) → t.2.1 < nO → ¬ P t) : cr_Z F2 ml ms sa f nO := fun o ho => by
  obtain ⟨⟨ar, h1⟩, h2⟩ := h o ho
  exact ⟨⟨ar, hk _ _ _ h1 (hP _ (by simp) ho)⟩, fun k hk9 => hk _ _ _ (h2 k hk9) (hP _ (by simp) ho)⟩
theorem cr_D.kp {F F2 : fw_F} {P : fw_T → Prop} {dr ds dfr : Nat} {da : Nat → Nat} {f : mm_A} {nT nD : Nat} (h : cr_D F dr ds dfr da f nT nD) (hk : fw_kp F F2 P) (hP : ∀ t : fw_T, (t.1 = 3 ∨ t.1 = 13 ∨ t.1 = 33 ∨ t.1 = 23) → t.2.1 = nT → ¬ P t) : cr_D F2 dr ds dfr da f nT nD := by
  obtain ⟨h0, h1, ⟨ar, h2⟩, h3, h4⟩ := h
  exact ⟨h0, hk _ _ _ h1 (hP _ (by simp) rfl), ⟨ar, hk _ _ _ h2 (hP _ (by simp) rfl)⟩, hk _ _ _ h3 (hP _ (by simp) rfl), fun k hk9 => hk _ _ _ (h4 k hk9) (hP _ (by simp) rfl)⟩
theorem cr_t.kp {F F2 : fw_F} {P : fw_T → Prop} {lt nT : Nat} {ta : Nat → Nat} (h : cr_t F lt ta nT) (hk : fw_kp F F2 P) (hP : ¬ P (1, 1, 0)) : cr_t F2 lt ta nT := ⟨h.1, by obtain ⟨a, b⟩ := h.2; exact ⟨a, hk _ _ _ b hP⟩⟩
theorem cr_o.kp {F F2 : fw_F} {P : fw_T → Prop} {lo nO : Nat} {oa : Nat → Nat} (h : cr_o F lo oa nO) (hk : fw_kp F F2 P) (hP : ¬ P (1, 2, 0)) : cr_o F2 lo oa nO := ⟨h.1, by obtain ⟨a, b⟩ := h.2; exact ⟨a, hk _ _ _ b hP⟩⟩
/-! a new pair -/
theorem cl_f0_22 : ∀ k, k < 3 → cl_f0 22 k = -1 := fun k hk => by rcases (show k = 0 ∨ k = 1 ∨ k = 2 by omega) with rfl | rfl | rfl <;> decide
theorem cl_f0_23 : ∀ k, k < 3 → cl_f0 23 k = -1 := fun k hk => by rcases (show k = 0 ∨ k = 1 ∨ k = 2 by omega) with rfl | rfl | rfl <;> decide
theorem st_new {G : fw_G} {F : fw_F} {x lc lt lo lm lw dr ds dfr am : Nat} {ma : Nat → Nat} (hX : cr_X F x lc lt lo lm lw dr (nI 0)) (h1 : F lc = some ((1, 0, 0), fw_ls (fw_ea G) 0 (fun _ => 0))) (h2 : F lt = some ((1, 1, 0), fw_ls (fw_ea G) 0 (fun _ => 0))) (h3 : F lo = some ((1, 2, 0), fw_ls (fw_ea G) 0 (fun _ => 0))) (h4 : F lm = some ((1, 3, 0), fw_ls am 3 ma)) (h5 : F lw = some ((1, 4, 0), fw_ls (fw_ea G) 0 (fun _ => 0))) (h6 : ∀ k, k < 3 → F (ma k) = some ((9, k, 0), fw_obj 4 [.int (-1), .null, .int (nI 0)])) (h7 : F dr = some ((3, 0, 0), fw_obj 8 [.ref ds, .ref dfr, .int (nI 0)])) (h8 : F ds = some ((13, 0, 0), fw_ls (fw_ea G) 0 (fun _ => 0))) (h9 : F dfr = some ((33, 0, 0), fw_obj 2 [.long (lN 1), .long (lN 1)])) : RB F x cl_f0 (fun _ => nI 0) 0 0 0 0 0 0 := by
  have nl : ∀ {p : Prop} (i : Nat), i < 0 → p := fun i h => absurd h (Nat.not_lt_zero i)
  refine ⟨⟨lc, lt, lo, lm, lw, dr, ds, dfr, fun _ => 0, fun _ => 0, fun _ => 0, fun _ => 0, fun _ => 0, fun _ => 0, fun _ => 0, ma, fun _ => 0, fun _ => 0, fun _ => 0, fun _ _ => 0, fun _ _ => 0, 0, hX, ⟨by decide, ⟨_, h1⟩, fun i h => nl i h⟩, ⟨by decide, _, h2⟩, fun i h => nl i h, ⟨by decide, _, h3⟩, ⟨⟨⟨_, h4⟩, fun k hk => ?_⟩, ⟨by decide, ⟨_, h5⟩, fun i h => nl i h⟩, fun i h => nl i h, fun i h => nl i h⟩, ?_, fun i h => nl i h, ⟨by decide, h7, ⟨_, h8⟩, h9, fun i h => nl i h⟩, fun i h => nl i h⟩, ?_, rfl, rfl, rfl, rfl, rfl, rfl⟩
  · rw [cl_jb, cl_lf, if_pos (cl_f0_23 k hk), if_pos (cl_f0_23 k hk), cl_f0_22 k hk]
    exact h6 k hk
  · exact ⟨by decide, by decide, ⟨fun m hm => Or.inl (cl_f0_23 m hm), fun i h => nl i h⟩, ⟨fun i h => nl i h, fun i h => nl i h, fun a b _ h => nl b h⟩, fun m hm i h => nl i h, fun i h => nl i h, fun i h => nl i h⟩
  · exact ⟨fun i h => nl i h, fun i h => nl i h, fun _ _ _ => rfl, fun _ _ _ => rfl, fun _ _ _ _ _ => rfl, fun i h => nl i h, fun i h => nl i h, by decide, fun i h => nl i h⟩
/-! a cutter more -/
theorem st_addCutter {F F2 : fw_F} {x lc lt lo lm lw dr ds dfr : Nat} {ca ta sl fr oa tr ml ma ja da wj : Nat → Nat} {sa ms : Nat → Nat → Nat} {nW nC nT nO nJ nD : Nat} {tm : Int32} {f : mm_A} (hX : cr_X F x lc lt lo lm lw dr tm) (hC : cr_C F lc ca f nC) (hT1 : cr_t F lt ta nT) (hTr : cr_T F ta sl fr sa f nT) (hO1 : cr_o F lo oa nO) (hK : cr_K F lm lw ma ja oa tr ml f nJ nO nW wj) (hI : cr_I f nJ nO nW wj) (hZ : cr_Z F ml ms sa f nO) (hD : cr_D F dr ds dfr da f nT nD) (htr : ∀ o, o < nO → tr o = ta (rf_ot f o)) (hPU : PU f nT nO nJ nD) {b q : Nat} {mo le mx : Int32} (hn : nC < 10) (hb : F b = none) (hF2 : F2 = va_up (va_up F b (some ((2, nC, 0), fw_obj 1 [.int mo, .int le, .int mx]))) lc (some ((1, 0, 0), fw_ls q (nC + 1) (va_up ca nC b)))) {g : mm_A} (hg : g = va_up (va_up (va_up f 2 (upd (f 2) nC mo)) 3 (upd (f 3) nC le)) 4 (upd (f 4) nC mx)) : CL F2 x g (nC + 1) nT nO nJ nD tm ∧ PU g nT nO nJ nD ∧ fw_kp F F2 (fun t => t.1 < 60) := by
  obtain ⟨hc10, ⟨arr, hLc⟩, hcs⟩ := hC
  have hk : fw_kp F F2 (fun t => t = (1, 0, 0)) := by rw [hF2]; exact (fw_kp.rf.new hb).up (fw_up_new hLc hb) rfl
  have hj : ∀ k, k ≠ 2 → k ≠ 3 → k ≠ 4 → g k = f k := fun k a b c => by rw [hg, va_up_ne _ _ c, va_up_ne _ _ b, va_up_ne _ _ a]
  have g2 : g 2 = upd (f 2) nC mo := by rw [hg]; rfl
  have g3 : g 3 = upd (f 3) nC le := by rw [hg]; rfl
  have g4 : g 4 = upd (f 4) nC mx := by rw [hg]; rfl
  have J := fun k (a : k ≠ 2 ∧ k ≠ 3 ∧ k ≠ 4) => hj k a.1 a.2.1 a.2.2
  obtain ⟨p1, p2, p3, p4, p5, p6, p7, p8, p9⟩ := hPU
  refine ⟨⟨lc, lt, lo, lm, lw, dr, ds, dfr, va_up ca nC b, ta, sl, fr, oa, tr, ml, ma, ja, da, wj, sa, ms, nW, hk _ _ _ hX (by simp), ⟨by omega, ⟨q, by rw [hF2]; exact fw_up_self⟩, fun i hi => ?_⟩, hT1.kp hk (by simp), (hTr.kp hk (fun t h _ z => by rw [z] at h; simp at h)).cg (J 8 (by decide)) (J 9 (by decide)) (J 10 (by decide)), hO1.kp hk (by simp), (hK.kp hk (fun t h z => by rw [z] at h; simp at h)).cg (J 13 (by decide)) (J 14 (by decide)) (J 17 (by decide)) (J 18 (by decide)) (J 19 (by decide)) (J 20 (by decide)) (J 22 (by decide)) (J 23 (by decide)) (J 24 (by decide)), hI.cg (J 13 (by decide)) (J 17 (by decide)) (J 19 (by decide)) (J 20 (by decide)) (J 23 (by decide)) (J 24 (by decide)), (hZ.kp hk (fun t h _ z => by rw [z] at h; simp at h)).cg (J 8 (by decide)) (J 12 (by decide)) (J 15 (by decide)), (hD.kp hk (fun t h _ z => by rw [z] at h; simp at h)).cg (J 6 (by decide)), fun o ho => by rw [rf_ot_cg (J 12 (by decide))]; exact htr o ho⟩, ⟨fun j hj => rf_tok_cg (p1 j hj) (J 8 (by decide)) (J 9 (by decide)), fun j hj => by rw [rf_ot_cg (J 12 (by decide)), J 12 (by decide)]; exact p2 j hj, by rw [J 10 (by decide)]; exact p3, by rw [J 14 (by decide)]; exact p4, by rw [J 15 (by decide)]; exact p5, by rw [J 14 (by decide)]; exact p6, p7.cg (J 13 (by decide)) (J 17 (by decide)) (J 20 (by decide)), p8, rf_dok_cg p9 (J 6 (by decide))⟩, hk.wk (fun t z => by rw [z]; decide)⟩
  rw [g2, g3, g4]
  by_cases e : i = nC
  · subst e
    rw [va_up_self, pk_us, pk_us, pk_us, hF2]
    exact fw_up_tag fw_up_self (fw_up_new hLc hb) (by intro z; cases z)
  · rw [va_up_ne _ _ e, pk_un e, pk_un e, pk_un e]
    exact hk _ _ _ (hcs i (by omega)) (by simp)
/-! a stage more in the draft -/
theorem st_stage {F F2 : fw_F} {x lc lt lo lm lw dr ds dfr : Nat} {ca ta sl fr oa tr ml ma ja da wj : Nat → Nat} {sa ms : Nat → Nat → Nat} {nW nC nT nO nJ nD : Nat} {tm : Int32} {f : mm_A} (hX : cr_X F x lc lt lo lm lw dr tm) (hC : cr_C F lc ca f nC) (hT1 : cr_t F lt ta nT) (hTr : cr_T F ta sl fr sa f nT) (hO1 : cr_o F lo oa nO) (hK : cr_K F lm lw ma ja oa tr ml f nJ nO nW wj) (hI : cr_I f nJ nO nW wj) (hZ : cr_Z F ml ms sa f nO) (hD : cr_D F dr ds dfr da f nT nD) (htr : ∀ o, o < nO → tr o = ta (rf_ot f o)) (hPU : PU f nT nO nJ nD) {mo a b : Int32} {m9 q9 p9 st q : Nat} (hn : nD < 4) (em : mo = nI m9) (eq : a = nI q9) (ep : b = nI p9) (m1 : 1 ≤ m9) (m2 : m9 ≤ 4) (q1 : 8 ≤ q9) (q2 : q9 ≤ 60) (p1 : 8 ≤ p9) (p2 : p9 ≤ 60)
    (h1 : F2 ds = some ((13, nT, 0), fw_ls q (nD + 1) (va_up da nD st))) (h2 : F2 dfr = some ((33, nT, 0), fw_obj 2 [.long (lN (rf_dp f 2 nD / cr_dg f nD * p9 / (Nat.gcd (rf_dp f 2 nD / cr_dg f nD * p9) (rf_dp f 1 nD / cr_dg f nD * q9)))), .long (lN (rf_dp f 1 nD / cr_dg f nD * q9 / (Nat.gcd (rf_dp f 2 nD / cr_dg f nD * p9) (rf_dp f 1 nD / cr_dg f nD * q9))))]))
    (h3 : ∀ k, k < nD + 1 → F2 (va_up da nD st k) = some ((23, nT, k), fw_obj 7 [.int (cl_dt (f 6) nD mo a b (3 * k)), .int (cl_dt (f 6) nD mo a b (3 * k + 1)), .int (cl_dt (f 6) nD mo a b (3 * k + 2))])) (hk : fw_kp F F2 (fun w => w = (13, nT, 0) ∨ w = (33, nT, 0))) {g : mm_A} (hg : g = va_up f 6 (cl_dt (f 6) nD mo a b)) : CL F2 x g nC nT nO nJ (nD + 1) tm ∧ PU g nT nO nJ (nD + 1) ∧ fw_kp F F2 (fun t => t.1 < 60) := by
  have J : ∀ k, k ≠ 6 → g k = f k := fun k h => by rw [hg, va_up_ne _ _ h]
  have g6 : g 6 = cl_dt (f 6) nD mo a b := by rw [hg]; rfl
  obtain ⟨u1, u2, u3, u4, u5, u6, u7, u8, u9⟩ := hPU
  obtain ⟨hd4, hD1, -, -, -⟩ := hD
  have hdp : ∀ w, w = 1 ∨ w = 2 → rf_dp g w nD = rf_dp f w nD := fun w hw => rf_dp_cg w nD (fun k hk => by rw [g6, cl_dt_o (by omega)])
  have e1 : rf_dp g 1 (nD + 1) = rf_dp f 1 nD * q9 := by rw [rf_dp, hdp 1 (Or.inl rfl), g6, cl_dt_1, eq, rf_n_nI (by omega)]
  have e2 : rf_dp g 2 (nD + 1) = rf_dp f 2 nD * p9 := by rw [rf_dp, hdp 2 (Or.inr rfl), g6, cl_dt_2, ep, rf_n_nI (by omega)]
  have hf := cl_fr (a := rf_dp f 2 nD) (b := rf_dp f 1 nD) (p := p9) (q := q9) (rf_dp_ok u9 (Or.inr rfl) nD (Nat.le_refl _)).1
  have htag : ∀ t : fw_T, (t.1 ≠ 13 ∧ t.1 ≠ 33) ∨ t.2.1 ≠ nT → ¬ (t = (13, nT, 0) ∨ t = (33, nT, 0)) := fun t h z => by
    rcases z with rfl | rfl <;> simp at h
  refine ⟨⟨lc, lt, lo, lm, lw, dr, ds, dfr, ca, ta, sl, fr, oa, tr, ml, ma, ja, va_up da nD st, wj, sa, ms, nW, hk _ _ _ hX (by simp), (hC.kp hk (fun t h => htag t (Or.inl (by rcases h with rfl | h <;> simp [*])))).cg (J 2 (by decide)) (J 3 (by decide)) (J 4 (by decide)), hT1.kp hk (by simp), (hTr.kp hk (fun t _ h => htag t (Or.inr (by omega)))).cg (J 8 (by decide)) (J 9 (by decide)) (J 10 (by decide)), hO1.kp hk (by simp), (hK.kp hk (fun t h => htag t (Or.inl (by rcases h with h | h | h | rfl | rfl <;> simp [*])))).cg (J 13 (by decide)) (J 14 (by decide)) (J 17 (by decide)) (J 18 (by decide)) (J 19 (by decide)) (J 20 (by decide)) (J 22 (by decide)) (J 23 (by decide)) (J 24 (by decide)), hI.cg (J 13 (by decide)) (J 17 (by decide)) (J 19 (by decide)) (J 20 (by decide)) (J 23 (by decide)) (J 24 (by decide)), (hZ.kp hk (fun t h _ => htag t (Or.inl (by omega)))).cg (J 8 (by decide)) (J 12 (by decide)) (J 15 (by decide)), ⟨by omega, hk _ _ _ hD1 (by simp), ⟨q, h1⟩, ?_, fun k hk9 => by rw [g6]; exact h3 k hk9⟩, fun o ho => by rw [rf_ot_cg (J 12 (by decide))]; exact htr o ho⟩, ⟨fun j hj => rf_tok_cg (u1 j hj) (J 8 (by decide)) (J 9 (by decide)), fun j hj => by rw [rf_ot_cg (J 12 (by decide)), J 12 (by decide)]; exact u2 j hj, by rw [J 10 (by decide)]; exact u3, by rw [J 14 (by decide)]; exact u4, by rw [J 15 (by decide)]; exact u5, by rw [J 14 (by decide)]; exact u6, u7.cg (J 13 (by decide)) (J 17 (by decide)) (J 20 (by decide)), u8, ?_⟩, hk.wk (fun t z => by rcases z with rfl | rfl <;> simp)⟩
  · rw [cr_dg, e1, e2, ← hf.1, ← hf.2]; exact h2
  · intro k hk9
    rw [g6]
    by_cases e : k = nD
    · subst e
      rw [cl_dt_0, em, rf_n_nI (by omega)]
      refine ⟨⟨rfl, m1, m2⟩, fun w hw => ?_⟩
      rcases hw with rfl | rfl
      · rw [cl_dt_1, eq, rf_n_nI (by omega)]; exact ⟨rfl, q1, q2⟩
      · rw [cl_dt_2, ep, rf_n_nI (by omega)]; exact ⟨rfl, p1, p2⟩
    · have h9 := u9 k (by omega)
      rw [cl_dt_o (by omega)]
      refine ⟨h9.1, fun w hw => ?_⟩
      rw [cl_dt_o (by omega)]
      exact h9.2 w hw
theorem rf_d0 (f : mm_A) (w : Nat) : rf_dp f w 0 / cr_dg f 0 = 1 := by
  show 1 / Nat.gcd 1 1 = 1
  decide
/-! the draft forgotten -/
theorem st_scrap {F F2 : fw_F} {x lc lt lo lm lw dr ds dfr : Nat} {ca ta sl fr oa tr ml ma ja da wj : Nat → Nat} {sa ms : Nat → Nat → Nat} {nW nC nT nO nJ nD : Nat} {tm : Int32} {f : mm_A} {G : fw_G} (hX : cr_X F x lc lt lo lm lw dr tm) (hC : cr_C F lc ca f nC) (hT1 : cr_t F lt ta nT) (hTr : cr_T F ta sl fr sa f nT) (hO1 : cr_o F lo oa nO) (hK : cr_K F lm lw ma ja oa tr ml f nJ nO nW wj) (hI : cr_I f nJ nO nW wj) (hZ : cr_Z F ml ms sa f nO) (hD : cr_D F dr ds dfr da f nT nD) (htr : ∀ o, o < nO → tr o = ta (rf_ot f o)) (hPU : PU f nT nO nJ nD) {b q1 q2 : Nat} (h1 : cr_X F2 x lc lt lo lm lw b tm) (h2 : F2 b = some ((3, nT, 0), fw_obj 8 [.ref q1, .ref q2, .int (nI 0)])) (h3 : F2 q1 = some ((13, nT, 0), fw_ls (fw_ea G) 0 (fun _ => 0))) (h4 : F2 q2 = some ((33, nT, 0), fw_obj 2 [.long (lN 1), .long (lN 1)])) (hk : fw_kp F F2 (fun u => u = (50, 0, 0) ∨ u = (3, nT, 0))) : CL F2 x f nC nT nO nJ 0 tm ∧ PU f nT nO nJ 0 ∧ fw_kp F F2 (fun t => t.1 < 60) := by
  have htag : ∀ t : fw_T, (t.1 ≠ 50 ∧ t.1 ≠ 3) ∨ (t.1 ≠ 50 ∧ t.2.1 ≠ nT) → ¬ (t = (50, 0, 0) ∨ t = (3, nT, 0)) := fun t h z => by
    rcases z with rfl | rfl <;> simp at h
  obtain ⟨u1, u2, u3, u4, u5, u6, u7, u8, u9⟩ := hPU
  exact ⟨⟨lc, lt, lo, lm, lw, b, q1, q2, ca, ta, sl, fr, oa, tr, ml, ma, ja, fun _ => 0, wj, sa, ms, nW, h1, hC.kp hk (fun t h => htag t (Or.inl (by rcases h with rfl | h <;> simp [*]))), hT1.kp hk (by simp), hTr.kp hk (fun t h h9 => htag t (Or.inr (by omega))), hO1.kp hk (by simp), hK.kp hk (fun t h => htag t (Or.inl (by rcases h with h | h | h | rfl | rfl <;> simp [*]))), hI, hZ.kp hk (fun t h _ => htag t (Or.inl (by omega))), ⟨by decide, h2, ⟨_, h3⟩, by rw [rf_d0, rf_d0]; exact h4, fun k h => absurd h (Nat.not_lt_zero k)⟩, htr⟩, ⟨u1, u2, u3, u4, u5, u6, u7, u8, fun k h => absurd h (Nat.not_lt_zero k)⟩, hk.wk (fun t z => by rcases z with rfl | rfl <;> simp)⟩
/-! the draft a train -/
theorem rf_copy_at (f : mm_A) (nT : Nat) : ∀ (n i : Nat), rf_copy f nT n i = if 12 * nT ≤ i ∧ i < 12 * nT + n then f 6 (i - 12 * nT) else f 9 i
  | 0, i => by rw [if_neg (by omega)]; rfl
  | n + 1, i => by
    rw [rf_copy]
    by_cases e : i = 12 * nT + n
    · subst e
      rw [pk_us, if_pos (by omega)]
      congr 1; omega
    · rw [pk_un e, rf_copy_at f nT n i]
      by_cases h : 12 * nT ≤ i ∧ i < 12 * nT + n
      · rw [if_pos h, if_pos (by omega)]
      · rw [if_neg h, if_neg (by omega)]
theorem st_make {F F2 : fw_F} {x lc lt lo lm lw dr ds dfr : Nat} {ca ta sl fr oa tr ml ma ja da wj : Nat → Nat} {sa ms : Nat → Nat → Nat} {nW nC nT nO nJ nD : Nat} {tm : Int32} {f : mm_A} {G : fw_G} (hX : cr_X F x lc lt lo lm lw dr tm) (hC : cr_C F lc ca f nC) (hT1 : cr_t F lt ta nT) (hTr : cr_T F ta sl fr sa f nT) (hO1 : cr_o F lo oa nO) (hK : cr_K F lm lw ma ja oa tr ml f nJ nO nW wj) (hI : cr_I f nJ nO nW wj) (hZ : cr_Z F ml ms sa f nO) (hD : cr_D F dr ds dfr da f nT nD) (htr : ∀ o, o < nO → tr o = ta (rf_ot f o)) (hPU : PU f nT nO nJ nD) {al b q1 q2 : Nat} (hn : 0 < nD) (h8 : nT < 8) (h0 : F2 lt = some ((1, 1, 0), fw_ls al (nT + 1) (va_up ta nT dr))) (h1 : cr_X F2 x lc lt lo lm lw b tm) (h2 : F2 b = some ((3, nT + 1, 0), fw_obj 8 [.ref q1, .ref q2, .int (nI 0)])) (h3 : F2 q1 = some ((13, nT + 1, 0), fw_ls (fw_ea G) 0 (fun _ => 0))) (h4 : F2 q2 = some ((33, nT + 1, 0), fw_obj 2 [.long (lN 1), .long (lN 1)])) (hk : fw_kp F F2 (fun w => w = (50, 0, 0) ∨ w = (1, 1, 0) ∨ w = (3, nT + 1, 0))) {g : mm_A} (hg : g = va_up (va_up f 9 (rf_copy f nT (3 * nD))) 8 (upd (f 8) nT (nI nD))) : CL F2 x g nC (nT + 1) nO nJ 0 tm ∧ PU g (nT + 1) nO nJ 0 ∧ fw_kp F F2 (fun t => t.1 < 60) := by
  have J9 : ∀ k, k ≠ 8 ∧ k ≠ 9 → g k = f k := fun k h => by rw [hg, va_up_ne _ _ h.1, va_up_ne _ _ h.2]
  have J := fun k h => J9 k h
  have g8 : g 8 = upd (f 8) nT (nI nD) := by rw [hg]; rfl
  have g9 : g 9 = rf_copy f nT (3 * nD) := by rw [hg]; rfl
  obtain ⟨u1, u2, u3, u4, u5, u6, u7, u8, u9⟩ := hPU
  obtain ⟨hd4, hD1, ⟨ad9, hD2⟩, hD3, hD4⟩ := hD
  have a9 : ∀ i, i < 12 * nT → g 9 i = f 9 i := fun i h => by rw [g9, rf_copy_at, if_neg (by omega)]
  have n9 : ∀ i, i < 3 * nD → g 9 (12 * nT + i) = f 6 i := fun i h => by rw [g9, rf_copy_at, if_pos (by omega), Nat.add_sub_cancel_left]
  have s8 : ∀ i, i < nT → rf_sm g i = rf_sm f i := fun i h => by rw [rf_sm, rf_sm, g8, pk_un (by omega)]
  have sN : rf_sm g nT = nD := by rw [rf_sm, g8, pk_us, rf_n_nI (by omega)]
  have sle : ∀ i, i < nT → rf_sm f i ≤ 4 := fun i h => (u1 i h).2.2.1
  have t9 : ∀ i, i < nT → ∀ k, k < rf_sm f i → ∀ w, w < 3 → g 9 (12 * i + 3 * k + w) = f 9 (12 * i + 3 * k + w) := fun i h k hk9 w hw => a9 _ (by have := sle i h; omega)
  have pn : ∀ i, i < nT → ∀ w, w < 3 → ∀ n, n ≤ rf_sm f i → rf_pn g i w n = rf_pn f i w n := fun i h w hw n => by
    induction n with
    | zero => intro _; rfl
    | succ n ih => intro h9; rw [rf_pn, rf_pn, ih (by omega), rf_st, rf_st, t9 i h n (by omega) w hw]
  have pN : ∀ w, w < 3 → ∀ n, n ≤ nD → rf_pn g nT w n = rf_dp f w n := fun w hw n => by
    induction n with
    | zero => intro _; rfl
    | succ n ih => intro h9; rw [rf_pn, rf_dp, ih (by omega), rf_st, Nat.add_assoc, n9 _ (by omega)]
  have eP : ∀ i, i < nT → ∀ w, w < 3 → rf_P g i w = rf_P f i w := fun i h w hw => by rw [rf_P, rf_P, s8 i h, pn i h w hw _ (Nat.le_refl _)]
  have eN : ∀ w, w < 3 → rf_P g nT w = rf_dp f w nD := fun w hw => by rw [rf_P, sN, pN w hw _ (Nat.le_refl _)]
  have htag : ∀ t : fw_T, t.1 ≠ 50 → t ≠ (1, 1, 0) → (t.1 ≠ 3 ∨ t.2.1 ≠ nT + 1) → ¬ (t = (50, 0, 0) ∨ t = (1, 1, 0) ∨ t = (3, nT + 1, 0)) := fun t a b c z => by
    rcases z with rfl | rfl | rfl
    · exact a rfl
    · exact b rfl
    · simp at c
  have htC : ∀ t : fw_T, t = (1, 0, 0) ∨ t.1 = 2 → ¬ (t = (50, 0, 0) ∨ t = (1, 1, 0) ∨ t = (3, nT + 1, 0)) := fun t h => by
    rcases h with rfl | h
    · simp
    · exact htag t (by omega) (fun z => by rw [z] at h; cases h) (Or.inl (by omega))
  have hsa : ∀ i, i < nT → va_up sa nT da i = sa i := fun i h => va_up_ne _ _ (by omega)
  have hot : ∀ o, rf_ot g o = rf_ot f o := fun o => rf_ot_cg (J 12 (by decide)) o
  refine ⟨⟨lc, lt, lo, lm, lw, b, q1, q2, ca, va_up ta nT dr, va_up sl nT ds, va_up fr nT dfr, oa, tr, ml, ma, ja, fun _ => 0, wj, va_up sa nT da, ms, nW, h1, (hC.kp hk (fun t h => by exact htC t h)).cg (J 2 (by decide)) (J 3 (by decide)) (J 4 (by decide)), ⟨by omega, al, h0⟩, fun i hi => ?_, hO1.kp hk (by simp), (hK.kp hk (fun t h => by
      rcases h with h | h | h | rfl | rfl
      · exact htag t (by omega) (fun z => by rw [z] at h; cases h) (Or.inl (by omega))
      · exact htag t (by omega) (fun z => by rw [z] at h; cases h) (Or.inl (by omega))
      · exact htag t (by omega) (fun z => by rw [z] at h; cases h) (Or.inl (by omega))
      · simp
      · simp)).cg (J 13 (by decide)) (J 14 (by decide)) (J 17 (by decide)) (J 18 (by decide)) (J 19 (by decide)) (J 20 (by decide)) (J 22 (by decide)) (J 23 (by decide)) (J 24 (by decide)), hI.cg (J 13 (by decide)) (J 17 (by decide)) (J 19 (by decide)) (J 20 (by decide)) (J 23 (by decide)) (J 24 (by decide)), fun o ho => ?_, ⟨by decide, h2, ⟨_, h3⟩, by rw [rf_d0, rf_d0]; exact h4, fun k h => absurd h (Nat.not_lt_zero k)⟩, fun o ho => by rw [hot, va_up_ne _ _ (by have := (u2 o ho).2; omega)]; exact htr o ho⟩, ⟨fun j hj => ?_, fun j hj => by rw [hot, J 12 (by decide)]; exact ⟨(u2 j hj).1, by have := (u2 j hj).2; omega⟩, fun i h h9 => by rw [J 10 (by decide)]; exact u3 i (by omega) h9, by rw [J 14 (by decide)]; exact u4, by rw [J 15 (by decide)]; exact u5, by rw [J 14 (by decide)]; exact u6, u7.cg (J 13 (by decide)) (J 17 (by decide)) (J 20 (by decide)), u8, fun k h => absurd h (Nat.not_lt_zero k)⟩, hk.wk (fun t z => by rcases z with rfl | rfl | rfl <;> simp)⟩
  · by_cases e : i = nT
    · subst e
      rw [va_up_self, va_up_self, va_up_self, va_up_self, sN, cr_g, eN 1 (by decide), eN 2 (by decide), J 10 (by decide), u3 i (Nat.le_refl _) (by omega)]
      refine ⟨hk _ _ _ hD1 (by simp), ⟨ad9, hk _ _ _ hD2 (by simp)⟩, hk _ _ _ hD3 (by simp), fun k hk9 => ?_⟩
      rw [Nat.add_assoc, Nat.add_assoc, n9 _ (by omega), n9 _ (by omega), n9 _ (by omega)]
      exact hk _ _ _ (hD4 k hk9) (by simp)
    · have hi9 : i < nT := by omega
      obtain ⟨c1, ⟨ar, c2⟩, c3, c4⟩ := hTr i hi9
      rw [va_up_ne _ _ e, va_up_ne _ _ e, va_up_ne _ _ e, va_up_ne _ _ e, s8 i hi9, cr_g, eP i hi9 1 (by decide), eP i hi9 2 (by decide), J 10 (by decide)]
      refine ⟨hk _ _ _ c1 (htag _ (by simp) (by simp) (Or.inr (by simp; omega))), ⟨ar, hk _ _ _ c2 (by simp)⟩, hk _ _ _ c3 (by simp), fun k hk9 => ?_⟩
      have z0 := t9 i hi9 k hk9 0 (by decide)
      rw [Nat.add_zero] at z0
      rw [z0, t9 i hi9 k hk9 1 (by decide), t9 i hi9 k hk9 2 (by decide)]
      exact hk _ _ _ (c4 k hk9) (by simp)
  · obtain ⟨⟨ar, z1⟩, z2⟩ := hZ o ho
    have h9 := (u2 o ho).2
    rw [hot, s8 _ h9, hsa _ h9, J 15 (by decide)]
    exact ⟨⟨ar, hk _ _ _ z1 (by simp)⟩, fun k hk9 => hk _ _ _ (z2 k hk9) (by simp)⟩
  · by_cases e : j = nT
    · subst e
      refine ⟨by rw [sN, g8, pk_us], by omega, by omega, fun k hk9 => ?_⟩
      rw [sN] at hk9
      have h9 := u9 k hk9
      refine ⟨?_, fun w hw => ?_⟩
      · rw [rf_st, n9 _ (by omega)]; exact h9.1
      · rw [rf_st, Nat.add_assoc, n9 _ (by omega)]; exact h9.2 w hw
    · have hj9 : j < nT := by omega
      obtain ⟨c1, c2, c3, c4⟩ := u1 j hj9
      refine ⟨by rw [s8 j hj9, g8, pk_un (by omega)]; exact c1, by rw [s8 j hj9]; exact c2, by rw [s8 j hj9]; exact c3, fun k hk9 => ?_⟩
      rw [s8 j hj9] at hk9
      have z0 := t9 j hj9 k hk9 0 (by decide)
      rw [Nat.add_zero] at z0
      refine ⟨by rw [rf_st, z0]; exact (c4 k hk9).1, fun w hw => ?_⟩
      rw [rf_st, t9 j hj9 k hk9 w (by omega)]
      exact (c4 k hk9).2 w hw
/-! time passes -/
theorem st_pass {F F2 : fw_F} {x lc lt lo lm lw dr ds dfr : Nat} {ca ta sl fr oa tr ml ma ja da wj : Nat → Nat} {sa ms : Nat → Nat → Nat} {nW nC nT nO nJ nD : Nat} {tm : Int32} {f : mm_A} {T j nW1 : Nat} {wj1 : Nat → Nat} (hX : cr_X F x lc lt lo lm lw dr tm) (hC : cr_C F lc ca f nC) (hT1 : cr_t F lt ta nT) (hTr : cr_T F ta sl fr sa f nT) (hO1 : cr_o F lo oa nO) (hK : cr_K F lm lw ma ja oa tr ml f nJ nO nW wj) (hI : cr_I f nJ nO nW wj) (hZ : cr_Z F ml ms sa f nO) (hD : cr_D F dr ds dfr da f nT nD) (htr : ∀ o, o < nO → tr o = ta (rf_ot f o)) (hPU : PU f nT nO nJ nD) (hj1 : T + j < 1000000) (h1 : cr_X F2 x lc lt lo lm lw dr (nI (T + j))) {g : mm_A} (hg : g = rf_passf nJ (nI T) f j) (h2 : cr_K F2 lm lw ma ja oa tr ml g nJ nO nW1 wj1) (h3 : cr_I g nJ nO nW1 wj1) (hk : fw_kp F F2 (fun t => t.1 = 9 ∨ t.1 = 5 ∨ t = (1, 4, 0) ∨ t = (50, 0, 0))) : CL F2 x g nC nT nO nJ nD (nI (T + j)) ∧ PU g nT nO nJ nD ∧ fw_kp F F2 (fun t => t.1 < 60) := by
  have J9 : rf_off f g := by rw [hg]; exact rf_off_pass j
  have tgN : ∀ t : fw_T, t.1 ≠ 9 → t.1 ≠ 5 → t.1 ≠ 1 → t.1 ≠ 50 → ¬ (t.1 = 9 ∨ t.1 = 5 ∨ t = (1, 4, 0) ∨ t = (50, 0, 0)) := fun t a b c d z => by
    rcases z with z | z | rfl | rfl
    · exact a z
    · exact b z
    · exact c rfl
    · exact d rfl
  have tgC : ∀ t : fw_T, t = (1, 0, 0) ∨ t.1 = 2 → ¬ (t.1 = 9 ∨ t.1 = 5 ∨ t = (1, 4, 0) ∨ t = (50, 0, 0)) := fun t h => by
    rcases h with rfl | h
    · simp
    · exact tgN t (by omega) (by omega) (by omega) (by omega)
  have J := fun k h => J9 k h
  obtain ⟨u1, u2, u3, u4, u5, u6, u7, u8, u9⟩ := hPU
  refine ⟨⟨lc, lt, lo, lm, lw, dr, ds, dfr, ca, ta, sl, fr, oa, tr, ml, ma, ja, da, wj1, sa, ms, nW1, h1, (hC.kp hk (fun t h => by exact tgC t h)).cg (J 2 (by decide)) (J 3 (by decide)) (J 4 (by decide)), hT1.kp hk (by simp), (hTr.kp hk (fun t h _ => tgN t (by omega) (by omega) (by omega) (by omega))).cg (J 8 (by decide)) (J 9 (by decide)) (J 10 (by decide)), hO1.kp hk (by simp), h2, h3, (hZ.kp hk (fun t h _ => tgN t (by omega) (by omega) (by omega) (by omega))).cg (J 8 (by decide)) (J 12 (by decide)) (J 15 (by decide)), (hD.kp hk (fun t h _ => tgN t (by omega) (by omega) (by omega) (by omega))).cg (J 6 (by decide)), fun o ho => by rw [rf_ot_cg (J 12 (by decide))]; exact htr o ho⟩, ⟨fun j hj => rf_tok_cg (u1 j hj) (J 8 (by decide)) (J 9 (by decide)), fun j hj => by rw [rf_ot_cg (J 12 (by decide)), J 12 (by decide)]; exact u2 j hj, by rw [J 10 (by decide)]; exact u3, by rw [J 14 (by decide)]; exact u4, by rw [J 15 (by decide)]; exact u5, by rw [J 14 (by decide)]; exact u6, by rw [hg]; exact u7.pass hI.j96 hI.o12 hI.jok j (by omega), u8, rf_dok_cg u9 (J 6 (by decide))⟩, hk.wk (fun t z => by
    rcases z with z | z | rfl | rfl
    · omega
    · omega
    · decide
    · decide)⟩
