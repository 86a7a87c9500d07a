/-! A test, and an order, in the relation. -/
theorem rf_tst_off (f : mm_A) (o t lh : Nat) : ∀ n k, k ≠ 14 → k ≠ 15 → rf_tst f o t lh n k = f k
  | 0, _, _, _ => rfl
  | n + 1, k, h, h2 => by rw [rf_tst_s, va_up_ne _ _ h, va_up_ne _ _ h2]; exact rf_tst_off f o t lh n k h h2
theorem rf_tst_14 (f : mm_A) (o t lh : Nat) {o' : Nat} (h : o' ≠ o) : ∀ n, rf_tst f o t lh n 14 o' = f 14 o'
  | 0 => rfl
  | n + 1 => by
    rw [rf_tst_s]
    show upd (rf_tst f o t lh n 14) o _ o' = _
    rw [pk_un h]; exact rf_tst_14 f o t lh h n
theorem rf_tst_15 (f : mm_A) (o t lh : Nat) {i : Nat} : ∀ n, (∀ k, k < n → i ≠ 4 * o + k) → rf_tst f o t lh n 15 i = f 15 i
  | 0, _ => rfl
  | n + 1, h => by
    rw [rf_tst_s]
    show upd (rf_tst f o t lh n 15) (4 * o + n) _ i = _
    rw [pk_un (h n (by omega))]; exact rf_tst_15 f o t lh n (fun k hk => h k (by omega))
theorem st_test {F F2 : fw_F} {x lc lt lo lm lw dr ds dfr : Nat} {ca ta sl fr oa tr ml ma ja da wj : Nat → Nat} {sa ms : Nat → Nat → Nat} {nW nC nT nO nJ nD : Nat} {tm : Int32} {f : mm_A} (hX : cr_X F x lc lt lo lm lw dr tm) (hC : cr_C F lc ca f nC) (hT1 : cr_t F lt ta nT) (hTr : cr_T F ta sl fr sa f nT) (hO1 : cr_o F lo oa nO) (hK : cr_K F lm lw ma ja oa tr ml f nJ nO nW wj) (hI : cr_I f nJ nO nW wj) (hZ : cr_Z F ml ms sa f nO) (hD : cr_D F dr ds dfr da f nT nD) (htr : ∀ o, o < nO → tr o = ta (rf_ot f o)) (hPU : PU f nT nO nJ nD) {j lh : Nat} (hj : j < nO) (h14 : f 14 j = 0) {g : mm_A} (hg : g = rf_testf f j (rf_ot f j) lh)
    (h1 : F2 (oa j) = some ((5, j, 0), fw_obj 6 [.ref (tr j), .ref (ml j), .int (nI (rf_left f (nI j) nJ)), .int (f 13 j), .int (g 14 j)])) (h2 : ∀ k, k < rf_sm f (rf_ot f j) → F2 (ms j k) = some ((7, j, k), fw_obj 5 [.ref (sa (rf_ot f j) k), .int (g 15 (4 * j + k))])) (h3 : F2 (ta (rf_ot f j)) = some ((3, rf_ot f j, 0), fw_obj 8 [.ref (sl (rf_ot f j)), .ref (fr (rf_ot f j)), .int (g 10 (rf_ot f j))]))
    (hk : fw_kp F F2 (fun w => w = (5, j, 0) ∨ (w.1 = 7 ∧ w.2.1 = j) ∨ w = (3, rf_ot f j, 0))) : CL F2 x g nC nT nO nJ nD tm ∧ PU g nT nO nJ nD ∧ fw_kp F F2 (fun t => t.1 < 60) := by
  obtain ⟨u1, u2, u3, u4, u5, u6, u7, u8, u9⟩ := hPU
  have hot := (u2 j hj).2
  have J : ∀ k, k ≠ 10 ∧ k ≠ 14 ∧ k ≠ 15 → g k = f k := fun k h => by rw [hg, rf_testf, va_up_ne _ _ h.1]; exact rf_tst_off f j _ lh _ k h.2.1 h.2.2
  have g14 : ∀ o, o ≠ j → g 14 o = f 14 o := fun o h => by rw [hg]; exact rf_tst_14 f j _ lh h _
  have g14j : g 14 j = 0 ∨ g 14 j = 1 := by rw [hg]; exact rf_tst_b f j _ lh h14 _
  have sle := (u1 _ hot).2.2.1
  have g15 : ∀ i, (∀ k, k < 4 → i ≠ 4 * j + k) → g 15 i = f 15 i := fun i h => by rw [hg]; exact rf_tst_15 f j _ lh _ (fun k hk9 => h k (by omega))
  have g10 : ∀ i, i ≠ rf_ot f j → g 10 i = f 10 i := fun i h => by
    rw [hg]
    show upd (rf_tst f j _ lh _ 10) (rf_ot f j) _ i = _
    rw [pk_un h, rf_tst_10]
  have s8 : ∀ i, rf_sm g i = rf_sm f i := fun i => by rw [rf_sm, rf_sm, J 8 (by decide)]
  have eot : ∀ o, rf_ot g o = rf_ot f o := fun o => rf_ot_cg (J 12 (by decide)) o
  have eP := rf_P_cg (J 8 (by decide)) (J 9 (by decide))
  have el : ∀ o n, rf_left g o n = rf_left f o n := fun o n => rf_left_cong (J 17 (by decide)) (J 20 (by decide)) n
  have tg : ∀ t : fw_T, (t.1 ≠ 5 ∨ t.2.1 ≠ j) → (t.1 ≠ 7 ∨ t.2.1 ≠ j) → (t.1 ≠ 3 ∨ t.2.1 ≠ rf_ot f j) → ¬ (t = (5, j, 0) ∨ (t.1 = 7 ∧ t.2.1 = j) ∨ t = (3, rf_ot f j, 0)) := fun t a b c z => by
    rcases z with rfl | z | rfl
    · simp at a
    · exact b.elim (fun q => q z.1) (fun q => q z.2)
    · simp at c
  obtain ⟨⟨⟨arm, hLm⟩, hms⟩, ⟨hn, ⟨arr, hLw⟩, hjs⟩, hO, hJ⟩ := hK
  refine ⟨⟨lc, lt, lo, lm, lw, dr, ds, dfr, ca, ta, sl, fr, oa, tr, ml, ma, ja, da, wj, sa, ms, nW, hk _ _ _ hX (by simp), (hC.kp hk (fun t h => ?_)).cg (J 2 (by decide)) (J 3 (by decide)) (J 4 (by decide)), hT1.kp hk (by simp), fun i hi => ?_, hO1.kp hk (by simp), ⟨⟨⟨arm, hk _ _ _ hLm (by simp)⟩, fun m h => ?_⟩, ⟨hn, ⟨arr, hk _ _ _ hLw (by simp)⟩, fun k hk9 => ?_⟩, fun o ho => ?_, fun i hi => ?_⟩, hI.cg (J 13 (by decide)) (J 17 (by decide)) (J 19 (by decide)) (J 20 (by decide)) (J 23 (by decide)) (J 24 (by decide)), fun o ho => ?_, (hD.kp hk (fun t h h9 => tg t (Or.inl (by omega)) (Or.inl (by omega)) (Or.inr (by omega)))).cg (J 6 (by decide)), fun o ho => by rw [eot]; exact htr o ho⟩, ⟨fun j hj => rf_tok_cg (u1 j hj) (J 8 (by decide)) (J 9 (by decide)), fun j hj => by rw [eot, J 12 (by decide)]; exact u2 j hj, fun i h h9 => by rw [g10 i (by omega)]; exact u3 i h h9, fun o h h9 => by rw [g14 o (by omega)]; exact u4 o h h9, fun o h h9 k hk9 => by rw [g15 _ (fun k' hk' => by omega)]; exact u5 o h h9 k hk9, fun o ho => ?_, u7.cg (J 13 (by decide)) (J 17 (by decide)) (J 20 (by decide)), u8, rf_dok_cg u9 (J 6 (by decide))⟩, hk.wk (fun t z => ?_)⟩
  · rcases h with rfl | h
    · simp
    · exact tg t (Or.inl (by omega)) (Or.inl (by omega)) (Or.inl (by omega))
  · obtain ⟨c1, ⟨ar, c2⟩, c3, c4⟩ := hTr i hi
    rw [s8, eP, eP, cr_g, eP, eP, J 9 (by decide)]
    refine ⟨?_, ⟨ar, hk _ _ _ c2 (by simp)⟩, hk _ _ _ c3 (by simp), fun k hk9 => hk _ _ _ (c4 k hk9) (by simp)⟩
    by_cases e : i = rf_ot f j
    · rw [e]; exact h3
    · rw [g10 i e]; exact hk _ _ _ c1 (tg _ (Or.inl (by simp)) (Or.inl (by simp)) (Or.inr e))
  · have e1 : cl_jb ja g m = cl_jb ja f m := by rw [cl_jb, cl_jb, J 23 (by decide)]
    have e2 : cl_lf g m = cl_lf f m := by rw [cl_lf, cl_lf, J 23 (by decide), J 24 (by decide)]
    rw [e1, e2, J 22 (by decide)]
    exact hk _ _ _ (hms m h) (by simp)
  · rw [J 17 (by decide), J 18 (by decide), J 19 (by decide)]; exact hk _ _ _ (hjs k hk9) (by simp)
  · rw [el, J 13 (by decide)]
    by_cases e : o = j
    · subst e; exact h1
    · rw [g14 o e]; exact hk _ _ _ (hO o ho) (tg _ (Or.inr e) (Or.inl (by simp)) (Or.inl (by simp)))
  · rw [J 17 (by decide), J 18 (by decide), J 19 (by decide)]; exact hk _ _ _ (hJ i hi) (by simp)
  · obtain ⟨⟨ar, z1⟩, z2⟩ := hZ o ho
    rw [eot, s8]
    refine ⟨⟨ar, hk _ _ _ z1 (by simp)⟩, fun k hk9 => ?_⟩
    by_cases e : o = j
    · subst e; exact h2 k hk9
    · have := (u1 _ (u2 o ho).2).2.2.1
      rw [g15 _ (fun k' hk' => by omega)]
      exact hk _ _ _ (z2 k hk9) (tg _ (Or.inl (by simp)) (Or.inr e) (Or.inl (by simp)))
  · by_cases e : o = j
    · rw [e]; exact g14j
    · rw [g14 o e]; exact u6 o ho
  · rcases z with rfl | z | rfl
    · show (5 : Nat) < 60; decide
    · show t.1 < 60; omega
    · show (3 : Nat) < 60; decide
/-! the jobs of an order -/
theorem rf_addJ_off {f : mm_A} {n nC : Nat} {o mo te : Int32} {k : Nat} (h : ¬ (k = 17 ∨ k = 18 ∨ k = 19 ∨ k = 20)) : rf_addJ f n nC o mo te k = f k := by
  rw [rf_addJ, va_up_ne _ _ (by omega), va_up_ne _ _ (by omega), va_up_ne _ _ (by omega), va_up_ne _ _ (by omega)]
theorem rf_addJ_o {f : mm_A} {n nC : Nat} {o mo te : Int32} {i : Nat} (h : i ≠ n) : rf_addJ f n nC o mo te 17 i = f 17 i ∧ rf_addJ f n nC o mo te 18 i = f 18 i ∧ rf_addJ f n nC o mo te 19 i = f 19 i ∧ rf_addJ f n nC o mo te 20 i = f 20 i := ⟨pk_un h, pk_un h, pk_un h, pk_un h⟩
theorem rf_addJ_n {f : mm_A} {n nC : Nat} {o mo te : Int32} : rf_addJ f n nC o mo te 17 n = o ∧ rf_addJ f n nC o mo te 18 n = rf_cut f nC mo te ∧ rf_addJ f n nC o mo te 19 n = te ∧ rf_addJ f n nC o mo te 20 n = -1 := ⟨pk_us, pk_us, pk_us, pk_us⟩
theorem rf_ordJ_off (f : mm_A) (nC nJ nO t : Nat) : ∀ n k, ¬ (k = 17 ∨ k = 18 ∨ k = 19 ∨ k = 20) → rf_ordJ f nC nJ nO t n k = f k
  | 0, _, _ => rfl
  | n + 1, k, h => by rw [rf_ordJ_s, rf_addJ_off h, rf_addJ_off h]; exact rf_ordJ_off f nC nJ nO t n k h
theorem rf_ordJ_o (f : mm_A) (nC nJ nO t : Nat) : ∀ n i, (i < nJ ∨ nJ + 2 * n ≤ i) → rf_ordJ f nC nJ nO t n 17 i = f 17 i ∧ rf_ordJ f nC nJ nO t n 18 i = f 18 i ∧ rf_ordJ f nC nJ nO t n 19 i = f 19 i ∧ rf_ordJ f nC nJ nO t n 20 i = f 20 i
  | 0, _, _ => ⟨rfl, rfl, rfl, rfl⟩
  | n + 1, i, h => by
    obtain ⟨a, b, c, d⟩ := rf_ordJ_o f nC nJ nO t n i (by omega)
    rw [rf_ordJ_s]
    obtain ⟨a1, b1, c1, d1⟩ := rf_addJ_o (f := rf_ordJ f nC nJ nO t n) (n := nJ + 2 * n) (nC := nC) (o := nI nO) (mo := f 9 (12 * t + 3 * n)) (te := f 9 (12 * t + 3 * n + 1)) (i := i) (by omega)
    refine ⟨(rf_addJ_o (by omega)).1.trans (a1.trans a), (rf_addJ_o (by omega)).2.1.trans (b1.trans b), (rf_addJ_o (by omega)).2.2.1.trans (c1.trans c), (rf_addJ_o (by omega)).2.2.2.trans (d1.trans d)⟩
theorem rf_ordJ_cut (f : mm_A) (nC nJ nO t n : Nat) (mo te : Int32) : rf_cut (rf_ordJ f nC nJ nO t n) nC mo te = rf_cut f nC mo te := rf_cut_cong (rf_ordJ_off f nC nJ nO t n 2 (by decide)) (rf_ordJ_off f nC nJ nO t n 3 (by decide)) (rf_ordJ_off f nC nJ nO t n 4 (by decide))
theorem rf_ordJ_n (f : mm_A) (nC nJ nO t : Nat) : ∀ n k, k < n → ∀ u, u = 0 ∨ u = 1 → rf_ordJ f nC nJ nO t n 17 (nJ + 2 * k + u) = nI nO ∧ rf_ordJ f nC nJ nO t n 18 (nJ + 2 * k + u) = rf_cut f nC (f 9 (12 * t + 3 * k)) (f 9 (12 * t + 3 * k + (u + 1))) ∧ rf_ordJ f nC nJ nO t n 19 (nJ + 2 * k + u) = f 9 (12 * t + 3 * k + (u + 1)) ∧ rf_ordJ f nC nJ nO t n 20 (nJ + 2 * k + u) = -1
  | 0, _, h, _, _ => absurd h (Nat.not_lt_zero _)
  | n + 1, k, h, u, hu => by
    rw [rf_ordJ_s]
    rcases Nat.eq_or_lt_of_le (Nat.le_of_lt_succ h) with e | e
    · subst e
      rcases hu with rfl | rfl
      · obtain ⟨a1, b1, c1, d1⟩ := rf_addJ_n (f := rf_ordJ f nC nJ nO t k) (n := nJ + 2 * k) (nC := nC) (o := nI nO) (mo := f 9 (12 * t + 3 * k)) (te := f 9 (12 * t + 3 * k + 1))
        rw [rf_ordJ_cut] at b1
        exact ⟨(rf_addJ_o (by omega)).1.trans a1, (rf_addJ_o (by omega)).2.1.trans b1, (rf_addJ_o (by omega)).2.2.1.trans c1, (rf_addJ_o (by omega)).2.2.2.trans d1⟩
      · refine ⟨rf_addJ_n.1, rf_addJ_n.2.1.trans ?_, rf_addJ_n.2.2.1, rf_addJ_n.2.2.2⟩
        rw [rf_cut_cong (rf_addJ_off (by decide)) (rf_addJ_off (by decide)) (rf_addJ_off (by decide)), rf_ordJ_cut]
    · obtain ⟨a, b, c, d⟩ := rf_ordJ_n f nC nJ nO t n k e u hu
      obtain ⟨a1, b1, c1, d1⟩ := rf_addJ_o (f := rf_ordJ f nC nJ nO t n) (n := nJ + 2 * n) (nC := nC) (o := nI nO) (mo := f 9 (12 * t + 3 * n)) (te := f 9 (12 * t + 3 * n + 1)) (i := nJ + 2 * k + u) (by omega)
      exact ⟨(rf_addJ_o (by omega)).1.trans (a1.trans a), (rf_addJ_o (by omega)).2.1.trans (b1.trans b), (rf_addJ_o (by omega)).2.2.1.trans (c1.trans c), (rf_addJ_o (by omega)).2.2.2.trans (d1.trans d)⟩
def cl_jx (ja wf1 : Nat → Nat) (nJ nW : Nat) (i : Nat) : Nat := if i < nJ then ja i else wf1 (nW + (i - nJ))
def cl_wx (wj : Nat → Nat) (nJ nW : Nat) (k : Nat) : Nat := if k < nW then wj k else nJ + (k - nW)
theorem st_order {F F2 : fw_F} {x lc lt lo lm lw dr ds dfr : Nat} {ca ta sl fr oa tr ml ma ja da wj : Nat → Nat} {sa ms : Nat → Nat → Nat} {nW nC nT nO nJ nD : Nat} {tm : Int32} {f : mm_A} (hX : cr_X F x lc lt lo lm lw dr tm) (hC : cr_C F lc ca f nC) (hT1 : cr_t F lt ta nT) (hTr : cr_T F ta sl fr sa f nT) (hO1 : cr_o F lo oa nO) (hK : cr_K F lm lw ma ja oa tr ml f nJ nO nW wj) (hI : cr_I f nJ nO nW wj) (hZ : cr_Z F ml ms sa f nO) (hD : cr_D F dr ds dfr da f nT nD) (htr : ∀ o, o < nO → tr o = ta (rf_ot f o)) (hPU : PU f nT nO nJ nD) {j p q arr al aw : Nat} {msn wf1 : Nat → Nat} (hj : j < nT) (h12 : nO < 12) {g : mm_A} (hg : g = va_up (va_up (rf_ordJ f nC nJ nO j (rf_sm f j)) 12 (upd (f 12) nO (nI j))) 13 (upd (f 13) nO (-1)))
    (h1 : F2 p = some ((5, nO, 0), fw_obj 6 [.ref (ta j), .ref q, .int (nI (2 * rf_sm f j)), .int (-1), .int (nI 0)])) (h2 : F2 q = some ((6, nO, 0), fw_ls arr (rf_sm f j) msn)) (h3 : ∀ k, k < rf_sm f j → F2 (msn k) = some ((7, nO, k), fw_obj 5 [.ref (sa j k), .int (nI 0)])) (h4 : F2 lo = some ((1, 2, 0), fw_ls al (nO + 1) (va_up oa nO p))) (h5 : F2 lw = some ((1, 4, 0), fw_ls aw (nW + 2 * rf_sm f j) wf1)) (h6 : ∀ k, k < nW → wf1 k = (fun k => ja (wj k)) k)
    (h7 : ∀ k, k < rf_sm f j → F2 (wf1 (nW + 2 * k)) = some ((8, nJ + 2 * k, 0), fw_obj 3 [.ref p, .int (f 9 (12 * j + 3 * k + 1)), .int (rf_cut f nC (f 9 (12 * j + 3 * k)) (f 9 (12 * j + 3 * k + 1)))]) ∧ F2 (wf1 (nW + 2 * k + 1)) = some ((8, nJ + 2 * k + 1, 0), fw_obj 3 [.ref p, .int (f 9 (12 * j + 3 * k + 2)), .int (rf_cut f nC (f 9 (12 * j + 3 * k)) (f 9 (12 * j + 3 * k + 2)))])) (hk : fw_kp F F2 (fun w => (w.2.1 = nO ∧ (w.1 = 5 ∨ w.1 = 6 ∨ w.1 = 7)) ∨ w = (1, 2, 0) ∨ w = (1, 4, 0))) : CL F2 x g nC nT (nO + 1) (nJ + 2 * rf_sm f j) nD tm ∧ PU g nT (nO + 1) (nJ + 2 * rf_sm f j) nD ∧ fw_kp F F2 (fun t => t.1 < 60) := by
  obtain ⟨u1, u2, u3, u4, u5, u6, u7, u8, u9⟩ := hPU
  obtain ⟨⟨⟨arm, hLm⟩, hms⟩, ⟨hn, -, hjs⟩, hO, hJ⟩ := hK
  obtain ⟨tok1, tok2, tok3, tok4⟩ := u1 j hj
  obtain ⟨N, hN⟩ : ∃ N, N = rf_sm f j := ⟨_, rfl⟩
  rw [← hN] at hg h1 h2 h3 h5 h7 tok2 tok3 tok4 ⊢
  have hnW := hI.row.nW
  have J : ∀ k, ¬ (k = 12 ∨ k = 13 ∨ k = 17 ∨ k = 18 ∨ k = 19 ∨ k = 20) → g k = f k := fun k h => by rw [hg, va_up_ne _ _ (by omega), va_up_ne _ _ (by omega)]; exact rf_ordJ_off f nC nJ nO j N k (by omega)
  have g12 : g 12 = upd (f 12) nO (nI j) := by rw [hg]; rfl
  have g13 : g 13 = upd (f 13) nO (-1) := by rw [hg]; rfl
  have gk : ∀ k, k = 17 ∨ k = 18 ∨ k = 19 ∨ k = 20 → g k = rf_ordJ f nC nJ nO j N k := fun k h => by rw [hg, va_up_ne _ _ (by omega), va_up_ne _ _ (by omega)]
  have g17 := gk 17 (by decide)
  have g18 := gk 18 (by decide)
  have g19 := gk 19 (by decide)
  have g20 := gk 20 (by decide)
  have old : ∀ i, i < nJ → g 17 i = f 17 i ∧ g 18 i = f 18 i ∧ g 19 i = f 19 i ∧ g 20 i = f 20 i := fun i hi => by
    rw [g17, g18, g19, g20]; exact rf_ordJ_o f nC nJ nO j N i (Or.inl hi)
  have new : ∀ k, k < N → ∀ u, u = 0 ∨ u = 1 → g 17 (nJ + 2 * k + u) = nI nO ∧ g 18 (nJ + 2 * k + u) = rf_cut f nC (f 9 (12 * j + 3 * k)) (f 9 (12 * j + 3 * k + (u + 1))) ∧ g 19 (nJ + 2 * k + u) = f 9 (12 * j + 3 * k + (u + 1)) ∧ g 20 (nJ + 2 * k + u) = -1 := fun k hk9 u hu => by
    rw [g17, g18, g19, g20]; exact rf_ordJ_n f nC nJ nO j N k hk9 u hu
  have spl : ∀ i, nJ ≤ i → i < nJ + 2 * N → ∃ k u, k < N ∧ (u = 0 ∨ u = 1) ∧ i = nJ + 2 * k + u := fun i a b => ⟨(i - nJ) / 2, (i - nJ) % 2, by omega, by omega, by omega⟩
  have n17 : ∀ i, nJ ≤ i → i < nJ + 2 * N → g 17 i = nI nO ∧ g 20 i = -1 := fun i a b => by
    obtain ⟨k, u, c, d, rfl⟩ := spl i a b
    have := new k c u d
    exact ⟨this.1, this.2.2.2⟩
  have s8 : ∀ i, rf_sm g i = rf_sm f i := fun i => by rw [rf_sm, rf_sm, J 8 (by decide)]
  have eot : ∀ o, o < nO → rf_ot g o = rf_ot f o := fun o ho => by rw [rf_ot, rf_ot, g12, pk_un (by omega)]
  have eotN : rf_ot g nO = j := by rw [rf_ot, g12, pk_us, rf_n_nI (by have := hT1.1; omega)]
  have lo0 : ∀ o, o < nO → ∀ m, m ≤ 2 * N → rf_left g (nI o) (nJ + m) = rf_left f (nI o) nJ := fun o ho m => by
    induction m with
    | zero => intro _; exact rf_left_cg nJ (fun i hi => by rw [(old i hi).1, (old i hi).2.2.2]; exact ⟨rfl, Iff.rfl⟩)
    | succ m ih =>
      intro hm
      rw [← Nat.add_assoc, rf_left, ih (by omega), (n17 (nJ + m) (by omega) (by omega)).1, if_neg (fun z => by have := (nI_eq (by omega) (by omega)).mp z.1; omega)]
      rfl
  have loN0 : ∀ n, n ≤ nJ → rf_left g (nI nO) n = 0 := fun n => by
    induction n with
    | zero => intro _; rfl
    | succ n ih =>
      intro hm
      obtain ⟨o, ho, e⟩ := hI.jok.2 n (by omega)
      rw [rf_left, ih (by omega), (old n (by omega)).1, e, if_neg (fun z => by have := (nI_eq (by omega) (by omega)).mp z.1; omega)]
  have loN : ∀ m, m ≤ 2 * N → rf_left g (nI nO) (nJ + m) = m := fun m => by
    induction m with
    | zero => intro _; exact loN0 nJ (Nat.le_refl _)
    | succ m ih =>
      intro hm
      have h9 := n17 (nJ + m) (by omega) (by omega)
      rw [← Nat.add_assoc, rf_left, ih (by omega), if_pos ⟨h9.1, by rw [h9.2]; decide⟩]
  have jx0 : ∀ i, i < nJ → cl_jx ja wf1 nJ nW i = ja i := fun i hi => if_pos hi
  have jx1 : ∀ i, cl_jx ja wf1 nJ nW (nJ + i) = wf1 (nW + i) := fun i => by rw [cl_jx, if_neg (by omega), Nat.add_sub_cancel_left]
  have wx0 : ∀ k, k < nW → cl_wx wj nJ nW k = wj k := fun k hk9 => if_pos hk9
  have wx1 : ∀ k, cl_wx wj nJ nW (nW + k) = nJ + k := fun k => by rw [cl_wx, if_neg (by omega), Nat.add_sub_cancel_left]
  have ewf : wf1 = fun k => cl_jx ja wf1 nJ nW (cl_wx wj nJ nW k) := funext fun k => by
    rcases Nat.lt_or_ge k nW with h | h
    · rw [wx0 k h, jx0 _ (hI.row.1 k h).1]; exact h6 k h
    · obtain ⟨i, rfl⟩ := Nat.exists_eq_add_of_le h
      rw [wx1, jx1]
  have tg : ∀ t : fw_T, (t.2.1 ≠ nO ∨ (t.1 ≠ 5 ∧ t.1 ≠ 6 ∧ t.1 ≠ 7)) → t ≠ (1, 2, 0) → t ≠ (1, 4, 0) → ¬ ((t.2.1 = nO ∧ (t.1 = 5 ∨ t.1 = 6 ∨ t.1 = 7)) ∨ t = (1, 2, 0) ∨ t = (1, 4, 0)) := fun t a b c z => by
    rcases z with z | z | z
    · omega
    · exact b z
    · exact c z
  have hJ2 : cr_J F2 (cl_jx ja wf1 nJ nW) (va_up oa nO p) g (nJ + 2 * N) := fun i hi => by
    rcases Nat.lt_or_ge i nJ with h | h
    · obtain ⟨o, ho, e⟩ := hI.jok.2 i h
      have h9 := hJ i h
      rw [e, rf_n_nI (by omega)] at h9
      rw [(old i h).1, (old i h).2.1, (old i h).2.2.1, jx0 i h, e, rf_n_nI (by omega), va_up_ne _ _ (by omega)]
      exact hk _ _ _ h9 (tg _ (Or.inr (by simp)) (by simp) (by simp))
    · obtain ⟨k, u, hk9, hu, rfl⟩ := spl i h hi
      obtain ⟨a, b, c, d⟩ := new k hk9 u hu
      rw [a, b, c, rf_n_nI (by omega), va_up_self]
      rcases hu with rfl | rfl
      · have e := jx1 (2 * k)
        show F2 (cl_jx ja wf1 nJ nW (nJ + 2 * k)) = _
        rw [e]; exact (h7 k hk9).1
      · have e := jx1 (2 * k + 1)
        show F2 (cl_jx ja wf1 nJ nW (nJ + (2 * k + 1))) = _
        rw [e]; exact (h7 k hk9).2
  have wlt : ∀ k, k < nW + 2 * N → cl_wx wj nJ nW k < nJ + 2 * N := fun k hk9 => by
    rcases Nat.lt_or_ge k nW with h | h
    · rw [wx0 k h]; have := (hI.row.1 k h).1; omega
    · obtain ⟨i, rfl⟩ := Nat.exists_eq_add_of_le h
      rw [wx1]; omega
  refine ⟨⟨lc, lt, lo, lm, lw, dr, ds, dfr, ca, ta, sl, fr, va_up oa nO p, va_up tr nO (ta j), va_up ml nO q, ma, cl_jx ja wf1 nJ nW, da, cl_wx wj nJ nW, sa, va_up ms nO msn, nW + 2 * N, hk _ _ _ hX (by simp), (hC.kp hk cl_PO).cg (J 2 (by decide)) (J 3 (by decide)) (J 4 (by decide)), hT1.kp hk (by simp), (hTr.kp hk (fun t h _ => tg t (Or.inr (by omega)) (fun z => by rw [z] at h; simp at h) (fun z => by rw [z] at h; simp at h))).cg (J 8 (by decide)) (J 9 (by decide)) (J 10 (by decide)), ⟨by omega, al, h4⟩, ⟨⟨⟨arm, hk _ _ _ hLm (by simp)⟩, fun m h => ?_⟩, ⟨by omega, ⟨aw, by rw [← ewf]; exact h5⟩, fun k hk9 => hJ2 _ (wlt k hk9)⟩, fun o ho => ?_, hJ2⟩, ?_, fun o ho => ?_, (hD.kp hk (fun t h _ => tg t (Or.inr (by omega)) (fun z => by rw [z] at h; simp at h) (fun z => by rw [z] at h; simp at h))).cg (J 6 (by decide)), fun o ho => ?_⟩, ⟨fun i hi => rf_tok_cg (u1 i hi) (J 8 (by decide)) (J 9 (by decide)), fun o ho => ?_, by rw [J 10 (by decide)]; exact u3, fun o h h9 => by rw [J 14 (by decide)]; exact u4 o (by omega) h9, fun o h h9 => by rw [J 15 (by decide)]; exact u5 o (by omega) h9, fun o ho => ?_, fun o ho h9 => ?_, by omega, rf_dok_cg u9 (J 6 (by decide))⟩, hk.wk (fun t z => ?_)⟩
  · have e1 : cl_jb (cl_jx ja wf1 nJ nW) g m = cl_jb ja f m := by
      rw [cl_jb, cl_jb, J 23 (by decide)]
      rcases hI.jok.1 m h with e | ⟨i, hi, e⟩
      · rw [if_pos e, if_pos e]
      · rw [e, rf_n_nI (by have := hI.j96; omega), jx0 i hi]
    have e2 : cl_lf g m = cl_lf f m := by rw [cl_lf, cl_lf, J 23 (by decide), J 24 (by decide)]
    rw [e1, e2, J 22 (by decide)]
    exact hk _ _ _ (hms m h) (tg _ (Or.inr (by simp)) (by simp) (by simp))
  · by_cases e : o = nO
    · subst e
      rw [va_up_self, va_up_self, va_up_self, loN _ (Nat.le_refl _), g13, pk_us, J 14 (by decide), u4 o (Nat.le_refl _) h12]
      exact h1
    · have ho9 : o < nO := by omega
      rw [va_up_ne _ _ e, va_up_ne _ _ e, va_up_ne _ _ e, lo0 o ho9 _ (Nat.le_refl _), g13, pk_un e, J 14 (by decide)]
      exact hk _ _ _ (hO o ho9) (tg _ (Or.inl e) (by simp) (by simp))
  · refine ⟨by omega, by omega, ⟨fun m h => ?_, fun i hi => ?_⟩, ⟨fun k hk9 => ⟨wlt k hk9, ?_⟩, fun i hi h9 => ?_, fun a b hab hb => ?_⟩, fun m h i hi h9 => ?_, fun i hi => ?_, fun o ho h9 => ?_⟩
    · rw [J 23 (by decide)]
      rcases hI.jok.1 m h with e | ⟨i, hi, e⟩
      · exact Or.inl e
      · exact Or.inr ⟨i, by omega, e⟩
    · rcases Nat.lt_or_ge i nJ with h | h
      · obtain ⟨o, ho, e⟩ := hI.jok.2 i h
        exact ⟨o, by omega, by rw [(old i h).1]; exact e⟩
      · exact ⟨nO, by omega, (n17 i h hi).1⟩
    · rcases Nat.lt_or_ge k nW with h | h
      · rw [wx0 k h, (old _ (hI.row.1 k h).1).2.2.2]; exact (hI.row.1 k h).2
      · obtain ⟨i, rfl⟩ := Nat.exists_eq_add_of_le h
        rw [wx1]; exact (n17 _ (by omega) (by omega)).2
    · rcases Nat.lt_or_ge i nJ with h | h
      · rw [(old i h).2.2.2] at h9
        obtain ⟨k, hk9, e⟩ := hI.row.2.1 i h h9
        exact ⟨k, by omega, by rw [wx0 k hk9]; exact e⟩
      · obtain ⟨k, rfl⟩ := Nat.exists_eq_add_of_le h
        exact ⟨nW + k, by omega, wx1 k⟩
    · rcases Nat.lt_or_ge b nW with h | h
      · rw [wx0 a (by omega), wx0 b h]; exact hI.row.2.2 a b hab h
      · obtain ⟨i, rfl⟩ := Nat.exists_eq_add_of_le h
        rw [wx1]
        rcases Nat.lt_or_ge a nW with h0 | h0
        · rw [wx0 a h0]; have := (hI.row.1 a h0).1; omega
        · obtain ⟨i', rfl⟩ := Nat.exists_eq_add_of_le h0
          rw [wx1]; omega
    · rw [J 23 (by decide)] at h9
      have hi9 : i < nJ := by
        rcases hI.jok.1 m h with e | ⟨i', hi', e⟩
        · rw [e] at h9; exact absurd h9.symm (nI_neg1 (by omega))
        · have := (nI_eq (by omega) (by omega)).mp (e.symm.trans h9); omega
      rw [(old i hi9).2.2.2, J 24 (by decide)]
      exact hI.mac m h i hi9 h9
    · rcases Nat.lt_or_ge i nJ with h | h
      · rw [(old i h).2.2.1]; exact hI.tee i h
      · obtain ⟨k, u, hk9, hu, rfl⟩ := spl i h hi
        rw [(new k hk9 u hu).2.2.1]
        obtain ⟨a, b, c⟩ := (tok4 k hk9).2 (u + 1) (by omega)
        exact ⟨_, b, c, a⟩
    · rw [g13]
      by_cases e : o = nO
      · rw [e, pk_us]
      · rw [pk_un e]
        rw [lo0 o (by omega) _ (Nat.le_refl _)] at h9
        exact hI.don o (by omega) h9
  · by_cases e : o = nO
    · subst e
      rw [eotN, s8, ← hN, va_up_self, va_up_self, J 15 (by decide)]
      refine ⟨⟨arr, h2⟩, fun k hk9 => ?_⟩
      rw [u5 o (Nat.le_refl _) h12 k (by omega)]
      exact h3 k hk9
    · have ho9 : o < nO := by omega
      obtain ⟨⟨ar, z1⟩, z2⟩ := hZ o ho9
      rw [eot o ho9, s8, va_up_ne _ _ e, va_up_ne _ _ e, J 15 (by decide)]
      exact ⟨⟨ar, hk _ _ _ z1 (tg _ (Or.inl e) (by simp) (by simp))⟩, fun k hk9 => hk _ _ _ (z2 k hk9) (tg _ (Or.inl e) (by simp) (by simp))⟩
  · by_cases e : o = nO
    · subst e; rw [va_up_self, eotN]
    · rw [va_up_ne _ _ e, eot o (by omega)]; exact htr o (by omega)
  · by_cases e : o = nO
    · subst e; rw [eotN, g12, pk_us]; exact ⟨rfl, hj⟩
    · rw [eot o (by omega), g12, pk_un e]; exact u2 o (by omega)
  · rw [J 14 (by decide)]
    by_cases e : o = nO
    · rw [e]; exact Or.inl (u4 nO (Nat.le_refl _) h12)
    · exact u6 o (by omega)
  · by_cases e : o = nO
    · subst e; rw [loN _ (Nat.le_refl _)] at h9; omega
    · rw [lo0 o (by omega) _ (Nat.le_refl _)] at h9
      rw [g13, pk_un e]; exact u7 o (by omega) h9
  · rcases z with z | rfl | rfl
    · show t.1 < 60; omega
    · show (1 : Nat) < 60; decide
    · show (1 : Nat) < 60; decide
