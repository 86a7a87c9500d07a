/-! The property's view: trains with cutters, wear within the hours, the law's own rows; what each call does to it. -/
theorem rv_cutL_no {f : mm_A} {mo te : Int32} : ∀ (j : Nat) (its : Int32), (∀ i, i < j → ¬ (f 2 i = mo ∧ rf_in te (f 3 i) (f 4 i) = true)) → rf_cutL f mo te j its = its
  | 0, _, _ => rfl
  | j + 1, its, h => by rw [rf_cutL, if_neg (h j (by omega))]; exact rv_cutL_no j its (fun i hi => h i (by omega))
theorem rv_cutL_yes {f : mm_A} {mo te : Int32} : ∀ (j : Nat) (its : Int32), (∃ i, i < j ∧ f 2 i = mo ∧ rf_in te (f 3 i) (f 4 i) = true) → ∃ i, i < j ∧ rf_cutL f mo te j its = nI i
  | 0, _, ⟨i, h, _⟩ => absurd h (Nat.not_lt_zero _)
  | j + 1, its, ⟨i, hi, h1, h2⟩ => by
    rw [rf_cutL]
    by_cases e : ∃ i, i < j ∧ f 2 i = mo ∧ rf_in te (f 3 i) (f 4 i) = true
    · obtain ⟨i, a, b⟩ := rv_cutL_yes j (if f 2 j = mo ∧ rf_in te (f 3 j) (f 4 j) = true then nI j else its) e
      exact ⟨i, by omega, b⟩
    · have hij : i = j := by
        rcases Nat.eq_or_lt_of_le (Nat.le_of_lt_succ hi) with q | q
        · exact q
        · exact absurd ⟨i, q, h1, h2⟩ e
      subst hij
      rw [rv_cutL_no _ _ (fun i' hi' h' => e ⟨i', hi', h'.1, h'.2⟩), if_pos ⟨h1, h2⟩]
      exact ⟨i, by omega, rfl⟩
theorem rf_cut_at {f : mm_A} {n : Nat} {mo te : Int32} (h : ¬ rf_cut f n mo te = -1) : ∃ i, i < n ∧ f 2 i = mo ∧ rf_in te (f 3 i) (f 4 i) = true :=
  Classical.byContradiction fun q => h (rv_cutL_no n (-1) (fun i hi z => q ⟨i, hi, z.1, z.2⟩))
theorem rf_cut_ix {f : mm_A} {n : Nat} {mo te : Int32} (h : ¬ rf_cut f n mo te = -1) : ∃ c, c < n ∧ rf_cut f n mo te = nI c := rv_cutL_yes n (-1) (rf_cut_at h)
theorem rf_cut_more {f g : mm_A} {n n' : Nat} {mo te : Int32} (hn : n ≤ n') (hn2 : n' ≤ 1000) (h2 : ∀ i, i < n → g 2 i = f 2 i) (h3 : ∀ i, i < n → g 3 i = f 3 i) (h4 : ∀ i, i < n → g 4 i = f 4 i) (h : ¬ rf_cut f n mo te = -1) : ¬ rf_cut g n' mo te = -1 := by
  obtain ⟨i, hi, a, b⟩ := rf_cut_at h
  obtain ⟨c, hc, e⟩ := rv_cutL_yes (f := g) (mo := mo) (te := te) n' (-1) ⟨i, by omega, by rw [h2 i hi]; exact a, by rw [h3 i hi, h4 i hi]; exact b⟩
  show ¬ rf_cutL g mo te n' (-1) = -1
  rw [e]; exact nI_neg1 (by omega)
theorem cl_all_at {f : mm_A} {nC : Nat} {dt : Nat → Int32} : ∀ n, cl_all f nC dt n = true → ∀ k, k < n → (¬ rf_cut f nC (dt (3 * k)) (dt (3 * k + 1)) = -1) ∧ ¬ rf_cut f nC (dt (3 * k)) (dt (3 * k + 2)) = -1
  | 0, _, k, hk => absurd hk (Nat.not_lt_zero _)
  | n + 1, h, k, hk => by
    rw [cl_all] at h
    simp only [Bool.and_eq_true, Bool.not_eq_true', decide_eq_false_iff_not] at h
    rcases Nat.eq_or_lt_of_le (Nat.le_of_lt_succ hk) with e | e
    · rw [e]; exact h.2
    · exact cl_all_at n h.1 k e
theorem cl_all_cg {f g : mm_A} {nC : Nat} {dt dt' : Nat → Int32} (h2 : g 2 = f 2) (h3 : g 3 = f 3) (h4 : g 4 = f 4) : ∀ n, (∀ i, i < 3 * n → dt' i = dt i) → cl_all g nC dt' n = cl_all f nC dt n
  | 0, _ => rfl
  | n + 1, h => by rw [cl_all, cl_all, cl_all_cg h2 h3 h4 n (fun i hi => h i (by omega)), rf_cut_cong h2 h3 h4, rf_cut_cong h2 h3 h4, h (3 * n) (by omega), h (3 * n + 1) (by omega), h (3 * n + 2) (by omega)]
def pv_T (f : mm_A) (nC nT : Nat) : Prop := ∀ t, t < nT → ∀ k, k < rf_sm f t → (¬ rf_cut f nC (f 9 (12 * t + 3 * k)) (f 9 (12 * t + 3 * k + 1)) = -1) ∧ ¬ rf_cut f nC (f 9 (12 * t + 3 * k)) (f 9 (12 * t + 3 * k + 2)) = -1
def pv_H (f : mm_A) (nO : Nat) (h : Nat → Nat) : Prop := (∀ o, o < 12 → h o ≤ 80) ∧ ∀ o, o < nO → f 14 o = 0 ∧ ∀ k, k < 4 → ∃ u, u ≤ h o ∧ f 15 (4 * o + k) = nI u
def pv_L (f : mm_A) (nT nO : Nat) (h : Nat → Nat) (gA gB gO gH : Nat → Int32) : Prop := (∀ t, t < nT → gA t = nI (rf_P f t 2) ∧ gB t = nI (rf_P f t 1)) ∧ (∀ o, o < nO → gO o = nI (rf_ot f o)) ∧ ∀ k, k < 12 → gH k = nI (h k)
def PV (f : mm_A) (nC nT nO nJ T : Nat) (h : Nat → Nat) (gA gB gO gH : Nat → Int32) : Prop := pv_M f nC nJ ∧ pv_J f nC nJ ∧ pv_D f nO T ∧ pv_K f nO nJ ∧ pv_T f nC nT ∧ pv_H f nO h ∧ pv_L f nT nO h gA gB gO gH
theorem rf_pn_cg {f g : mm_A} {t w : Nat} : ∀ n, (∀ k, k < n → g 9 (12 * t + 3 * k + w) = f 9 (12 * t + 3 * k + w)) → rf_pn g t w n = rf_pn f t w n
  | 0, _ => rfl
  | n + 1, h => by rw [rf_pn, rf_pn, rf_pn_cg n (fun k hk => h k (by omega)), rf_st, rf_st, h n (by omega)]
theorem rf_pn_dp {f g : mm_A} {t w : Nat} : ∀ n, (∀ k, k < n → g 9 (12 * t + 3 * k + w) = f 6 (3 * k + w)) → rf_pn g t w n = rf_dp f w n
  | 0, _ => rfl
  | n + 1, h => by rw [rf_pn, rf_dp, rf_pn_dp n (fun k hk => h k (by omega)), rf_st, h n (by omega)]
theorem pv_T.cg {f g : mm_A} {nC nC' nT : Nat} (h : pv_T f nC nT) (hn : nC ≤ nC') (hn2 : nC' ≤ 1000) (h2 : ∀ i, i < nC → g 2 i = f 2 i) (h3 : ∀ i, i < nC → g 3 i = f 3 i) (h4 : ∀ i, i < nC → g 4 i = f 4 i) (h8 : g 8 = f 8) (h9 : g 9 = f 9) : pv_T g nC' nT := by
  intro t ht k hk
  rw [rf_sm, h8] at hk
  rw [h9]
  obtain ⟨a, b⟩ := h t ht k hk
  exact ⟨rf_cut_more hn hn2 h2 h3 h4 a, rf_cut_more hn hn2 h2 h3 h4 b⟩
theorem pv_L.cg {f g : mm_A} {nT nO : Nat} {h : Nat → Nat} {gA gB gO gH : Nat → Int32} (hh : pv_L f nT nO h gA gB gO gH) (h8 : g 8 = f 8) (h9 : g 9 = f 9) (h12 : g 12 = f 12) : pv_L g nT nO h gA gB gO gH := by
  refine ⟨fun t ht => ?_, fun o ho => ?_, hh.2.2⟩
  · rw [rf_P_cg h8 h9, rf_P_cg h8 h9]; exact hh.1 t ht
  · rw [rf_ot, h12]; exact hh.2.1 o ho
theorem pv_H.cg {f g : mm_A} {nO : Nat} {h : Nat → Nat} (hh : pv_H f nO h) (h14 : g 14 = f 14) (h15 : g 15 = f 15) : pv_H g nO h := by
  refine ⟨hh.1, fun o ho => ?_⟩
  rw [h14, h15]; exact hh.2 o ho
theorem pv_K.cg {f g : mm_A} {nO nJ : Nat} (hh : pv_K f nO nJ) (h17 : g 17 = f 17) : pv_K g nO nJ := fun o ho => by
  rw [rf_jc_cg nJ (fun k _ => by rw [h17])]; exact hh o ho
theorem pw_new : PV cl_f0 0 0 0 0 0 (fun _ => 0) (fun _ => 0) (fun _ => 0) (fun _ => 0) (fun _ => 0) := by
  refine ⟨fun m hm => ⟨Or.inl (cl_f0_22 m hm), Or.inl (cl_f0_23 m hm), fun k _ _ _ => cl_f0_22 m hm⟩, fun j hj => absurd hj (Nat.not_lt_zero _), fun o ho => absurd ho (Nat.not_lt_zero _), fun o ho => absurd ho (Nat.not_lt_zero _), fun t ht => absurd ht (Nat.not_lt_zero _), ⟨fun o _ => Nat.zero_le _, fun o ho => absurd ho (Nat.not_lt_zero _)⟩, fun t ht => absurd ht (Nat.not_lt_zero _), fun o ho => absurd ho (Nat.not_lt_zero _), fun k _ => rfl⟩
theorem pw_addCutter {f g : mm_A} {nC nT nO nJ T : Nat} {h : Nat → Nat} {gA gB gO gH : Nat → Int32} {mo le mx : Int32} (hV : PV f nC nT nO nJ T h gA gB gO gH) (hn : nC < 10) (hg : g = va_up (va_up (va_up f 2 (upd (f 2) nC mo)) 3 (upd (f 3) nC le)) 4 (upd (f 4) nC mx)) : PV g (nC + 1) nT nO nJ T h gA gB gO gH := by
  obtain ⟨h1, h2, h3, h4, h5, h6, h7⟩ := hV
  subst hg
  refine ⟨h1.off (Nat.le_succ _) rfl rfl rfl rfl, h2.off (Nat.le_succ _) rfl rfl rfl rfl, h3.off rfl, h4.cg rfl, h5.cg (Nat.le_succ _) (by omega) (fun i hi => ?_) (fun i hi => ?_) (fun i hi => ?_) rfl rfl, h6.cg rfl rfl, h7.cg rfl rfl rfl⟩
  · show upd (f 2) nC mo i = _; exact pk_un (by omega)
  · show upd (f 3) nC le i = _; exact pk_un (by omega)
  · show upd (f 4) nC mx i = _; exact pk_un (by omega)
theorem pw_draft {f : mm_A} {nC nT nO nJ T : Nat} {h : Nat → Nat} {gA gB gO gH : Nat → Int32} {d : Nat → Int32} (hV : PV f nC nT nO nJ T h gA gB gO gH) (hn : nC ≤ 10) : PV (va_up f 6 d) nC nT nO nJ T h gA gB gO gH := by
  obtain ⟨h1, h2, h3, h4, h5, h6, h7⟩ := hV
  exact ⟨h1.off (Nat.le_refl _) rfl rfl rfl rfl, h2.off (Nat.le_refl _) rfl rfl rfl rfl, h3.off rfl, h4.cg rfl, h5.cg (Nat.le_refl _) (by omega) (fun i _ => rfl) (fun i _ => rfl) (fun i _ => rfl) rfl rfl, h6.cg rfl rfl, h7.cg rfl rfl rfl⟩
theorem pw_make {f g : mm_A} {nC nT nO nJ nD T : Nat} {h : Nat → Nat} {gA gB gO gH : Nat → Int32} (hV : PV f nC nT nO nJ T h gA gB gO gH) (hn : nC ≤ 10) (hd : nD ≤ 4) (hT : ∀ j, j < nT → rf_tok f j) (hall : cl_all f nC (f 6) nD = true) (hg : g = va_up (va_up f 9 (rf_copy f nT (3 * nD))) 8 (upd (f 8) nT (nI nD))) : PV g nC (nT + 1) nO nJ T h (upd gA nT (nI (rf_dp f 2 nD))) (upd gB nT (nI (rf_dp f 1 nD))) gO gH := by
  obtain ⟨h1, h2, h3, h4, h5, h6, h7⟩ := hV
  have e8 : ∀ t, g 8 t = upd (f 8) nT (nI nD) t := fun t => by rw [hg]; rfl
  have e9 : ∀ i, g 9 i = rf_copy f nT (3 * nD) i := fun i => by rw [hg]; rfl
  have e234 : g 2 = f 2 ∧ g 3 = f 3 ∧ g 4 = f 4 := by rw [hg]; exact ⟨rfl, rfl, rfl⟩
  have sO : ∀ t, t < nT → rf_sm g t = rf_sm f t := fun t ht => by rw [rf_sm, rf_sm, e8, pk_un (by omega)]
  have sN : rf_sm g nT = nD := by rw [rf_sm, e8, pk_us, rf_n_nI (by omega)]
  have cO : ∀ t, t < nT → ∀ k, k < 4 → ∀ w, w ≤ 2 → g 9 (12 * t + 3 * k + w) = f 9 (12 * t + 3 * k + w) := fun t ht k hk w hw => by
    rw [e9, rf_copy_at, if_neg (by omega)]
  have cN : ∀ k, k < nD → ∀ w, w ≤ 2 → g 9 (12 * nT + 3 * k + w) = f 6 (3 * k + w) := fun k hk w hw => by
    rw [e9, rf_copy_at, if_pos (by omega)]
    congr 1; omega
  have rc : ∀ mo te, rf_cut g nC mo te = rf_cut f nC mo te := fun mo te => rf_cut_cong e234.1 e234.2.1 e234.2.2
  refine ⟨by rw [hg]; exact h1.off (Nat.le_refl _) rfl rfl rfl rfl, by rw [hg]; exact h2.off (Nat.le_refl _) rfl rfl rfl rfl, by rw [hg]; exact h3.off rfl, by rw [hg]; exact h4.cg rfl, fun t ht k hk => ?_, by rw [hg]; exact h6.cg rfl rfl, fun t ht => ?_, fun o ho => ?_, h7.2.2⟩
  · rw [rc, rc]
    by_cases e : t = nT
    · subst e
      rw [sN] at hk
      have a0 := cN k hk 0 (by omega)
      have a1 := cN k hk 1 (by omega)
      have a2 := cN k hk 2 (by omega)
      simp only [Nat.add_zero] at a0
      rw [a0, a1, a2]
      exact cl_all_at nD hall k hk
    · have ht' : t < nT := by omega
      rw [sO t ht'] at hk
      have hk4 : k < 4 := by have := (hT t ht').2.2.1; omega
      have a0 := cO t ht' k hk4 0 (by omega)
      have a1 := cO t ht' k hk4 1 (by omega)
      have a2 := cO t ht' k hk4 2 (by omega)
      simp only [Nat.add_zero] at a0
      rw [a0, a1, a2]
      exact h5 t ht' k hk
  · by_cases e : t = nT
    · subst e
      rw [pk_us, pk_us, rf_P, rf_P, sN, rf_pn_dp nD (fun k hk => cN k hk 2 (by omega)), rf_pn_dp nD (fun k hk => cN k hk 1 (by omega))]
      exact ⟨rfl, rfl⟩
    · have ht' : t < nT := by omega
      have hs4 := (hT t ht').2.2.1
      rw [pk_un e, pk_un e, rf_P, rf_P, sO t ht', rf_pn_cg _ (fun k hk => cO t ht' k (by omega) 2 (by omega)), rf_pn_cg _ (fun k hk => cO t ht' k (by omega) 1 (by omega))]
      exact h7.1 t ht'
  · rw [rf_ot, show g 12 = f 12 by rw [hg]; rfl]; exact h7.2.1 o ho
theorem pw_order {f g : mm_A} {nC nT nO nJ T j : Nat} {h : Nat → Nat} {gA gB gO gH : Nat → Int32} (hV : PV f nC nT nO nJ T h gA gB gO gH) (hn : nC ≤ 10) (hJ : nJ ≤ 96) (h12 : nO < 12) (hj : j < nT) (h8 : nT ≤ 8) (hT : ∀ j, j < nT → rf_tok f j) (hjo : ∀ i, i < nJ → ∃ o, o < nO ∧ f 17 i = nI o) (p14 : ∀ o, nO ≤ o → o < 12 → f 14 o = 0) (p15 : ∀ o, nO ≤ o → o < 12 → ∀ k, k < 4 → f 15 (4 * o + k) = 0)
    (hg : g = va_up (va_up (rf_ordJ f nC nJ nO j (rf_sm f j)) 12 (upd (f 12) nO (nI j))) 13 (upd (f 13) nO (-1))) : PV g nC nT (nO + 1) (nJ + 2 * rf_sm f j) T h gA gB (upd gO nO (nI j)) gH := by
  obtain ⟨h1, h2, h3, h4, h5, h6, h7⟩ := hV
  have of9 : ∀ k, ¬ (k = 12 ∨ k = 13 ∨ k = 17 ∨ k = 18 ∨ k = 19 ∨ k = 20) → g k = f k := fun k hk => by
    rw [hg, va_up_ne _ _ (by omega), va_up_ne _ _ (by omega)]
    exact rf_ordJ_off f nC nJ nO j _ k (by omega)
  have a17 : ∀ k, k = 17 ∨ k = 18 ∨ k = 19 ∨ k = 20 → g k = rf_ordJ f nC nJ nO j (rf_sm f j) k := fun k hk => by
    rw [hg, va_up_ne _ _ (by omega), va_up_ne _ _ (by omega)]
  have a12 : ∀ o, g 12 o = upd (f 12) nO (nI j) o := fun o => by rw [hg]; rfl
  have a13 : ∀ o, g 13 o = upd (f 13) nO (-1) o := fun o => by rw [hg]; rfl
  have old := fun i (hi : i < nJ) => rf_ordJ_o f nC nJ nO j (rf_sm f j) i (Or.inl hi)
  have hs4 := (hT j hj).2.2.1
  have new : ∀ i, nJ ≤ i → i < nJ + 2 * rf_sm f j → ∃ k u, k < rf_sm f j ∧ (u = 0 ∨ u = 1) ∧ i = nJ + 2 * k + u := fun i i1 i2 => by
    refine ⟨(i - nJ) / 2, (i - nJ) % 2, by omega, by omega, by omega⟩
  refine ⟨fun m hm => ?_, fun i hi => ?_, fun o ho => ?_, fun o ho => ?_, fun t ht k hk => ?_, ⟨h6.1, fun o ho => ?_⟩, fun t ht => ?_, fun o ho => ?_, h7.2.2⟩
  · obtain ⟨k1, k2, k3⟩ := h1 m hm
    rw [of9 22 (by decide), of9 23 (by decide), of9 24 (by decide)]
    refine ⟨k1, ?_, k3⟩
    rcases k2 with k2 | ⟨i, b1, b2, b3, b4⟩
    · exact Or.inl k2
    · exact Or.inr ⟨i, by omega, b2, by rw [a17 20 (by decide), (old i b1).2.2.2]; exact b3, b4⟩
  · rw [a17 18 (by decide), a17 19 (by decide), a17 20 (by decide), of9 23 (by decide)]
    by_cases hi9 : i < nJ
    · obtain ⟨-, o2, o3, o4⟩ := old i hi9
      rw [o2, o3, o4]; exact h2 i hi9
    · obtain ⟨k, u, hk, hu, rfl⟩ := new i (by omega) hi
      obtain ⟨-, n2, n3, n4⟩ := rf_ordJ_n f nC nJ nO j (rf_sm f j) k hk u hu
      rw [n2, n3, n4]
      obtain ⟨c1, c2⟩ := h5 j hj k hk
      obtain ⟨-, -, -, q4⟩ := hT j hj
      have q5 := (q4 k hk).2
      refine ⟨?_, ?_, Or.inl rfl⟩
      · rcases hu with rfl | rfl
        · exact rf_cut_ix c1
        · exact rf_cut_ix c2
      · rcases hu with rfl | rfl
        · obtain ⟨e, e1, e2⟩ := q5 1 (Or.inl rfl); exact ⟨_, e1, e2, e⟩
        · obtain ⟨e, e1, e2⟩ := q5 2 (Or.inr rfl); exact ⟨_, e1, e2, e⟩
  · rw [a13]
    by_cases e : o = nO
    · rw [e, pk_us]; exact Or.inl rfl
    · rw [pk_un e]; exact h3 o (by omega)
  · by_cases e : o = nO
    · subst e
      have z0 : rf_jc g (nI o) nJ = 0 := rf_jc_0 nJ (fun k hk q => by
        rw [a17 17 (by decide), (old k hk).1] at q
        obtain ⟨o', ho', e'⟩ := hjo k hk
        rw [e'] at q
        have := nI_j (by omega) (by omega) q
        omega)
      have z1 := rf_jc_add (f := g) (o := nI o) nJ (2 * rf_sm f j)
      omega
    · rw [rf_jc_add0 nJ _ (fun k k1 k2 q => by
        obtain ⟨k', u, hk', hu, rfl⟩ := new k k1 k2
        rw [a17 17 (by decide), (rf_ordJ_n f nC nJ nO j (rf_sm f j) k' hk' u hu).1] at q
        exact e (nI_j (by omega) (by omega) q).symm), rf_jc_cg (f := f) (g := g) nJ (fun k hk => by rw [a17 17 (by decide)]; exact (old k hk).1)]
      exact h4 o (by omega)
  · rw [rf_sm, of9 8 (by decide)] at hk
    rw [of9 9 (by decide), rf_cut_cong (of9 2 (by decide)) (of9 3 (by decide)) (of9 4 (by decide)), rf_cut_cong (of9 2 (by decide)) (of9 3 (by decide)) (of9 4 (by decide))]
    exact h5 t ht k hk
  · rw [of9 14 (by decide), of9 15 (by decide)]
    by_cases e : o = nO
    · rw [e]; exact ⟨p14 nO (Nat.le_refl _) h12, fun k hk => ⟨0, by omega, p15 nO (Nat.le_refl _) h12 k hk⟩⟩
    · exact h6.2 o (by omega)
  · rw [rf_P_cg (of9 8 (by decide)) (of9 9 (by decide)), rf_P_cg (of9 8 (by decide)) (of9 9 (by decide))]; exact h7.1 t ht
  · rw [rf_ot, a12]
    by_cases e : o = nO
    · rw [e, pk_us, pk_us, rf_n_nI (by omega)]
    · rw [pk_un e, pk_un e]; exact h7.2.1 o (by omega)
theorem pw_pass {f : mm_A} {nC nT nO nJ T q : Nat} {h : Nat → Nat} {gA gB gO gH : Nat → Int32} (hV : PV f nC nT nO nJ T h gA gB gO gH) (hn : nC ≤ 10) (hJ : nJ ≤ 96) : PV (rf_passf nJ (nI T) f q) nC nT nO nJ (T + q) h gA gB gO gH := by
  obtain ⟨h1, h2, h3, h4, h5, h6, h7⟩ := hV
  obtain ⟨a, b, c⟩ := pv_pass hJ h1 h2 h3 q
  have of9 := fun k hk => rf_off_pass (f := f) (n := nJ) (tm := nI T) q k hk
  exact ⟨a, b, c, h4.cg (of9 17 (by decide)), h5.cg (Nat.le_refl _) (by omega) (fun i _ => by rw [of9 2 (by decide)]) (fun i _ => by rw [of9 3 (by decide)]) (fun i _ => by rw [of9 4 (by decide)]) (of9 8 (by decide)) (of9 9 (by decide)), h6.cg (of9 14 (by decide)) (of9 15 (by decide)), h7.cg (of9 8 (by decide)) (of9 9 (by decide)) (of9 12 (by decide))⟩
theorem rf_tst_h {f : mm_A} {o t lh hh : Nat} (htok : rf_tok f t) (h14 : f 14 o = 0) (h80 : hh + lh ≤ 80) (hu : ∀ k, k < 4 → ∃ u, u ≤ hh ∧ f 15 (4 * o + k) = nI u) : ∀ n, n ≤ rf_sm f t → rf_tst f o t lh n 14 o = 0 ∧ ∀ k, k < n → ∃ u u', u ≤ u' ∧ u' ≤ hh + lh ∧ f 15 (4 * o + k) = nI u ∧ rf_tst f o t lh n 15 (4 * o + k) = nI u'
  | 0, _ => ⟨h14, fun k hk => absurd hk (Nat.not_lt_zero _)⟩
  | n + 1, hn => by
    obtain ⟨a, b⟩ := rf_tst_h htok h14 h80 hu n (by omega)
    obtain ⟨-, -, hs4, q4⟩ := htok
    obtain ⟨u, hu1, hu2⟩ := hu n (by omega)
    have e15 : rf_tst f o t lh n 15 (4 * o + n) = nI u := by rw [rf_tst_15 f o t lh n (fun k hk => by omega)]; exact hu2
    have hst : lh / rf_st f (12 * t + 3 * n) ≤ lh := Nat.div_le_self _ _
    have hles : 8 ≤ rf_les f t n ∧ rf_les f t n ≤ 60 := by
      obtain ⟨-, a1, a2⟩ := (q4 n (by omega)).2 1 (Or.inl rfl)
      obtain ⟨-, b1, b2⟩ := (q4 n (by omega)).2 2 (Or.inr rfl)
      unfold rf_les
      split <;> omega
    rw [rf_tst_s]
    refine ⟨?_, fun k hk => ?_⟩
    · show upd (rf_tst f o t lh n 14) o (fw_b (!(decide (rf_tst f o t lh n 14 o = 0)) || decide (nI (10 * rf_les f t n) < rf_tst f o t lh n 15 (4 * o + n) + nI (lh / rf_st f (12 * t + 3 * n))))) o = 0
      rw [pk_us, a, e15, nI_add, decide_eq_false (p := nI (10 * rf_les f t n) < nI (u + lh / rf_st f (12 * t + 3 * n))) (by rw [nI_ltI (by omega) (by omega)]; omega)]
      rfl
    · show ∃ u u', u ≤ u' ∧ u' ≤ hh + lh ∧ f 15 (4 * o + k) = nI u ∧ upd (rf_tst f o t lh n 15) (4 * o + n) (rf_tst f o t lh n 15 (4 * o + n) + nI (lh / rf_st f (12 * t + 3 * n))) (4 * o + k) = nI u'
      by_cases e : k = n
      · rw [e, pk_us, e15, nI_add]; exact ⟨u, u + lh / rf_st f (12 * t + 3 * n), Nat.le_add_right _ _, Nat.add_le_add hu1 hst, hu2, rfl⟩
      · rw [pk_un (by omega)]; exact b k (by omega)
theorem pw_test {f g : mm_A} {nC nT nO nJ T j lh : Nat} {h : Nat → Nat} {gA gB gO gH : Nat → Int32} (hV : PV f nC nT nO nJ T h gA gB gO gH) (hn : nC ≤ 10) (hj : j < nO) (hO : nO ≤ 12) (htok : rf_tok f (rf_ot f j)) (h80 : h j + lh ≤ 80) (hg : g = rf_testf f j (rf_ot f j) lh) :
    PV g nC nT nO nJ T (fun k => if k = j then h j + lh else h k) gA gB gO (upd gH j (nI (h j + lh))) ∧ g 14 j = 0 ∧ g 10 = f 10 ∧ g 12 = f 12 ∧ ∃ u u', u ≤ u' ∧ u' ≤ h j + lh ∧ f 15 (4 * j) = nI u ∧ g 15 (4 * j) = nI u' := by
  obtain ⟨h1, h2, h3, h4, h5, h6, h7⟩ := hV
  obtain ⟨h14, hu⟩ := h6.2 j hj
  obtain ⟨t14, t15⟩ := rf_tst_h htok h14 h80 hu (rf_sm f (rf_ot f j)) (Nat.le_refl _)
  have of9 : ∀ k, k ≠ 10 → k ≠ 14 → k ≠ 15 → g k = f k := fun k k1 k2 k3 => by
    rw [hg, rf_testf, va_up_ne _ _ k1]; exact rf_tst_off f j _ lh _ k k2 k3
  have g14 : g 14 = rf_tst f j (rf_ot f j) lh (rf_sm f (rf_ot f j)) 14 := by rw [hg]; rfl
  have g15 : g 15 = rf_tst f j (rf_ot f j) lh (rf_sm f (rf_ot f j)) 15 := by rw [hg]; rfl
  have g10 : g 10 = f 10 := by
    rw [hg]
    show upd (rf_tst f j (rf_ot f j) lh (rf_sm f (rf_ot f j)) 10) (rf_ot f j) (rf_tst f j (rf_ot f j) lh (rf_sm f (rf_ot f j)) 10 (rf_ot f j) + (if rf_tst f j (rf_ot f j) lh (rf_sm f (rf_ot f j)) 14 j = 0 then nI 0 else nI 1)) = f 10
    rw [rf_tst_off f j _ lh _ 10 (by decide) (by decide), if_pos t14]
    funext k
    by_cases e : k = rf_ot f j
    · rw [e, pk_us]; exact Int32.add_zero _
    · rw [pk_un e]
  have hs4 := htok.2.2.1
  refine ⟨⟨h1.off (Nat.le_refl _) (of9 20 (by decide) (by decide) (by decide)) (of9 22 (by decide) (by decide) (by decide)) (of9 23 (by decide) (by decide) (by decide)) (of9 24 (by decide) (by decide) (by decide)), h2.off (Nat.le_refl _) (of9 18 (by decide) (by decide) (by decide)) (of9 19 (by decide) (by decide) (by decide)) (of9 20 (by decide) (by decide) (by decide)) (of9 23 (by decide) (by decide) (by decide)), h3.off (of9 13 (by decide) (by decide) (by decide)), h4.cg (of9 17 (by decide) (by decide) (by decide)), h5.cg (Nat.le_refl _) (by omega) (fun i _ => by rw [of9 2 (by decide) (by decide) (by decide)]) (fun i _ => by rw [of9 3 (by decide) (by decide) (by decide)]) (fun i _ => by rw [of9 4 (by decide) (by decide) (by decide)]) (of9 8 (by decide) (by decide) (by decide)) (of9 9 (by decide) (by decide) (by decide)), ⟨fun o ho => ?_, fun o ho => ?_⟩, fun t ht => ?_, fun o ho => ?_, fun k hk => ?_⟩, by rw [g14]; exact t14, g10, of9 12 (by decide) (by decide) (by decide), ?_⟩
  · show (if o = j then h j + lh else h o) ≤ 80
    split
    · exact h80
    · exact h6.1 o ho
  · rw [g14, g15]
    show _ ∧ ∀ k, k < 4 → ∃ u, u ≤ (if o = j then h j + lh else h o) ∧ _
    by_cases e : o = j
    · subst e
      rw [if_pos rfl]
      refine ⟨t14, fun k hk => ?_⟩
      by_cases hk9 : k < rf_sm f (rf_ot f o)
      · obtain ⟨u, u', -, b, -, d⟩ := t15 k hk9; exact ⟨u', b, d⟩
      · obtain ⟨u, a, b⟩ := hu k hk
        rw [rf_tst_15 f o _ lh _ (fun k' hk' => by omega)]
        exact ⟨u, by omega, b⟩
    · rw [if_neg e, rf_tst_14 f j _ lh e]
      refine ⟨(h6.2 o ho).1, fun k hk => ?_⟩
      rw [rf_tst_15 f j _ lh _ (fun k' hk' => by omega)]
      exact (h6.2 o ho).2 k hk
  · rw [rf_P_cg (of9 8 (by decide) (by decide) (by decide)) (of9 9 (by decide) (by decide) (by decide)), rf_P_cg (of9 8 (by decide) (by decide) (by decide)) (of9 9 (by decide) (by decide) (by decide))]; exact h7.1 t ht
  · rw [rf_ot, of9 12 (by decide) (by decide) (by decide)]; exact h7.2.1 o ho
  · show _ = nI (if k = j then h j + lh else h k)
    by_cases e : k = j
    · rw [e, pk_us, if_pos rfl]
    · rw [pk_un e, if_neg e]; exact h7.2.2 k hk
  · obtain ⟨u, u', a, b, c, d⟩ := t15 0 (by have := htok.2.1; omega)
    exact ⟨u, u', a, b, c, by rw [g15]; exact d⟩
/-! the ratio of a train, in lowest terms -/
theorem pv_low {p q : Nat} (hp : 0 < p) (hq : 0 < q) : 1 ≤ p / Nat.gcd p q ∧ 1 ≤ q / Nat.gcd p q ∧ p / Nat.gcd p q * q = q / Nat.gcd p q * p ∧ (∀ k, 2 ≤ k → ¬ (p / Nat.gcd p q % k = 0 ∧ q / Nat.gcd p q % k = 0)) ∧ ∀ i, i * (q / Nat.gcd p q) / (p / Nat.gcd p q) = i * q / p := by
  have hg : 0 < Nat.gcd p q := Nat.gcd_pos_of_pos_left _ hp
  have hdv : ∀ k, k ∣ p → k ∣ q → k ∣ Nat.gcd p q := fun k a b => Nat.dvd_gcd a b
  obtain ⟨a, ha⟩ := Nat.gcd_dvd_left p q
  obtain ⟨b, hb⟩ := Nat.gcd_dvd_right p q
  generalize Nat.gcd p q = g at hg hdv ha hb ⊢
  subst ha hb
  rw [Nat.mul_div_cancel_left _ hg, Nat.mul_div_cancel_left _ hg]
  refine ⟨Nat.pos_of_mul_pos_left hp, Nat.pos_of_mul_pos_left hq, ?_, fun k hk h => ?_, fun i => ?_⟩
  · rw [Nat.mul_left_comm, Nat.mul_left_comm b g a, Nat.mul_comm a b]
  · obtain ⟨a', ha⟩ := Nat.dvd_of_mod_eq_zero h.1
    obtain ⟨b', hb⟩ := Nat.dvd_of_mod_eq_zero h.2
    have hd : g * k ∣ g := hdv (g * k) ⟨a', by rw [ha, Nat.mul_assoc]⟩ ⟨b', by rw [hb, Nat.mul_assoc]⟩
    have hle := Nat.le_of_dvd hg hd
    have : g * 2 ≤ g * k := Nat.mul_le_mul_left _ hk
    omega
  · rw [Nat.mul_left_comm, Nat.mul_div_mul_left _ _ hg]
