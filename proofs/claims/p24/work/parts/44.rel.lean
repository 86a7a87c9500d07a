/-! One relation of the class's objects and the reference's memory. -/
def rf_dp (f : mm_A) (w : Nat) : Nat → Nat
  | 0 => 1
  | k + 1 => rf_dp f w k * rf_n (f 6 (3 * k + w))
def cr_dg (f : mm_A) (n : Nat) : Nat := Nat.gcd (rf_dp f 2 n) (rf_dp f 1 n)
/-- the draft, tagged as the train that it may become -/
def cr_D (F : fw_F) (dr ds dfr : Nat) (da : Nat → Nat) (f : mm_A) (nT nD : Nat) : Prop := nD ≤ 4 ∧ F dr = some ((3, nT, 0), fw_obj 8 [.ref ds, .ref dfr, .int (nI 0)]) ∧ (∃ arr, F ds = some ((13, nT, 0), fw_ls arr nD da)) ∧ F dfr = some ((33, nT, 0), fw_obj 2 [.long (lN (rf_dp f 2 nD / cr_dg f nD)), .long (lN (rf_dp f 1 nD / cr_dg f nD))]) ∧ ∀ k, k < nD → F (da k) = some ((23, nT, k), fw_obj 7 [.int (f 6 (3 * k)), .int (f 6 (3 * k + 1)), .int (f 6 (3 * k + 2))])
def rf_dok (f : mm_A) (nD : Nat) : Prop := ∀ k, k < nD → (f 6 (3 * k) = nI (rf_n (f 6 (3 * k))) ∧ 1 ≤ rf_n (f 6 (3 * k)) ∧ rf_n (f 6 (3 * k)) ≤ 4) ∧ ∀ w, w = 1 ∨ w = 2 → f 6 (3 * k + w) = nI (rf_n (f 6 (3 * k + w))) ∧ 8 ≤ rf_n (f 6 (3 * k + w)) ∧ rf_n (f 6 (3 * k + w)) ≤ 60
/-- an order of which all is cut has a time -/
def cr_E (f : mm_A) (nJ nO : Nat) : Prop := ∀ o, o < nO → rf_left f (nI o) nJ = 0 → ¬ f 13 o = -1
def CL (F : fw_F) (x : Nat) (f : mm_A) (nC nT nO nJ nD : Nat) (tm : Int32) : Prop := ∃ (lc lt lo lm lw dr ds dfr : Nat) (ca ta sl fr oa tr ml ma ja da wj : Nat → Nat) (sa ms : Nat → Nat → Nat) (nW : Nat),
  cr_X F x lc lt lo lm lw dr tm ∧ cr_C F lc ca f nC ∧ cr_t F lt ta nT ∧ cr_T F ta sl fr sa f nT ∧ cr_o F lo oa nO ∧ cr_K F lm lw ma ja oa tr ml f nJ nO nW wj ∧ cr_I f nJ nO nW wj ∧ cr_Z F ml ms sa f nO ∧ cr_D F dr ds dfr da f nT nD ∧ ∀ o, o < nO → tr o = ta (rf_ot f o)
def PU (f : mm_A) (nT nO nJ nD : Nat) : Prop := (∀ j, j < nT → rf_tok f j) ∧ (∀ j, j < nO → f 12 j = nI (rf_ot f j) ∧ rf_ot f j < nT) ∧ (∀ i, nT ≤ i → i < 8 → f 10 i = 0) ∧ (∀ o, nO ≤ o → o < 12 → f 14 o = 0) ∧ (∀ o, nO ≤ o → o < 12 → ∀ k, k < 4 → f 15 (4 * o + k) = 0) ∧ (∀ o, o < nO → f 14 o = 0 ∨ f 14 o = 1) ∧ cr_E f nJ nO ∧ nJ ≤ 8 * nO ∧ rf_dok f nD
def MS (sc : mm_S) (nC nT nO nJ nD : Nat) (tm : Int32) : Prop := sc 1 = nI nC ∧ sc 5 = nI nD ∧ sc 7 = nI nT ∧ sc 11 = nI nO ∧ sc 16 = nI nJ ∧ sc 21 = tm
def RB (F : fw_F) (x : Nat) (f : mm_A) (sc : mm_S) (nC nT nO nJ nD T : Nat) : Prop := CL F x f nC nT nO nJ nD (nI T) ∧ PU f nT nO nJ nD ∧ MS sc nC nT nO nJ nD (nI T)
theorem MS.thr {sc : mm_S} {nC nT nO nJ nD : Nat} {tm v : Int32} (h : MS sc nC nT nO nJ nD tm) : MS (va_up sc 0 v) nC nT nO nJ nD tm := h
/-! what keeps the tags of the class keeps the relation -/
def cl_P : fw_T → Prop := fun t => 60 ≤ t.1 ∨ t.1 = 40
theorem cl_P_no {t : fw_T} (h : t.1 ≠ 40) (h2 : t.1 < 60) : ¬ cl_P t := fun z => z.elim (fun z => absurd h2 (by omega)) h
theorem CL.kp {F F' : fw_F} {x nC nT nO nJ nD : Nat} {f : mm_A} {tm : Int32} (h : CL F x f nC nT nO nJ nD tm) (hk : fw_kp F F' cl_P) : CL F' x f nC nT nO nJ nD tm := by
  obtain ⟨lc, lt, lo, lm, lw, dr, ds, dfr, ca, ta, sl, fr, oa, tr, ml, ma, ja, da, wj, sa, ms, nW, hX, hC, ⟨ht8, at9, hLt⟩, hTr, ⟨ho12, ao9, hLo⟩, hK, hI, hZ, ⟨hd4, hD1, ⟨ad9, hD2⟩, hD3, hD4⟩, htr⟩ := h
  refine ⟨lc, lt, lo, lm, lw, dr, ds, dfr, ca, ta, sl, fr, oa, tr, ml, ma, ja, da, wj, sa, ms, nW, hk _ _ _ hX (cl_P_no (by decide) (by decide)), hC.kp hk (fun t z => ?_), ⟨ht8, at9, hk _ _ _ hLt (cl_P_no (by decide) (by decide))⟩, fun i hi => ?_, ⟨ho12, ao9, hk _ _ _ hLo (cl_P_no (by decide) (by decide))⟩, hK.kp hk (fun t z => ?_), hI, fun o ho => ?_, ⟨hd4, hk _ _ _ hD1 (cl_P_no (by simp) (by simp)), ⟨ad9, hk _ _ _ hD2 (cl_P_no (by simp) (by simp))⟩, hk _ _ _ hD3 (cl_P_no (by simp) (by simp)), fun k hk9 => hk _ _ _ (hD4 k hk9) (cl_P_no (by simp) (by simp))⟩, htr⟩
  · rcases z with rfl | z
    · exact cl_P_no (by decide) (by decide)
    · exact cl_P_no (by omega) (by omega)
  · obtain ⟨h1, ⟨ar, h2⟩, h3, h4⟩ := hTr i hi
    exact ⟨hk _ _ _ h1 (cl_P_no (by simp) (by simp)), ⟨ar, hk _ _ _ h2 (cl_P_no (by simp) (by simp))⟩, hk _ _ _ h3 (cl_P_no (by simp) (by simp)), fun k hk9 => hk _ _ _ (h4 k hk9) (cl_P_no (by simp) (by simp))⟩
  · rcases z with z | z | z | rfl | rfl
    · exact cl_P_no (by omega) (by omega)
    · exact cl_P_no (by omega) (by omega)
    · exact cl_P_no (by omega) (by omega)
    · exact cl_P_no (by decide) (by decide)
    · exact cl_P_no (by decide) (by decide)
  · obtain ⟨⟨ar, h1⟩, h2⟩ := hZ o ho
    exact ⟨⟨ar, hk _ _ _ h1 (cl_P_no (by simp) (by simp))⟩, fun k hk9 => hk _ _ _ (h2 k hk9) (cl_P_no (by simp) (by simp))⟩
/-! the pieces look at these places of the memory alone -/
theorem rf_P_cg {f g : mm_A} (h8 : g 8 = f 8) (h9 : g 9 = f 9) (i w : Nat) : rf_P g i w = rf_P f i w := by
  have e : ∀ n, rf_pn g i w n = rf_pn f i w n := fun n => by
    induction n with
    | zero => rfl
    | succ n ih => rw [rf_pn, rf_pn, ih, rf_st, rf_st, h9]
  rw [rf_P, rf_P, e, rf_sm, rf_sm, h8]
theorem cr_C.cg {F : fw_F} {lc nC : Nat} {ca : Nat → Nat} {f g : mm_A} (h : cr_C F lc ca f nC) (h2 : g 2 = f 2) (h3 : g 3 = f 3) (h4 : g 4 = f 4) : cr_C F lc ca g nC := by
  simp only [cr_C, h2, h3, h4]; exact h
theorem cr_T.cg {F : fw_F} {ta sl fr : Nat → Nat} {sa : Nat → Nat → Nat} {f g : mm_A} {nT : Nat} (h : cr_T F ta sl fr sa f nT) (h8 : g 8 = f 8) (h9 : g 9 = f 9) (h10 : g 10 = f 10) : cr_T F ta sl fr sa g nT := by
  have e1 : ∀ i, rf_sm g i = rf_sm f i := fun i => by rw [rf_sm, rf_sm, h8]
  have e2 := rf_P_cg h8 h9
  have e3 : ∀ i, cr_g g i = cr_g f i := fun i => by rw [cr_g, cr_g, e2, e2]
  intro i hi
  obtain ⟨a, b, c, d⟩ := h i hi
  rw [e1, e2, e2, e3, h9, h10]
  exact ⟨a, b, c, d⟩
theorem cr_K.cg {F : fw_F} {lm lw : Nat} {ma ja oa tr ml : Nat → Nat} {f g : mm_A} {nJ nO nW : Nat} {wj : Nat → Nat} (h : cr_K F lm lw ma ja oa tr ml f nJ nO nW wj) (e13 : g 13 = f 13) (e14 : g 14 = f 14) (e17 : g 17 = f 17) (e18 : g 18 = f 18) (e19 : g 19 = f 19) (e20 : g 20 = f 20) (e22 : g 22 = f 22) (e23 : g 23 = f 23) (e24 : g 24 = f 24) : cr_K F lm lw ma ja oa tr ml g nJ nO nW wj := by
  have e1 : cl_jb ja g = cl_jb ja f := funext fun m => by rw [cl_jb, cl_jb, e23]
  have e2 : cl_lf g = cl_lf f := funext fun m => by rw [cl_lf, cl_lf, e23, e24]
  have e3 : ∀ o n, rf_left g o n = rf_left f o n := fun o n => rf_left_cong e17 e20 n
  simp only [cr_K, cr_M, cr_W, cr_O, cr_J, e1, e2, e3, e13, e14, e17, e18, e19, e22] at h ⊢
  exact h
theorem cr_I.cg {f g : mm_A} {nJ nO nW : Nat} {wj : Nat → Nat} (h : cr_I f nJ nO nW wj) (e13 : g 13 = f 13) (e17 : g 17 = f 17) (e19 : g 19 = f 19) (e20 : g 20 = f 20) (e23 : g 23 = f 23) (e24 : g 24 = f 24) : cr_I g nJ nO nW wj := by
  have e3 : ∀ o n, rf_left g o n = rf_left f o n := fun o n => rf_left_cong e17 e20 n
  simp only [cr_I, cr_R, rf_jok, e3, e13, e17, e19, e20, e23, e24] at h ⊢
  exact h
theorem cr_Z.cg {F : fw_F} {ml : Nat → Nat} {ms sa : Nat → Nat → Nat} {f g : mm_A} {nO : Nat} (h : cr_Z F ml ms sa f nO) (h8 : g 8 = f 8) (h12 : g 12 = f 12) (h15 : g 15 = f 15) : cr_Z F ml ms sa g nO := by
  have e1 : ∀ i, rf_sm g i = rf_sm f i := fun i => by rw [rf_sm, rf_sm, h8]
  have e2 : ∀ i, rf_ot g i = rf_ot f i := fun i => by rw [rf_ot, rf_ot, h12]
  simp only [cr_Z, e1, e2, h15]
  exact h
theorem rf_dp_cg {f g : mm_A} (w : Nat) : ∀ n, (∀ k, k < n → rf_n (g 6 (3 * k + w)) = rf_n (f 6 (3 * k + w))) → rf_dp g w n = rf_dp f w n
  | 0, _ => rfl
  | n + 1, h => by rw [rf_dp, rf_dp, rf_dp_cg w n (fun k hk => h k (by omega)), h n (by omega)]
theorem cr_D.cg {F : fw_F} {dr ds dfr : Nat} {da : Nat → Nat} {f g : mm_A} {nT nD : Nat} (h : cr_D F dr ds dfr da f nT nD) (h6 : g 6 = f 6) : cr_D F dr ds dfr da g nT nD := by
  have e : ∀ w, rf_dp g w nD = rf_dp f w nD := fun w => rf_dp_cg w nD (fun k hk => by rw [h6])
  simp only [cr_D, cr_dg, e, h6]
  exact h
theorem rf_tok_cg {f g : mm_A} {t : Nat} (h : rf_tok f t) (h8 : g 8 = f 8) (h9 : g 9 = f 9) : rf_tok g t := by
  have e1 : ∀ i, rf_sm g i = rf_sm f i := fun i => by rw [rf_sm, rf_sm, h8]
  have e2 : ∀ i, rf_st g i = rf_st f i := fun i => by rw [rf_st, rf_st, h9]
  simp only [rf_tok, e1, e2, h8, h9]
  exact h
theorem rf_dok_cg {f g : mm_A} {n : Nat} (h : rf_dok f n) (h6 : g 6 = f 6) : rf_dok g n := by
  simp only [rf_dok, h6]; exact h
theorem cr_E.cg {f g : mm_A} {nJ nO : Nat} (h : cr_E f nJ nO) (e13 : g 13 = f 13) (e17 : g 17 = f 17) (e20 : g 20 = f 20) : cr_E g nJ nO := by
  have e3 : ∀ o n, rf_left g o n = rf_left f o n := fun o n => rf_left_cong e17 e20 n
  simp only [cr_E, e3, e13]; exact h
theorem rf_ot_cg {f g : mm_A} (h12 : g 12 = f 12) (o : Nat) : rf_ot g o = rf_ot f o := by rw [rf_ot, rf_ot, h12]
theorem rf_dp_ok {f : mm_A} {n w : Nat} (h : rf_dok f n) (hw : w = 1 ∨ w = 2) : ∀ k, k ≤ n → 1 ≤ rf_dp f w k ∧ rf_dp f w k ≤ 60 ^ k
  | 0, _ => ⟨Nat.le_refl 1, Nat.le_refl 1⟩
  | k + 1, hk => by
    obtain ⟨h1, h2⟩ := rf_dp_ok h hw k (by omega)
    obtain ⟨-, h3, h4⟩ := (h k (by omega)).2 w hw
    rw [rf_dp, Nat.pow_succ]
    exact ⟨Nat.mul_pos h1 (by omega), Nat.mul_le_mul h2 h4⟩
theorem cl_fr {a b p q : Nat} (ha : 0 < a) : a / Nat.gcd a b * p / Nat.gcd (a / Nat.gcd a b * p) (b / Nat.gcd a b * q) = a * p / Nat.gcd (a * p) (b * q) ∧ b / Nat.gcd a b * q / Nat.gcd (a / Nat.gcd a b * p) (b / Nat.gcd a b * q) = b * q / Nat.gcd (a * p) (b * q) := by
  have hg : 0 < Nat.gcd a b := Nat.gcd_pos_of_pos_left _ ha
  obtain ⟨a', ha'⟩ := Nat.gcd_dvd_left a b
  obtain ⟨b', hb'⟩ := Nat.gcd_dvd_right a b
  generalize Nat.gcd a b = g at hg ha' hb' ⊢
  subst ha' hb'
  rw [Nat.mul_div_cancel_left _ hg, Nat.mul_div_cancel_left _ hg, Nat.mul_assoc, Nat.mul_assoc, Nat.gcd_mul_left, Nat.mul_div_mul_left _ _ hg, Nat.mul_div_mul_left _ _ hg]
  exact ⟨rfl, rfl⟩
/-! passing time: what it leaves as it is, and orders that are done have a time -/
def rf_off (f g : mm_A) : Prop := ∀ k, ¬ (k = 13 ∨ k = 20 ∨ k = 22 ∨ k = 23 ∨ k = 24) → g k = f k
theorem rf_off.rf {f : mm_A} : rf_off f f := fun _ _ => rfl
theorem rf_off.tr {f g h : mm_A} (a : rf_off f g) (b : rf_off g h) : rf_off f h := fun k hk => (b k hk).trans (a k hk)
theorem rf_off_put {f : mm_A} {mc i ex : Nat} : rf_off f (rf_put f mc i ex) := fun k hk => by
  rw [rf_put, va_up_ne _ _ (by omega), va_up_ne _ _ (by omega), va_up_ne _ _ (by omega), va_up_ne _ _ (by omega)]
theorem rf_off_takes {f : mm_A} {n mc : Nat} : rf_off f (rf_takes f n mc) := by
  unfold rf_takes
  split
  · exact rf_off.rf
  · exact rf_off_put
theorem rf_off_give {f : mm_A} {n : Nat} : ∀ k, rf_off f (rf_give f n k)
  | 0 => rf_off.rf
  | k + 1 => by
    rw [rf_give_s]
    split
    · exact (rf_off_give k).tr rf_off_takes
    · exact rf_off_give k
theorem rf_off_less {f : mm_A} {m : Nat} : rf_off f (rf_less f m) := fun k hk => by rw [rf_less, va_up_ne _ _ (by omega)]
theorem rf_off_done {f : mm_A} {n m i : Nat} {tm : Int32} : rf_off f (rf_done f n tm m i) := fun k hk => by rw [rf_done, va_up_ne _ _ (by omega), va_up_ne _ _ (by omega), va_up_ne _ _ (by omega)]
theorem rf_off_wk {f : mm_A} {n m : Nat} {tm : Int32} : rf_off f (rf_wk n tm f m) := by
  unfold rf_wk
  split
  · exact rf_off.rf
  · split
    · exact rf_off_less.tr rf_off_done
    · exact rf_off_less
theorem rf_off_work {f : mm_A} {n : Nat} {tm : Int32} : ∀ k, rf_off f (rf_work n tm f k)
  | 0 => rf_off.rf
  | k + 1 => (rf_off_work k).tr rf_off_wk
theorem rf_off_tick {f : mm_A} {n : Nat} {tm : Int32} : rf_off f (rf_tickf n tm f) := by
  unfold rf_tickf
  exact (rf_off_give 3).tr (rf_off_work 3)
theorem rf_off_pass {f : mm_A} {n : Nat} {tm : Int32} : ∀ q, rf_off f (rf_passf n tm f q)
  | 0 => by rw [rf_passf]; exact rf_off.rf
  | q + 1 => by rw [rf_passf]; exact (rf_off_pass q).tr rf_off_tick
theorem rf_firstL_w (f : mm_A) (n mc : Nat) (b : Bool) : ∀ (j : Nat) (its : Int32), j ≤ n → (its = -1 ∨ ∃ i, i < n ∧ its = nI i ∧ f 20 i = -1) → (rf_firstL f mc b j its = -1 ∨ ∃ i, i < n ∧ rf_firstL f mc b j its = nI i ∧ f 20 i = -1)
  | 0, _, _, h => h
  | j + 1, its, hj, h => by
    rw [rf_firstL]
    refine rf_firstL_w f n mc b j _ (by omega) ?_
    split
    · rename_i h9
      exact Or.inr ⟨j, by omega, rfl, h9.1⟩
    · exact h
theorem rf_its_w (f : mm_A) (n mc : Nat) : rf_its f n mc = -1 ∨ ∃ i, i < n ∧ rf_its f n mc = nI i ∧ f 20 i = -1 := by
  unfold rf_its
  split
  · exact rf_firstL_w f n mc false n (-1) (Nat.le_refl _) (Or.inl rfl)
  · exact rf_firstL_w f n mc true n (-1) (Nat.le_refl _) (Or.inl rfl)
theorem cr_E.takes {f : mm_A} {nJ nO mc : Nat} (hJ : nJ ≤ 96) (hm : mc < 3) (h : cr_E f nJ nO) : cr_E (rf_takes f nJ mc) nJ nO := by
  rcases rf_its_w f nJ mc with e | ⟨i, hi, e, e2⟩
  · rw [rf_takes, if_pos e]; exact h
  · rw [rf_takes, if_neg (by rw [e]; exact nI_neg1 (by omega)), e, rf_n_nI (by omega)]
    intro o ho h9
    rw [rf_left_put hm e2] at h9
    exact h o ho h9
theorem cr_E.give {f : mm_A} {nJ nO : Nat} (hJ : nJ ≤ 96) (h : cr_E f nJ nO) : ∀ k, k ≤ 3 → cr_E (rf_give f nJ k) nJ nO
  | 0, _ => h
  | k + 1, hk => by
    rw [rf_give_s]
    split
    · exact (cr_E.give hJ h k (by omega)).takes hJ (by omega)
    · exact cr_E.give hJ h k (by omega)
theorem rf_left_ne {f : mm_A} {o v : Int32} {i : Nat} (h : ¬ f 17 i = o) : ∀ n, rf_left (va_up f 20 (upd (f 20) i v)) o n = rf_left f o n
  | 0 => rfl
  | n + 1 => by
    rw [rf_left, rf_left, rf_left_ne h n]
    show _ + (if f 17 n = o ∧ ¬ upd (f 20) i v n = -2 then 1 else 0) = _
    by_cases e : n = i
    · subst e
      rw [if_neg (fun q => h q.1), if_neg (fun q => h q.1)]
    · rw [pk_un e]
theorem cr_E.wk {f : mm_A} {nJ nO m : Nat} {tm : Int32} (hJ : nJ ≤ 96) (hO : nO ≤ 12) (hj : rf_jok f nJ nO) (hm : m < 3) (ht : ¬ tm = -1) (h : cr_E f nJ nO) : cr_E (rf_wk nJ tm f m) nJ nO := by
  unfold rf_wk
  split
  · exact h
  · rename_i h23
    split
    · obtain ⟨i, hi, e23⟩ := (hj.1 m hm).resolve_left h23
      obtain ⟨o', ho', e17⟩ := hj.2 i hi
      rw [e23, rf_n_nI (by omega)]
      have e9 : rf_n ((rf_less f m) 17 i) = o' := by show rf_n (f 17 i) = o'; rw [e17, rf_n_nI (by omega)]
      intro o ho h9
      have h8 : rf_left (va_up (rf_less f m) 20 (upd ((rf_less f m) 20) i (-2))) (nI o) nJ = 0 := by rw [← h9]; exact rf_left_cg nJ (fun j hj9 => ⟨rfl, Iff.rfl⟩)
      show ¬ upd ((rf_less f m) 13) (rf_n ((rf_less f m) 17 i)) (if rf_left (va_up (rf_less f m) 20 (upd ((rf_less f m) 20) i (-2))) ((rf_less f m) 17 i) nJ = 0 then tm else -1) o = -1
      rw [e9]
      by_cases q : o = o'
      · subst q
        rw [pk_us, show (rf_less f m) 17 i = nI o from e17, if_pos h8]; exact ht
      · rw [pk_un q]
        have h7 : ¬ (rf_less f m) 17 i = nI o := by
          show ¬ f 17 i = nI o
          rw [e17]; exact fun z => q ((nI_eq (by omega) (by omega)).mp z).symm
        rw [rf_left_ne h7] at h8
        refine h o ho ?_
        rw [← h8]; exact rf_left_cg nJ (fun j hj9 => ⟨rfl, Iff.rfl⟩)
    · intro o ho h9
      refine h o ho ?_
      rw [← h9]; exact rf_left_cg nJ (fun j hj9 => ⟨rfl, Iff.rfl⟩)
theorem cr_E.work {f : mm_A} {nJ nO : Nat} {tm : Int32} (hJ : nJ ≤ 96) (hO : nO ≤ 12) (hj : rf_jok f nJ nO) (ht : ¬ tm = -1) (h : cr_E f nJ nO) : ∀ k, k ≤ 3 → cr_E (rf_work nJ tm f k) nJ nO
  | 0, _ => h
  | k + 1, hk => (cr_E.work hJ hO hj ht h k (by omega)).wk hJ hO (rf_jok_work hj k) (by omega) ht
theorem cr_E.tick {f : mm_A} {nJ nO : Nat} {tm : Int32} (hJ : nJ ≤ 96) (hO : nO ≤ 12) (hj : rf_jok f nJ nO) (ht : ¬ tm + 1 = -1) (h : cr_E f nJ nO) : cr_E (rf_tickf nJ tm f) nJ nO := by
  unfold rf_tickf
  exact (h.give hJ 3 (Nat.le_refl _)).work hJ hO (rf_jok_give hJ hj 3) ht 3 (Nat.le_refl _)
theorem cr_E.pass {f : mm_A} {nJ nO T : Nat} (hJ : nJ ≤ 96) (hO : nO ≤ 12) (hj : rf_jok f nJ nO) (h : cr_E f nJ nO) : ∀ q, T + q < 2 ^ 31 → cr_E (rf_passf nJ (nI T) f q) nJ nO
  | 0, _ => by rw [rf_passf]; exact h
  | q + 1, hq => by
    rw [rf_passf]
    exact (cr_E.pass (T := T) hJ hO hj h q (by omega)).tick hJ hO (rf_jok_pass hJ hj q) (by rw [nI_add, nI_1]; exact nI_neg1 (by omega))
