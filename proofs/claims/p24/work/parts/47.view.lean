/-! What the property needs of the workshop's memory, beyond the relation: machines, jobs, times of orders. -/
def pv_M (f : mm_A) (nC nJ : Nat) : Prop := ∀ m, m < 3 → (f 22 m = -1 ∨ ∃ c, c < nC ∧ f 22 m = nI c) ∧ (f 23 m = -1 ∨ ∃ i, i < nJ ∧ f 23 m = nI i ∧ f 20 i = nI m ∧ (∃ c, c < nC ∧ f 22 m = nI c) ∧ ∃ L, L ≤ 62 ∧ f 24 m = nI (L + 1)) ∧ ∀ k, k < 3 → k ≠ m → f 22 m = f 22 k → f 22 m = -1
def pv_J (f : mm_A) (nC nJ : Nat) : Prop := ∀ j, j < nJ → (∃ c, c < nC ∧ f 18 j = nI c) ∧ (∃ te, 8 ≤ te ∧ te ≤ 60 ∧ f 19 j = nI te) ∧ (f 20 j = -1 ∨ f 20 j = -2 ∨ ∃ m, m < 3 ∧ f 20 j = nI m ∧ f 23 m = nI j)
def pv_D (f : mm_A) (nO T : Nat) : Prop := ∀ o, o < nO → f 13 o = -1 ∨ ∃ t, t ≤ T ∧ f 13 o = nI t
theorem pv_D.mono {f : mm_A} {nO T T' : Nat} (h : pv_D f nO T) (ht : T ≤ T') : pv_D f nO T' := fun o ho => (h o ho).elim Or.inl (fun ⟨t, h1, h2⟩ => Or.inr ⟨t, Nat.le_trans h1 ht, h2⟩)
theorem pv_D.off {f g : mm_A} {nO T : Nat} (h : pv_D f nO T) (e : g 13 = f 13) : pv_D g nO T := fun o ho => by rw [e]; exact h o ho
theorem pv_M.off {f g : mm_A} {nC nC' nJ : Nat} (h : pv_M f nC nJ) (hc : nC ≤ nC') (e20 : g 20 = f 20) (e22 : g 22 = f 22) (e23 : g 23 = f 23) (e24 : g 24 = f 24) : pv_M g nC' nJ := by
  intro m hm
  rw [e20, e22, e23, e24]
  obtain ⟨h1, h2, h3⟩ := h m hm
  refine ⟨h1.elim Or.inl (fun ⟨c, a, b⟩ => Or.inr ⟨c, by omega, b⟩), h2.elim Or.inl (fun ⟨i, a, b, c, ⟨d, e, k⟩, l⟩ => Or.inr ⟨i, a, b, c, ⟨d, by omega, k⟩, l⟩), h3⟩
theorem pv_J.off {f g : mm_A} {nC nC' nJ : Nat} (h : pv_J f nC nJ) (hc : nC ≤ nC') (e18 : g 18 = f 18) (e19 : g 19 = f 19) (e20 : g 20 = f 20) (e23 : g 23 = f 23) : pv_J g nC' nJ := by
  intro j hj
  rw [e18, e19, e20, e23]
  obtain ⟨⟨c, a, b⟩, h2⟩ := h j hj
  exact ⟨⟨c, by omega, b⟩, h2⟩
/-! a job is given out -/
theorem pv_put {f : mm_A} {nC nJ mc i ex : Nat} (hJ : nJ ≤ 96) (hM : pv_M f nC nJ) (hj : pv_J f nC nJ) (hm : mc < 3) (h23 : f 23 mc = -1) (hi : i < nJ) (h20 : f 20 i = -1) (hex : ex ≤ 3) (hcu : f 18 i = f 22 mc ∨ ∀ k, k < 3 → f 22 k ≠ f 18 i) : pv_M (rf_put f mc i ex) nC nJ ∧ pv_J (rf_put f mc i ex) nC nJ := by
  obtain ⟨⟨c, hc, e18⟩, ⟨te, t1, t2, e19⟩, -⟩ := hj i hi
  have a22 : ∀ k, rf_put f mc i ex 22 k = upd (f 22) mc (f 18 i) k := fun k => rfl
  have a23 : ∀ k, rf_put f mc i ex 23 k = upd (f 23) mc (nI i) k := fun k => rfl
  have a24 : ∀ k, rf_put f mc i ex 24 k = upd (f 24) mc (f 19 i + nI ex) k := fun k => rfl
  have a20 : ∀ k, rf_put f mc i ex 20 k = upd (f 20) i (nI mc) k := fun k => rfl
  have a18 : rf_put f mc i ex 18 = f 18 := rfl
  have a19 : rf_put f mc i ex 19 = f 19 := rfl
  constructor
  · intro m hm3
    rw [a22, a23, a24]
    by_cases e : m = mc
    · subst e
      rw [pk_us, pk_us, pk_us]
      refine ⟨Or.inr ⟨c, hc, e18⟩, Or.inr ⟨i, hi, rfl, by rw [a20, pk_us], ⟨c, hc, e18⟩, te + ex - 1, by omega, by rw [e19, nI_add]; congr 1; omega⟩, fun k hk hne h => ?_⟩
      rw [a22, pk_un hne] at h
      rcases hcu with z | z
      · rw [z] at h ⊢; exact (hM m hm3).2.2 k hk hne h
      · exact absurd h.symm (z k hk)
    · rw [pk_un e, pk_un e, pk_un e]
      obtain ⟨g1, g2, g3⟩ := hM m hm3
      refine ⟨g1, ?_, fun k hk hne h => ?_⟩
      · rcases g2 with g2 | ⟨i', hi', b1, b2, b3⟩
        · exact Or.inl g2
        · refine Or.inr ⟨i', hi', b1, ?_, b3⟩
          rw [a20, pk_un (fun q => by rw [q, h20] at b2; exact nI_neg1 (by omega) b2.symm)]; exact b2
      · rw [a22] at h
        by_cases e2 : k = mc
        · rw [e2, pk_us] at h
          rcases hcu with z | z
          · rw [z] at h; exact g3 mc hm (fun q => e q.symm) h
          · exact absurd h (z m hm3)
        · rw [pk_un e2] at h; exact g3 k hk hne h
  · intro j hj9
    obtain ⟨b1, b2, b3⟩ := hj j hj9
    refine ⟨by rw [a18]; exact b1, by rw [a19]; exact b2, ?_⟩
    rw [a20]
    by_cases e : j = i
    · rw [e, pk_us]; exact Or.inr (Or.inr ⟨mc, hm, rfl, by rw [a23, pk_us]⟩)
    · rw [pk_un e]
      rcases b3 with b3 | b3 | ⟨m, m1, m2, m3⟩
      · exact Or.inl b3
      · exact Or.inr (Or.inl b3)
      · refine Or.inr (Or.inr ⟨m, m1, m2, ?_⟩)
        rw [a23, pk_un (fun q => by rw [q, h23] at m3; exact nI_neg1 (by omega) m3.symm)]; exact m3
theorem rf_firstL_c (f : mm_A) (n mc : Nat) (b : Bool) : ∀ (j : Nat) (its : Int32), j ≤ n → (its = -1 ∨ ∃ i, i < n ∧ its = nI i ∧ f 20 i = -1 ∧ rf_can f mc b i = true) → (rf_firstL f mc b j its = -1 ∨ ∃ i, i < n ∧ rf_firstL f mc b j its = nI i ∧ f 20 i = -1 ∧ rf_can f mc b i = true)
  | 0, _, _, h => h
  | j + 1, its, hj, h => by
    rw [rf_firstL]
    refine rf_firstL_c f n mc b j _ (by omega) ?_
    split
    · rename_i h9
      exact Or.inr ⟨j, by omega, rfl, h9.1, h9.2⟩
    · exact h
theorem rf_first_c (f : mm_A) (n mc : Nat) (b : Bool) : rf_first f n mc b = -1 ∨ ∃ i, i < n ∧ rf_first f n mc b = nI i ∧ f 20 i = -1 ∧ rf_can f mc b i = true := rf_firstL_c f n mc b n (-1) (Nat.le_refl _) (Or.inl rfl)
theorem rf_on_f {f : mm_A} {c : Int32} : ∀ n, rf_on f c n = false → ∀ k, k < n → f 22 k ≠ c
  | 0, _, k, hk => absurd hk (Nat.not_lt_zero _)
  | n + 1, h, k, hk => by
    rw [rf_on, Bool.or_eq_false_iff] at h
    rcases Nat.eq_or_lt_of_le (Nat.le_of_lt_succ hk) with e | e
    · rw [e]; exact of_decide_eq_false h.2
    · exact rf_on_f n h.1 k e
theorem pv_takes {f : mm_A} {nC nJ mc : Nat} (hJ : nJ ≤ 96) (hM : pv_M f nC nJ) (hj : pv_J f nC nJ) (hm : mc < 3) (h23 : f 23 mc = -1) : pv_M (rf_takes f nJ mc) nC nJ ∧ pv_J (rf_takes f nJ mc) nC nJ := by
  rcases rf_first_c f nJ mc true with e | ⟨i, hi, e, e20, ec⟩
  · have eits : rf_its f nJ mc = rf_first f nJ mc false := by rw [rf_its, if_pos e]
    rcases rf_first_c f nJ mc false with e2 | ⟨i, hi, e2, e20, ec⟩
    · rw [rf_takes, eits, if_pos e2]; exact ⟨hM, hj⟩
    · rw [rf_takes, eits, e2, if_neg (nI_neg1 (by omega)), rf_n_nI (by omega), if_pos e]
      exact pv_put hJ hM hj hm h23 hi e20 (by decide) (Or.inr (fun k hk => rf_on_f 3 (by simpa [rf_can] using ec) k hk))
  · have e0 : ¬ rf_first f nJ mc true = -1 := by rw [e]; exact nI_neg1 (by omega)
    have eits : rf_its f nJ mc = nI i := by rw [rf_its, if_neg e0]; exact e
    rw [rf_takes, eits, if_neg (nI_neg1 (by omega)), rf_n_nI (by omega), if_neg e0]
    exact pv_put hJ hM hj hm h23 hi e20 (by decide) (Or.inl (by simpa [rf_can] using ec))
theorem pv_give {f : mm_A} {nC nJ : Nat} (hJ : nJ ≤ 96) (hM : pv_M f nC nJ) (hj : pv_J f nC nJ) : ∀ k, k ≤ 3 → pv_M (rf_give f nJ k) nC nJ ∧ pv_J (rf_give f nJ k) nC nJ
  | 0, _ => ⟨hM, hj⟩
  | k + 1, hk => by
    obtain ⟨h1, h2⟩ := pv_give hJ hM hj k (by omega)
    rw [rf_give_s]
    split
    · rename_i h23
      exact pv_takes hJ h1 h2 (by omega) h23
    · exact ⟨h1, h2⟩
/-! a tick's work -/
theorem pv_wk {f : mm_A} {nC nJ m : Nat} {tm : Int32} (hJ : nJ ≤ 96) (hM : pv_M f nC nJ) (hj : pv_J f nC nJ) (hm : m < 3) : pv_M (rf_wk nJ tm f m) nC nJ ∧ pv_J (rf_wk nJ tm f m) nC nJ := by
  by_cases h23 : f 23 m = -1
  · rw [rf_wk, if_pos h23]; exact ⟨hM, hj⟩
  · obtain ⟨g1, g2, g3⟩ := hM m hm
    obtain ⟨i, hi, e23, e20, e22, L, hL, e24⟩ := g2.resolve_left h23
    by_cases h24 : f 24 m - 1 = 0
    · rw [rf_wk, if_neg h23, if_pos h24, e23, rf_n_nI (by omega)]
      have a18 : rf_done (rf_less f m) nJ tm m i 18 = f 18 := rfl
      have a19 : rf_done (rf_less f m) nJ tm m i 19 = f 19 := rfl
      have a22 : rf_done (rf_less f m) nJ tm m i 22 = f 22 := rfl
      have a20 : ∀ k, rf_done (rf_less f m) nJ tm m i 20 k = upd (f 20) i (-2) k := fun k => rfl
      have a23 : ∀ k, rf_done (rf_less f m) nJ tm m i 23 k = upd (f 23) m (-1) k := fun k => rfl
      have a24 : ∀ k, rf_done (rf_less f m) nJ tm m i 24 k = upd (f 24) m (f 24 m - 1) k := fun k => rfl
      refine ⟨fun m' hm' => ?_, fun j hj' => ?_⟩
      · obtain ⟨k1, k2, k3⟩ := hM m' hm'
        rw [a22]
        refine ⟨k1, ?_, k3⟩
        rw [a23, a24]
        by_cases e : m' = m
        · rw [e, pk_us]; exact Or.inl rfl
        · rw [pk_un e, pk_un e]
          rcases k2 with k2 | ⟨i', q1, q2, q3, q4⟩
          · exact Or.inl k2
          · refine Or.inr ⟨i', q1, q2, ?_, q4⟩
            rw [a20, pk_un (fun q => e ?_)]
            · exact q3
            · rw [q, e20] at q3
              exact ((nI_eq (by omega) (by omega)).mp q3).symm
      · obtain ⟨b1, b2, b3⟩ := hj j hj'
        refine ⟨by rw [a18]; exact b1, by rw [a19]; exact b2, ?_⟩
        rw [a20]
        by_cases e : j = i
        · rw [e, pk_us]; exact Or.inr (Or.inl rfl)
        · rw [pk_un e]
          rcases b3 with b3 | b3 | ⟨m', p1, p2, p3⟩
          · exact Or.inl b3
          · exact Or.inr (Or.inl b3)
          · refine Or.inr (Or.inr ⟨m', p1, p2, ?_⟩)
            rw [a23, pk_un (fun q => e ?_)]
            · exact p3
            · rw [q, e23] at p3
              exact ((nI_eq (by omega) (by omega)).mp p3).symm
    · rw [rf_wk, if_neg h23, if_neg h24]
      have a24 : ∀ k, rf_less f m 24 k = upd (f 24) m (f 24 m - 1) k := fun k => rfl
      rw [e24, nI_pred] at h24
      have hL0 : 0 < L := Nat.pos_of_ne_zero (fun z => h24 (by rw [z]; rfl))
      refine ⟨fun m' hm' => ?_, hj⟩
      obtain ⟨k1, k2, k3⟩ := hM m' hm'
      refine ⟨k1, ?_, k3⟩
      rw [a24]
      by_cases e : m' = m
      · rw [e, pk_us]
        exact Or.inr ⟨i, hi, e23, e20, e22, L - 1, by omega, by rw [e24, nI_pred]; congr 1; omega⟩
      · rw [pk_un e]
        exact k2
theorem pv_work {f : mm_A} {nC nJ : Nat} {tm : Int32} (hJ : nJ ≤ 96) (hM : pv_M f nC nJ) (hj : pv_J f nC nJ) : ∀ k, k ≤ 3 → pv_M (rf_work nJ tm f k) nC nJ ∧ pv_J (rf_work nJ tm f k) nC nJ
  | 0, _ => ⟨hM, hj⟩
  | k + 1, hk => by
    obtain ⟨h1, h2⟩ := pv_work hJ hM hj k (by omega)
    rw [rf_work_s]
    exact pv_wk hJ h1 h2 (by omega)
theorem pv_D_give {f : mm_A} {nJ nO T : Nat} (h : pv_D f nO T) : ∀ k, pv_D (rf_give f nJ k) nO T
  | 0 => h
  | k + 1 => by
    have h1 := pv_D_give (nJ := nJ) h k
    rw [rf_give_s]
    split
    · refine h1.off ?_
      unfold rf_takes
      split <;> rfl
    · exact h1
theorem pv_D_wk {f : mm_A} {nJ nO T m : Nat} (h : pv_D f nO T) : pv_D (rf_wk nJ (nI T) f m) nO T := by
  unfold rf_wk
  split
  · exact h
  · split
    · intro o ho
      have key : ∀ (q : Nat) (v : Int32), (v = nI T ∨ v = -1) → (upd (f 13) q v o = -1 ∨ ∃ t, t ≤ T ∧ upd (f 13) q v o = nI t) := by
        intro q v hv
        by_cases e : o = q
        · rw [e, pk_us]
          rcases hv with hv | hv
          · exact Or.inr ⟨T, Nat.le_refl _, hv⟩
          · exact Or.inl hv
        · rw [pk_un e]; exact h o ho
      refine key (rf_n (f 17 (rf_n (f 23 m)))) (if rf_left (va_up (rf_less f m) 20 (upd ((rf_less f m) 20) (rf_n (f 23 m)) (-2))) ((rf_less f m) 17 (rf_n (f 23 m))) nJ = 0 then nI T else -1) ?_
      split
      · exact Or.inl rfl
      · exact Or.inr rfl
    · exact h
theorem pv_D_work {f : mm_A} {nJ nO T : Nat} (h : pv_D f nO T) : ∀ k, pv_D (rf_work nJ (nI T) f k) nO T
  | 0 => h
  | k + 1 => by rw [rf_work_s]; exact pv_D_wk (pv_D_work h k)
theorem pv_pass {f : mm_A} {nC nJ nO T : Nat} (hJ : nJ ≤ 96) (hM : pv_M f nC nJ) (hj : pv_J f nC nJ) (hD : pv_D f nO T) : ∀ q, pv_M (rf_passf nJ (nI T) f q) nC nJ ∧ pv_J (rf_passf nJ (nI T) f q) nC nJ ∧ pv_D (rf_passf nJ (nI T) f q) nO (T + q)
  | 0 => ⟨hM, hj, hD⟩
  | q + 1 => by
    obtain ⟨h1, h2, h3⟩ := pv_pass hJ hM hj hD q
    rw [rf_passf, rf_tickf, nI_add, nI_1]
    obtain ⟨a1, a2⟩ := pv_give hJ h1 h2 3 (Nat.le_refl _)
    obtain ⟨b1, b2⟩ := pv_work (tm := nI (T + q + 1)) hJ a1 a2 3 (Nat.le_refl _)
    exact ⟨b1, b2, pv_D_work ((pv_D_give h3 3).mono (Nat.le_succ _)) 3⟩
theorem rf_passn_le (nJ : Nat) (tm : Int32) (f : mm_A) : ∀ q, rf_passn nJ tm f q ≤ 3 * q
  | 0 => Nat.le_refl _
  | q + 1 => by
    have h := rf_passn_le nJ tm f q
    have hc : ∀ (t : Int32) (g : mm_A) k, rf_cnt nJ t g k ≤ k := fun t g k => by
      induction k with
      | zero => exact Nat.le_refl _
      | succ k ih =>
        rw [rf_cnt_s]
        have : rf_wc (rf_work nJ t g k) k ≤ 1 := by
          unfold rf_wc
          split
          · omega
          · split <;> omega
        omega
    have h2 := hc (tm + nI q + 1) (rf_give (rf_passf nJ tm f q) nJ 3) 3
    rw [rf_passn, rf_tickn]
    omega
/-! how many jobs an order has -/
def rf_jc (f : mm_A) (o : Int32) : Nat → Nat
  | 0 => 0
  | k + 1 => rf_jc f o k + (if f 17 k = o then 1 else 0)
theorem rf_left_jc (f : mm_A) (o : Int32) : ∀ n, rf_left f o n ≤ rf_jc f o n
  | 0 => Nat.le_refl _
  | n + 1 => by
    have h := rf_left_jc f o n
    rw [rf_left, rf_jc]
    by_cases e : f 17 n = o
    · rw [if_pos e]
      split <;> omega
    · rw [if_neg e, if_neg (fun q => e q.1)]
      omega
theorem rf_jc_cg {f g : mm_A} {o : Int32} : ∀ n, (∀ k, k < n → g 17 k = f 17 k) → rf_jc g o n = rf_jc f o n
  | 0, _ => rfl
  | n + 1, h => by rw [rf_jc, rf_jc, rf_jc_cg n (fun k hk => h k (by omega)), h n (by omega)]
theorem rf_jc_0 {f : mm_A} {o : Int32} : ∀ n, (∀ k, k < n → f 17 k ≠ o) → rf_jc f o n = 0
  | 0, _ => rfl
  | n + 1, h => by rw [rf_jc, rf_jc_0 n (fun k hk => h k (by omega)), if_neg (h n (by omega))]
theorem rf_jc_add {f : mm_A} {o : Int32} (a : Nat) : ∀ b, rf_jc f o (a + b) ≤ rf_jc f o a + b
  | 0 => Nat.le_refl _
  | b + 1 => by
    have h := rf_jc_add (f := f) (o := o) a b
    rw [← Nat.add_assoc, rf_jc]
    split <;> omega
theorem rf_jc_add0 {f : mm_A} {o : Int32} (a : Nat) : ∀ b, (∀ k, a ≤ k → k < a + b → f 17 k ≠ o) → rf_jc f o (a + b) = rf_jc f o a
  | 0, _ => rfl
  | b + 1, h => by
    rw [← Nat.add_assoc, rf_jc, rf_jc_add0 a b (fun k h1 h2 => h k h1 (by omega)), if_neg (h (a + b) (by omega) (by omega))]
    rfl
def pv_K (f : mm_A) (nO nJ : Nat) : Prop := ∀ o, o < nO → rf_jc f (nI o) nJ ≤ 8
/-! the jobs that are not cut: waiting ones, and one a machine with a job -/
def rf_sl (f : mm_A) (nJ : Nat) : Nat → Nat
  | 0 => 0
  | n + 1 => rf_sl f nJ n + rf_left f (nI n) nJ
def rf_nd (f : mm_A) : Nat → Nat
  | 0 => 0
  | k + 1 => rf_nd f k + (if f 20 k = -2 then 0 else 1)
def rf_bs (f : mm_A) : Nat → Nat
  | 0 => 0
  | m + 1 => rf_bs f m + (if f 23 m = -1 then 0 else 1)
theorem rf_sl_0 (f : mm_A) : ∀ n, rf_sl f 0 n = 0
  | 0 => rfl
  | n + 1 => by rw [rf_sl, rf_sl_0 f n]; rfl
theorem rf_sl_s (f : mm_A) (k : Nat) {o : Nat} (ho : f 17 k = nI o) : ∀ n, n ≤ 1000 → o ≤ 1000 → rf_sl f (k + 1) n = rf_sl f k n + (if o < n ∧ ¬ f 20 k = -2 then 1 else 0)
  | 0, _, _ => by rw [if_neg (fun q => Nat.not_lt_zero _ q.1)]; rfl
  | n + 1, hn, hO => by
    rw [rf_sl, rf_sl, rf_sl_s f k ho n (by omega) hO, rf_left, ho]
    by_cases e : o = n
    · subst e
      by_cases z : f 20 k = -2
      · rw [if_neg (fun q => q.2 z), if_neg (fun q => q.2 z), if_neg (fun q => q.2 z)]; omega
      · rw [if_neg (fun q => by omega), if_pos ⟨rfl, z⟩, if_pos ⟨by omega, z⟩]; omega
    · have e2 : ¬ nI o = nI n := fun q => e (nI_j hO (by omega) q)
      rw [if_neg (c := nI o = nI n ∧ ¬ f 20 k = -2) (fun q => e2 q.1)]
      by_cases z : o < n ∧ ¬ f 20 k = -2
      · rw [if_pos z, if_pos ⟨by omega, z.2⟩]; omega
      · rw [if_neg z, if_neg (fun q => z ⟨by omega, q.2⟩)]; omega
theorem rf_sl_nd {f : mm_A} {nO : Nat} (hO : nO ≤ 12) : ∀ n, (∀ i, i < n → ∃ o, o < nO ∧ f 17 i = nI o) → rf_sl f n nO = rf_nd f n
  | 0, _ => rf_sl_0 f nO
  | n + 1, h => by
    obtain ⟨o, ho, e⟩ := h n (by omega)
    rw [rf_sl_s f n e nO (by omega) (by omega), rf_sl_nd hO n (fun i hi => h i (by omega)), rf_nd]
    by_cases z : f 20 n = -2
    · rw [if_neg (fun q => q.2 z), if_pos z]
    · rw [if_pos ⟨ho, z⟩, if_neg z]
/-- machine m has one of the jobs ahead of k -/
def rf_wm (f : mm_A) (m k : Nat) : Nat := if ¬ f 23 m = -1 ∧ rf_n (f 23 m) < k then 1 else 0
theorem rf_wm_s (f : mm_A) (m k : Nat) : rf_wm f m (k + 1) = rf_wm f m k + (if ¬ f 23 m = -1 ∧ rf_n (f 23 m) = k then 1 else 0) := by
  unfold rf_wm
  by_cases a : f 23 m = -1
  · rw [if_neg (fun q => q.1 a), if_neg (fun q => q.1 a), if_neg (fun q => q.1 a)]
  · by_cases b : rf_n (f 23 m) = k
    · rw [if_pos ⟨a, by omega⟩, if_neg (fun q => by omega), if_pos ⟨a, b⟩]
    · by_cases d : rf_n (f 23 m) < k
      · rw [if_pos ⟨a, by omega⟩, if_pos ⟨a, d⟩, if_neg (fun q => b q.2)]
      · rw [if_neg (fun q => by omega), if_neg (fun q => d q.2), if_neg (fun q => b q.2)]
theorem rf_nd_s {f : mm_A} {nC nJ : Nat} (hJ : nJ ≤ 96) (hM : pv_M f nC nJ) (hj : pv_J f nC nJ) : ∀ k, k ≤ nJ → rf_nd f k = rf_wait f k + (rf_wm f 0 k + rf_wm f 1 k + rf_wm f 2 k)
  | 0, _ => by
    have h : ∀ m, rf_wm f m 0 = 0 := fun m => if_neg (fun q => Nat.not_lt_zero _ q.2)
    rw [h, h, h]; rfl
  | k + 1, hk => by
    rw [rf_nd, rf_wait_s, rf_nd_s hJ hM hj k (by omega), rf_wm_s, rf_wm_s, rf_wm_s]
    have no : (f 20 k = -1 ∨ f 20 k = -2) → ∀ m, m < 3 → ¬ (¬ f 23 m = -1 ∧ rf_n (f 23 m) = k) := by
      intro h m hm q
      obtain ⟨i, hi, e23, e20, -⟩ := (hM m hm).2.1.resolve_left q.1
      rw [e23, rf_n_nI (by omega)] at q
      rw [← q.2, e20] at h
      exact h.elim (nI_neg1 (by omega)) (nI_neg2 (by omega))
    rcases (hj k (by omega)).2.2 with z | z | ⟨m, m1, m2, m3⟩
    · rw [if_neg (by rw [z]; decide), if_pos z, if_neg (no (Or.inl z) 0 (by decide)), if_neg (no (Or.inl z) 1 (by decide)), if_neg (no (Or.inl z) 2 (by decide))]
      omega
    · rw [if_pos z, if_neg (by rw [z]; decide), if_neg (no (Or.inr z) 0 (by decide)), if_neg (no (Or.inr z) 1 (by decide)), if_neg (no (Or.inr z) 2 (by decide))]
      omega
    · have yes : ¬ f 23 m = -1 ∧ rf_n (f 23 m) = k := ⟨by rw [m3]; exact nI_neg1 (by omega), by rw [m3, rf_n_nI (by omega)]⟩
      have oth : ∀ m', m' < 3 → m' ≠ m → ¬ (¬ f 23 m' = -1 ∧ rf_n (f 23 m') = k) := by
        intro m' hm' hne q
        obtain ⟨i, hi, e23, e20, -⟩ := (hM m' hm').2.1.resolve_left q.1
        rw [e23, rf_n_nI (by omega)] at q
        rw [q.2, m2] at e20
        exact hne ((nI_eq (by omega) (by omega)).mp e20).symm
      rw [if_neg (by rw [m2]; exact nI_neg2 (by omega)), if_neg (by rw [m2]; exact nI_neg1 (by omega))]
      rcases (show m = 0 ∨ m = 1 ∨ m = 2 by omega) with rfl | rfl | rfl
      · rw [if_pos yes, if_neg (oth 1 (by decide) (by decide)), if_neg (oth 2 (by decide) (by decide))]; omega
      · rw [if_pos yes, if_neg (oth 0 (by decide) (by decide)), if_neg (oth 2 (by decide) (by decide))]; omega
      · rw [if_pos yes, if_neg (oth 0 (by decide) (by decide)), if_neg (oth 1 (by decide) (by decide))]; omega
/-- the sum that areJobs makes -/
theorem pv_sum {f : mm_A} {nC nJ nO : Nat} (hJ : nJ ≤ 96) (hO : nO ≤ 12) (hM : pv_M f nC nJ) (hj : pv_J f nC nJ) (hk : ∀ i, i < nJ → ∃ o, o < nO ∧ f 17 i = nI o) : rf_wait f nJ + rf_bs f 3 = rf_sl f nJ nO := by
  rw [rf_sl_nd hO nJ hk, rf_nd_s hJ hM hj nJ (Nat.le_refl _)]
  have h : ∀ m, m < 3 → rf_wm f m nJ = if f 23 m = -1 then 0 else 1 := by
    intro m hm
    unfold rf_wm
    by_cases e : f 23 m = -1
    · rw [if_pos e, if_neg (fun q => q.1 e)]
    · obtain ⟨i, hi, e23, -⟩ := (hM m hm).2.1.resolve_left e
      rw [if_neg e, if_pos ⟨e, by rw [e23, rf_n_nI (by omega)]; exact hi⟩]
  rw [h 0 (by decide), h 1 (by decide), h 2 (by decide)]
  show _ + (0 + (if f 23 0 = -1 then 0 else 1) + (if f 23 1 = -1 then 0 else 1) + (if f 23 2 = -1 then 0 else 1)) = _
  rw [Nat.zero_add]
theorem rf_sl_le {f : mm_A} {nJ nO : Nat} (hK : pv_K f nO nJ) : ∀ n, n ≤ nO → rf_sl f nJ n ≤ 8 * n
  | 0, _ => Nat.le_refl _
  | n + 1, hn => by
    have h := rf_sl_le hK n (by omega)
    have h2 := hK n (by omega)
    have h3 := rf_left_jc f (nI n) nJ
    rw [rf_sl]; omega
theorem rf_bs_le (f : mm_A) : ∀ m, rf_bs f m ≤ m
  | 0 => Nat.le_refl _
  | m + 1 => by
    have h := rf_bs_le f m
    rw [rf_bs]
    split <;> omega
