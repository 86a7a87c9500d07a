/-! The workshop's relation, and what giving and working do to it: words alone. -/
theorem rf_firstL_no (f : mm_A) (mc : Nat) (b : Bool) : ∀ (j : Nat) (its : Int32), (∀ i, i < j → ¬ (f 20 i = -1 ∧ rf_can f mc b i = true)) → rf_firstL f mc b j its = its
  | 0, _, _ => rfl
  | j + 1, its, h => by
    rw [rf_firstL, if_neg (h j (by omega))]
    exact rf_firstL_no f mc b j its (fun i hi => h i (by omega))
theorem rf_firstL_yes (f : mm_A) (mc : Nat) (b : Bool) (i : Nat) (hc : f 20 i = -1 ∧ rf_can f mc b i = true) (hno : ∀ k, k < i → ¬ (f 20 k = -1 ∧ rf_can f mc b k = true)) : ∀ (j : Nat) (its : Int32), i < j → rf_firstL f mc b j its = nI i
  | 0, _, h => absurd h (Nat.not_lt_zero _)
  | j + 1, its, h => by
    rw [rf_firstL]
    rcases Nat.lt_or_ge i j with h1 | h1
    · exact rf_firstL_yes f mc b i hc hno j _ h1
    · have e : j = i := by omega
      subst e
      rw [if_pos hc]
      exact rf_firstL_no f mc b j _ hno
theorem nI_neg1 {i : Nat} (h : i < 2 ^ 31) : ¬ nI i = -1 := fun e => by have h9 := nI_pos' h; rw [e] at h9; exact absurd h9 (by decide)
theorem nI_neg2 {i : Nat} (h : i < 2 ^ 31) : ¬ nI i = -2 := fun e => by have h9 := nI_pos' h; rw [e] at h9; exact absurd h9 (by decide)
theorem rf_on_oth (f : mm_A) (mq : Nat) (c : Int32) (h : mq < 3) : rf_on f c 3 = (cl_oth f mq c 3 || decide (f 22 mq = c)) := by
  rcases (show mq = 0 ∨ mq = 1 ∨ mq = 2 by omega) with rfl | rfl | rfl <;> (simp only [rf_on, cl_oth]; generalize decide (f 22 0 = c) = a; generalize decide (f 22 1 = c) = b; generalize decide (f 22 2 = c) = d; cases a <;> cases b <;> cases d <;> rfl)
/-- the waiting row: nW places, the k-th of them the job wj k; all waiting jobs, in their order -/
def cr_R (f : mm_A) (nJ nW : Nat) (wj : Nat → Nat) : Prop := (∀ k, k < nW → wj k < nJ ∧ f 20 (wj k) = -1) ∧ (∀ j, j < nJ → f 20 j = -1 → ∃ k, k < nW ∧ wj k = j) ∧ ∀ k k', k < k' → k' < nW → wj k < wj k'
theorem cl_first {f : mm_A} {nJ nW mc : Nat} {b : Bool} {wj : Nat → Nat} {q : Nat → Bool} {r : Int32} (hR : cr_R f nJ nW wj) (hq : ∀ k, k < nW → q k = rf_can f mc b (wj k)) (h : cl_fst q nW r) : (r = -1 ∧ rf_first f nJ mc b = -1 ∧ ∀ k, k < nW → q k = false) ∨ ∃ k, k < nW ∧ r = nI k ∧ rf_first f nJ mc b = nI (wj k) := by
  obtain ⟨h1, h2, h3⟩ := hR
  rcases h with ⟨g1, g2⟩ | ⟨k, g1, g2, g3, g4⟩
  · refine Or.inl ⟨g1, rf_firstL_no f mc b nJ (-1) (fun i hi g => ?_), g2⟩
    obtain ⟨k, k1, k2⟩ := h2 i hi g.1
    have k3 := g2 k k1
    rw [hq k k1, k2, g.2] at k3
    cases k3
  · refine Or.inr ⟨k, g1, g2, rf_firstL_yes f mc b (wj k) ⟨(h1 k g1).2, by rw [← hq k g1]; exact g3⟩ (fun i hi g => ?_) nJ (-1) (h1 k g1).1⟩
    obtain ⟨k2, k3, k4⟩ := h2 i (Nat.lt_trans hi (h1 k g1).1) g.1
    have k5 : k2 < k := by
      rcases Nat.lt_or_ge k2 k with h9 | h9
      · exact h9
      · rcases Nat.eq_or_lt_of_le h9 with e | e
        · rw [← k4, ← e] at hi; omega
        · have := h3 k k2 e k3; omega
    have k6 := g4 k2 k5
    rw [hq k2 k3, k4, g.2] at k6
    cases k6
theorem rf_left_cg {f g : mm_A} {o : Int32} : ∀ n, (∀ k, k < n → f 17 k = g 17 k ∧ (f 20 k = -2 ↔ g 20 k = -2)) → rf_left f o n = rf_left g o n
  | 0, _ => rfl
  | n + 1, h => by
    rw [rf_left, rf_left, rf_left_cg n (fun k hk => h k (by omega)), (h n (by omega)).1]
    have h2 := (h n (by omega)).2
    by_cases e : f 20 n = -2
    · rw [if_neg (fun q => q.2 e), if_neg (fun q => q.2 (h2.mp e))]
    · have e2 : ¬ g 20 n = -2 := fun q => e (h2.mpr q)
      by_cases e3 : g 17 n = o
      · rw [if_pos ⟨e3, e⟩, if_pos ⟨e3, e2⟩]
      · rw [if_neg (fun q => e3 q.1), if_neg (fun q => e3 q.1)]
theorem rf_left_set {f : mm_A} {o : Int32} {i : Nat} (hi2 : ¬ f 20 i = -2) : ∀ n, i < n → rf_left f o n = rf_left (va_up f 20 (upd (f 20) i (-2))) o n + (if f 17 i = o then 1 else 0)
  | 0, h => absurd h (Nat.not_lt_zero _)
  | n + 1, h => by
    rw [rf_left, rf_left]
    rcases Nat.eq_or_lt_of_le (Nat.le_of_lt_succ h) with e | e
    · subst e
      have h1 : rf_left (va_up f 20 (upd (f 20) i (-2))) o i = rf_left f o i := rf_left_cg i (fun k hk => ⟨rfl, by show upd (f 20) i (-2) k = -2 ↔ _; rw [pk_un (by omega)]⟩)
      have h2 : ¬ ((va_up f 20 (upd (f 20) i (-2))) 17 i = o ∧ ¬ (va_up f 20 (upd (f 20) i (-2))) 20 i = -2) := fun q => q.2 (by show upd (f 20) i (-2) i = -2; exact pk_us)
      rw [if_neg h2, h1]
      by_cases e3 : f 17 i = o
      · rw [if_pos ⟨e3, hi2⟩, if_pos e3]
      · rw [if_neg (fun q => e3 q.1), if_neg e3]
    · rw [rf_left_set hi2 n e]
      have h3 : (if (va_up f 20 (upd (f 20) i (-2))) 17 n = o ∧ ¬ (va_up f 20 (upd (f 20) i (-2))) 20 n = -2 then 1 else 0) = (if f 17 n = o ∧ ¬ f 20 n = -2 then 1 else 0) := by
        have h4 : (va_up f 20 (upd (f 20) i (-2))) 20 n = f 20 n := by show upd (f 20) i (-2) n = _; exact pk_un (by omega)
        have h5 : (va_up f 20 (upd (f 20) i (-2))) 17 n = f 17 n := rfl
        rw [h4, h5]
      rw [h3]; omega
/-- the workshop's numbers hang together -/
def cr_I (f : mm_A) (nJ nO nW : Nat) (wj : Nat → Nat) : Prop := (nJ ≤ 96) ∧ (nO ≤ 12) ∧ (rf_jok f nJ nO) ∧ (cr_R f nJ nW wj) ∧ (∀ m, m < 3 → ∀ i, i < nJ → f 23 m = nI i → f 20 i = nI m ∧ ∃ L, L < 100 ∧ f 24 m = nI (L + 1)) ∧ (∀ j, j < nJ → ∃ te, 8 ≤ te ∧ te ≤ 60 ∧ f 19 j = nI te) ∧ (∀ o, o < nO → 0 < rf_left f (nI o) nJ → f 13 o = -1)
theorem cr_I.j96 {f : mm_A} {nJ nO nW : Nat} {wj : Nat → Nat} (h : cr_I f nJ nO nW wj) : nJ ≤ 96 := h.1
theorem cr_I.o12 {f : mm_A} {nJ nO nW : Nat} {wj : Nat → Nat} (h : cr_I f nJ nO nW wj) : nO ≤ 12 := h.2.1
theorem cr_I.jok {f : mm_A} {nJ nO nW : Nat} {wj : Nat → Nat} (h : cr_I f nJ nO nW wj) : rf_jok f nJ nO := h.2.2.1
theorem cr_I.row {f : mm_A} {nJ nO nW : Nat} {wj : Nat → Nat} (h : cr_I f nJ nO nW wj) : cr_R f nJ nW wj := h.2.2.2.1
theorem cr_I.mac {f : mm_A} {nJ nO nW : Nat} {wj : Nat → Nat} (h : cr_I f nJ nO nW wj) : ∀ m, m < 3 → ∀ i, i < nJ → f 23 m = nI i → f 20 i = nI m ∧ ∃ L, L < 100 ∧ f 24 m = nI (L + 1) := h.2.2.2.2.1
theorem cr_I.tee {f : mm_A} {nJ nO nW : Nat} {wj : Nat → Nat} (h : cr_I f nJ nO nW wj) : ∀ j, j < nJ → ∃ te, 8 ≤ te ∧ te ≤ 60 ∧ f 19 j = nI te := h.2.2.2.2.2.1
theorem cr_I.don {f : mm_A} {nJ nO nW : Nat} {wj : Nat → Nat} (h : cr_I f nJ nO nW wj) : ∀ o, o < nO → 0 < rf_left f (nI o) nJ → f 13 o = -1 := h.2.2.2.2.2.2
theorem cr_R.nW {f : mm_A} {nJ nW : Nat} {wj : Nat → Nat} (h : cr_R f nJ nW wj) : nW ≤ nJ := by
  have h1 : ∀ k, k < nW → k ≤ wj k := by
    intro k
    induction k with
    | zero => intro _; omega
    | succ k ih => intro hk; have := h.2.2 k (k + 1) (by omega) hk; have := ih (by omega); omega
  rcases Nat.eq_zero_or_pos nW with e | e
  · omega
  · have := h1 (nW - 1) (by omega); have := (h.1 (nW - 1) (by omega)).1; omega
theorem cr_I.put {f : mm_A} {nJ nO n k mq ex : Nat} {wj : Nat → Nat} (h : cr_I f nJ nO (n + 1) wj) (hk : k ≤ n) (hm : mq < 3) (hf : f 23 mq = -1) (hex : ex ≤ 3) : cr_I (rf_put f mq (wj k) ex) nJ nO n (fw_rm wj k) := by
  obtain ⟨w1, w2, w3⟩ := h.row
  obtain ⟨hk1, hk2⟩ := w1 k (by omega)
  have hj := h.j96
  have hlt : ∀ a b, a ≤ n → b ≤ n → wj a = wj b → a = b := fun a b ha hb e => by
    rcases Nat.lt_trichotomy a b with q | q | q
    · have := w3 a b q (by omega); omega
    · exact q
    · have := w3 b a q (by omega); omega
  have hleft : ∀ o, rf_left (rf_put f mq (wj k) ex) o nJ = rf_left f o nJ := fun o => rf_left_cg nJ (fun j hj9 => ⟨rfl, by
    show upd (f 20) (wj k) (nI mq) j = -2 ↔ _
    by_cases e : j = wj k
    · rw [e, pk_us, hk2]; exact ⟨fun q => absurd q (nI_neg2 (by omega)), fun q => absurd q (by decide)⟩
    · rw [pk_un e]⟩)
  refine ⟨hj, h.o12, ⟨fun m h3 => ?_, h.jok.2⟩, ⟨fun a ha => ?_, fun j hj1 hj2 => ?_, fun a b hab hb => ?_⟩, fun m h3 i hi e => ?_, h.tee, fun o ho h9 => ?_⟩
  · show upd (f 23) mq (nI (wj k)) m = -1 ∨ ∃ i, i < nJ ∧ upd (f 23) mq (nI (wj k)) m = nI i
    by_cases e : m = mq
    · rw [e, pk_us]; exact Or.inr ⟨wj k, hk1, rfl⟩
    · rw [pk_un e]; exact h.jok.1 m h3
  · show fw_rm wj k a < nJ ∧ upd (f 20) (wj k) (nI mq) (fw_rm wj k a) = -1
    unfold fw_rm
    split
    · have := w1 a (by omega)
      rw [pk_un (fun z => by have := hlt a k (by omega) hk z; omega)]; exact this
    · have := w1 (a + 1) (by omega)
      rw [pk_un (fun z => by have := hlt (a + 1) k (by omega) hk z; omega)]; exact this
  · have hj2 : upd (f 20) (wj k) (nI mq) j = -1 := hj2
    have hne : j ≠ wj k := fun z => by rw [z, pk_us] at hj2; exact nI_neg1 (by omega) hj2
    rw [pk_un hne] at hj2
    obtain ⟨a, ha, e⟩ := w2 j hj1 hj2
    have hak : a ≠ k := fun z => hne (by rw [← e, z])
    rcases Nat.lt_or_ge a k with q | q
    · exact ⟨a, by omega, by unfold fw_rm; rw [if_pos q]; exact e⟩
    · exact ⟨a - 1, by omega, by unfold fw_rm; rw [if_neg (by omega), show a - 1 + 1 = a by omega]; exact e⟩
  · unfold fw_rm
    split <;> split
    · exact w3 a b hab (by omega)
    · exact w3 a (b + 1) (by omega) (by omega)
    · omega
    · exact w3 (a + 1) (b + 1) (by omega) (by omega)
  · have e : upd (f 23) mq (nI (wj k)) m = nI i := e
    show upd (f 20) (wj k) (nI mq) i = nI m ∧ ∃ L, L < 100 ∧ upd (f 24) mq (f 19 (wj k) + nI ex) m = nI (L + 1)
    by_cases e2 : m = mq
    · rw [e2, pk_us] at e
      have e3 : wj k = i := (nI_eq (by omega) (by omega)).mp e
      obtain ⟨te, t1, t2, t3⟩ := h.tee (wj k) hk1
      rw [e2, ← e3, pk_us, pk_us, t3, nI_add]
      exact ⟨rfl, te + ex - 1, by omega, by rw [show te + ex - 1 + 1 = te + ex by omega]⟩
    · rw [pk_un e2] at e
      have h9 := h.mac m h3 i hi e
      have e4 : i ≠ wj k := fun z => by rw [z, hk2] at h9; exact nI_neg1 (i := m) (by omega) h9.1.symm
      rw [pk_un e4, pk_un e2]; exact h9
  · rw [hleft] at h9; exact h.don o ho h9
theorem cr_I.takes0 {f : mm_A} {nJ mq : Nat} (h : rf_its f nJ mq = -1) : rf_takes f nJ mq = f := by rw [rf_takes, if_pos h]
theorem cr_I.takes1 {f : mm_A} {nJ mq i : Nat} (hi : i < 2 ^ 31) (h : rf_first f nJ mq true = nI i) : rf_takes f nJ mq = rf_put f mq i 0 := by
  have h0 : ¬ rf_first f nJ mq true = -1 := by rw [h]; exact nI_neg1 hi
  rw [rf_takes, rf_its, if_neg h0, h, if_neg (nI_neg1 hi), if_neg (nI_neg1 hi), rf_n, nI_clamp hi]
theorem cr_I.takes2 {f : mm_A} {nJ mq i : Nat} (hi : i < 2 ^ 31) (h0 : rf_first f nJ mq true = -1) (h : rf_first f nJ mq false = nI i) : rf_takes f nJ mq = rf_put f mq i 3 := by
  rw [rf_takes, rf_its, if_pos h0, h, if_neg (nI_neg1 hi), if_pos h0, rf_n, nI_clamp hi]
theorem cr_I.less {f : mm_A} {nJ nO nW m L : Nat} {wj : Nat → Nat} (h : cr_I f nJ nO nW wj) (hL : L < 99) (e24 : f 24 m = nI (L + 2)) : cr_I (rf_less f m) nJ nO nW wj := by
  have hleft : ∀ o, rf_left (rf_less f m) o nJ = rf_left f o nJ := fun o => rf_left_cg nJ (fun j hj9 => ⟨rfl, Iff.rfl⟩)
  refine ⟨h.j96, h.o12, h.jok, h.row, fun m' h3 i hi e => ?_, h.tee, fun o ho h9 => by rw [hleft] at h9; exact h.don o ho h9⟩
  have h9 := h.mac m' h3 i hi e
  refine ⟨h9.1, ?_⟩
  show ∃ L', L' < 100 ∧ upd (f 24) m (f 24 m - 1) m' = nI (L' + 1)
  by_cases e2 : m' = m
  · rw [e2, pk_us, e24, nI_pred]; exact ⟨L, by omega, rfl⟩
  · rw [pk_un e2]; exact h9.2
theorem cr_I.done {f : mm_A} {nJ nO nW m i o : Nat} {wj : Nat → Nat} {tm : Int32} (h : cr_I f nJ nO nW wj) (hm : m < 3) (hi : i < nJ) (e23 : f 23 m = nI i) (ho : o < nO) (e17 : f 17 i = nI o) : cr_I (rf_done (rf_less f m) nJ tm m i) nJ nO nW wj ∧ (∀ o', o' < nO → rf_left f (nI o') nJ = rf_left (rf_done (rf_less f m) nJ tm m i) (nI o') nJ + (if o' = o then 1 else 0)) := by
  have h20 := (h.mac m hm i hi e23).1
  have hj := h.j96
  have ho12 := h.o12
  have hn2 : ¬ (rf_less f m) 20 i = -2 := by show ¬ f 20 i = -2; rw [h20]; exact nI_neg2 (by omega)
  have hl1 : ∀ o', rf_left (rf_done (rf_less f m) nJ tm m i) o' nJ = rf_left (va_up (rf_less f m) 20 (upd ((rf_less f m) 20) i (-2))) o' nJ := fun o' => rf_left_cg nJ (fun j hj9 => ⟨rfl, Iff.rfl⟩)
  have hl2 : ∀ o', rf_left (rf_less f m) o' nJ = rf_left f o' nJ := fun o' => rf_left_cg nJ (fun j hj9 => ⟨rfl, Iff.rfl⟩)
  have hl : ∀ o', o' < nO → rf_left f (nI o') nJ = rf_left (rf_done (rf_less f m) nJ tm m i) (nI o') nJ + (if o' = o then 1 else 0) := fun o' ho' => by
    rw [hl1, ← hl2, rf_left_set hn2 nJ hi]
    have e : (rf_less f m) 17 i = nI o := e17
    rw [e]
    by_cases q : o' = o
    · rw [if_pos q, if_pos (by rw [q])]
    · rw [if_neg q, if_neg (fun z => q ((nI_eq (by omega) (by omega)).mp z).symm)]
  refine ⟨⟨hj, ho12, ⟨fun m' h3 => ?_, h.jok.2⟩, ⟨fun a ha => ?_, fun j hj1 hj2 => ?_, h.row.2.2⟩, fun m' h3 i' hi' e => ?_, h.tee, fun o' ho' h9 => ?_⟩, hl⟩
  · show upd (f 23) m (-1) m' = -1 ∨ ∃ i', i' < nJ ∧ upd (f 23) m (-1) m' = nI i'
    by_cases e : m' = m
    · rw [e, pk_us]; exact Or.inl rfl
    · rw [pk_un e]; exact h.jok.1 m' h3
  · show wj a < nJ ∧ upd (f 20) i (-2) (wj a) = -1
    have h9 := h.row.1 a ha
    rw [pk_un (fun z => by rw [z, h20] at h9; exact nI_neg1 (by omega) h9.2)]; exact h9
  · have hj2 : upd (f 20) i (-2) j = -1 := hj2
    have hne : j ≠ i := fun z => by rw [z, pk_us] at hj2; exact absurd hj2 (by decide)
    rw [pk_un hne] at hj2
    exact h.row.2.1 j hj1 hj2
  · have e : upd (f 23) m (-1) m' = nI i' := e
    have e2 : m' ≠ m := fun z => by rw [z, pk_us] at e; exact nI_neg1 (by omega) e.symm
    rw [pk_un e2] at e
    have h9 := h.mac m' h3 i' hi' e
    have e4 : i' ≠ i := fun z => by rw [z, h20] at h9; exact e2 ((nI_eq (by omega) (by omega)).mp h9.1).symm
    show upd (f 20) i (-2) i' = nI m' ∧ ∃ L', L' < 100 ∧ upd (f 24) m (f 24 m - 1) m' = nI (L' + 1)
    rw [pk_un e4, pk_un e2]; exact h9
  · have e9 : rf_n ((rf_less f m) 17 i) = o := by show rf_n (f 17 i) = o; rw [e17, rf_n, nI_clamp (by omega)]
    have e8 : (rf_less f m) 17 i = nI o := e17
    show upd (f 13) (rf_n ((rf_less f m) 17 i)) _ o' = -1
    rw [e9]
    by_cases q : o' = o
    · rw [q, pk_us, e8]
      rw [hl1, q] at h9
      rw [if_neg (by omega)]
    · rw [pk_un q]
      refine h.don o' ho' ?_
      have := hl o' ho'
      omega
