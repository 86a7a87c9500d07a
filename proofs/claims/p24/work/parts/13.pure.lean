/-! The reference's methods: reads. -/
def fw_b (b : Bool) : Int32 := if b then 1 else 0
theorem fw_b0 {b : Bool} (h : fw_b b = 0) : b = false := by cases b <;> first | rfl | exact absurd h (by decide)
theorem fw_b1 {b : Bool} (h : ¬ fw_b b = 0) : b = true := by cases b <;> first | rfl | exact absurd rfl h
theorem fw_b01 (b : Bool) : fw_b b = 0 ∨ fw_b b = 1 := by cases b <;> first | exact Or.inl rfl | exact Or.inr rfl
def rf_in (v lo hi : Int32) : Bool := decide (lo ≤ v) && decide (v ≤ hi)
theorem rf_in_t {v lo hi : Int32} : rf_in v lo hi = true ↔ lo ≤ v ∧ v ≤ hi := by simp [rf_in]
theorem rf_in_f1 {v lo hi : Int32} (h : v < lo) : rf_in v lo hi = false := by
  cases q : rf_in v lo hi with
  | false => rfl
  | true => exact absurd (rf_in_t.mp q).1 (Int32.not_le.mpr h)
theorem rf_in_f2 {v lo hi : Int32} (h : hi < v) : rf_in v lo hi = false := by
  cases q : rf_in v lo hi with
  | false => rfl
  | true => exact absurd (rf_in_t.mp q).2 (Int32.not_le.mpr h)
theorem fw_m1 (x : Int32) : x + (-1) = x - nI 1 := by rw [show nI 1 = (1 : Int32) from rfl, Int32.sub_eq_add_neg]
/-- t is a number below n -/
def rf_ix (t : Int32) (n : Nat) : Bool := rf_in t (nI 0) (nI n - nI 1)
/-- the reference's lowest cutter, from the cutters below j, if 'its' were those above -/
def rf_cutL (f : mm_A) (mo te : Int32) : Nat → Int32 → Int32
  | 0, its => its
  | j + 1, its => rf_cutL f mo te j (if f 2 j = mo ∧ rf_in te (f 3 j) (f 4 j) = true then nI j else its)
def rf_cut (f : mm_A) (n : Nat) (mo te : Int32) : Int32 := rf_cutL f mo te n (-1)
/-! The reference's methods: sums, products, searches. -/
def rf_dist (f : mm_A) : Nat → Int32
  | 0 => 0
  | k + 1 => rf_dist f k + f 6 (3 * k) * (f 6 (3 * k + 1) + f 6 (3 * k + 2))
def rf_prod (f : mm_A) (t w : Nat) : Nat → Int32
  | 0 => 1
  | k + 1 => rf_prod f t w k * f 9 (12 * t + 3 * k + w)
def rf_on (f : mm_A) (c : Int32) : Nat → Bool
  | 0 => false
  | k + 1 => rf_on f c k || decide (f 22 k = c)
theorem rf_on_s (f : mm_A) (c : Int32) (k : Nat) : rf_on f c (k + 1) = (rf_on f c k || decide (f 22 k = c)) := rfl
def rf_can (f : mm_A) (mc : Nat) (same : Bool) (j : Nat) : Bool := if same then decide (f 18 j = f 22 mc) else !(rf_on f (f 18 j) 3)
def rf_firstL (f : mm_A) (mc : Nat) (same : Bool) : Nat → Int32 → Int32
  | 0, its => its
  | j + 1, its => rf_firstL f mc same j (if f 20 j = -1 ∧ rf_can f mc same j = true then nI j else its)
def rf_first (f : mm_A) (n mc : Nat) (same : Bool) : Int32 := rf_firstL f mc same n (-1)
def rf_left (f : mm_A) (o : Int32) : Nat → Nat
  | 0 => 0
  | k + 1 => rf_left f o k + (if f 17 k = o ∧ ¬ f 20 k = -2 then 1 else 0)
def rf_wait (f : mm_A) : Nat → Nat
  | 0 => 0
  | k + 1 => rf_wait f k + (if f 20 k = -1 then 1 else 0)
theorem rf_left_s (f : mm_A) (o : Int32) (k : Nat) : rf_left f o (k + 1) = rf_left f o k + (if f 17 k = o ∧ ¬ f 20 k = -2 then 1 else 0) := rfl
theorem rf_wait_s (f : mm_A) (k : Nat) : rf_wait f (k + 1) = rf_wait f k + (if f 20 k = -1 then 1 else 0) := rfl
theorem rf_left_le (f : mm_A) (o : Int32) : ∀ n, rf_left f o n ≤ n
  | 0 => Nat.le_refl _
  | n + 1 => by have := rf_left_le f o n; rw [rf_left]; split <;> omega
theorem rf_wait_le (f : mm_A) : ∀ n, rf_wait f n ≤ n
  | 0 => Nat.le_refl _
  | n + 1 => by have := rf_wait_le f n; rw [rf_wait]; split <;> omega
/-! The reference's methods: cutters, drafts, answers of one place. -/
def rf_okG (mo te : Int32) : Bool := rf_in mo (nI 1) (nI 4) && rf_in te (nI 8) (nI 60)
def rf_okC (mo le mx : Int32) : Bool := rf_in mo (nI 1) (nI 4) && rf_in le (nI 8) (nI 60) && rf_in mx le (nI 60)
def rf_okS (mo a b : Int32) : Bool := rf_in mo (nI 1) (nI 4) && rf_in a (nI 8) (nI 60) && rf_in b (nI 8) (nI 60)
theorem rf_ix_t {t : Int32} {n : Nat} (hn : n ≤ 100) (h : rf_ix t n = true) : ∃ j, j < n ∧ t = nI j := by
  obtain ⟨h1, h2⟩ := rf_in_t.mp h
  obtain ⟨j, hj, rfl⟩ := nI_of (x := t) (Int32.not_lt.mpr h1)
  cases n with
  | zero =>
    exfalso
    rw [Int32.le_iff_toInt_le, nI_toInt hj] at h2
    have : (nI 0 - nI 1).toInt = -1 := by decide
    omega
  | succ n =>
    rw [pk_sub (a := n + 1) (b := 1) (by omega), nI_leI (by omega) (by omega)] at h2
    exact ⟨j, by omega, rfl⟩
theorem rf_in_of {t : Int32} {n j : Nat} (hn : n ≤ 100) (hj : j < n) (h : t = nI j) : rf_ix t n = true := by
  subst h
  refine rf_in_t.mpr ⟨nI_le (Nat.zero_le _) (by omega), ?_⟩
  rw [pk_sub (by omega)]
  exact nI_le (by omega) (by omega)
theorem nI_j {a b : Nat} (ha : a ≤ 1000) (hb : b ≤ 1000) (h : nI a = nI b) : a = b := (nI_eq (by omega) (by omega)).mp h
/-! The reference's methods: ratios, and more answers of one place. -/
theorem fw_topL {p : Program} {l : Launch} {e : Env} {R : Room} {s : State} {m : MethodId} {args : Array Value} {below : List Frame} {meth : Method} {c : Code} {H : Heap} {locs : List Loc} {cells slots : Nat} {Q : State → Prop} {pc : Nat} {ls : Array Slot} {rest : List Value} {x x' : Int64} (h : x = x') (k : W p l e R s m args below meth c H locs cells slots Q (F0 m pc ls (.long x' :: rest))) : W p l e R s m args below meth c H locs cells slots Q (F0 m pc ls (.long x :: rest)) := by
  rw [h]
  exact k
def rf_n (x : Int32) : Nat := x.toNatClampNeg
theorem rf_n_nI {n : Nat} (h : n < 2 ^ 31) : rf_n (nI n) = n := nI_clamp h
def rf_sm (f : mm_A) (t : Nat) : Nat := rf_n (f 8 t)
def rf_ot (f : mm_A) (o : Nat) : Nat := rf_n (f 12 o)
def rf_st (f : mm_A) (i : Nat) : Nat := rf_n (f 9 i)
/-- a train's stages are what they should be -/
def rf_tok (f : mm_A) (t : Nat) : Prop := f 8 t = nI (rf_sm f t) ∧ 1 ≤ rf_sm f t ∧ rf_sm f t ≤ 4 ∧ ∀ k, k < rf_sm f t → (f 9 (12 * t + 3 * k) = nI (rf_st f (12 * t + 3 * k)) ∧ 1 ≤ rf_st f (12 * t + 3 * k) ∧ rf_st f (12 * t + 3 * k) ≤ 4) ∧ ∀ w, w = 1 ∨ w = 2 → f 9 (12 * t + 3 * k + w) = nI (rf_st f (12 * t + 3 * k + w)) ∧ 8 ≤ rf_st f (12 * t + 3 * k + w) ∧ rf_st f (12 * t + 3 * k + w) ≤ 60
def rf_pn (f : mm_A) (t w : Nat) : Nat → Nat
  | 0 => 1
  | k + 1 => rf_pn f t w k * rf_st f (12 * t + 3 * k + w)
def rf_P (f : mm_A) (t w : Nat) : Nat := rf_pn f t w (rf_sm f t)
theorem rf_prod_n {f : mm_A} {t w : Nat} (h : rf_tok f t) (hw : w = 1 ∨ w = 2) : ∀ k, k ≤ rf_sm f t → rf_prod f t w k = nI (rf_pn f t w k) ∧ 1 ≤ rf_pn f t w k ∧ rf_pn f t w k ≤ 60 ^ k
  | 0, _ => ⟨rfl, Nat.le_refl _, Nat.le_refl _⟩
  | k + 1, hk => by
    obtain ⟨h1, h2, h3⟩ := rf_prod_n h hw k (by omega)
    obtain ⟨g1, g2, g3⟩ := (h.2.2.2 k (by omega)).2 w hw
    refine ⟨?_, ?_, ?_⟩
    · show rf_prod f t w k * f 9 (12 * t + 3 * k + w) = nI (rf_pn f t w k * rf_st f (12 * t + 3 * k + w))
      rw [h1, g1, pk_mul]
    · exact Nat.mul_pos h2 (by omega)
    · rw [Nat.pow_succ]
      exact Nat.mul_le_mul h3 g3
theorem rf_P_ok {f : mm_A} {t w : Nat} (h : rf_tok f t) (hw : w = 1 ∨ w = 2) : rf_prod f t w (rf_sm f t) = nI (rf_P f t w) ∧ 1 ≤ rf_P f t w ∧ rf_P f t w ≤ 12960000 := by
  obtain ⟨h1, h2, h3⟩ := rf_prod_n h hw _ (Nat.le_refl _)
  exact ⟨h1, h2, Nat.le_trans h3 (Nat.le_trans (Nat.pow_le_pow_right (by decide) h.2.2.1) (by decide))⟩
/-! The reference's methods: machines. -/
theorem rf_ix3 {t : Int32} (h : rf_in t (nI 0) (nI 2) = true) : ∃ j, j < 3 ∧ t = nI j := by
  obtain ⟨j, hj, h2⟩ := nI_of2 (M := nI 2) (n := 2) (by decide) (Int32.not_lt.mpr (rf_in_t.mp h).1) (rf_in_t.mp h).2
  exact ⟨j, by omega, h2⟩
theorem rf_ix3_of {t : Int32} {j : Nat} (hj : j < 3) (h : t = nI j) : rf_in t (nI 0) (nI 2) = true := by
  subst h
  exact rf_in_t.mpr ⟨nI_le (Nat.zero_le _) (by omega), nI_le (by omega) (by decide)⟩
def rf_its (f : mm_A) (n mc : Nat) : Int32 := if rf_first f n mc true = -1 then rf_first f n mc false else rf_first f n mc true
def rf_put (f : mm_A) (mc i ex : Nat) : mm_A := va_up (va_up (va_up (va_up f 22 (upd (f 22) mc (f 18 i))) 23 (upd (f 23) mc (nI i))) 24 (upd (f 24) mc (f 19 i + nI ex))) 20 (upd (f 20) i (nI mc))
def rf_takes (f : mm_A) (n mc : Nat) : mm_A := if rf_its f n mc = -1 then f else rf_put f mc (rf_n (rf_its f n mc)) (if rf_first f n mc true = -1 then 3 else 0)
theorem rf_firstL_ix (f : mm_A) (n mc : Nat) (b : Bool) : ∀ (j : Nat) (its : Int32), j ≤ n → (its = -1 ∨ ∃ i, i < n ∧ its = nI i) → (rf_firstL f mc b j its = -1 ∨ ∃ i, i < n ∧ rf_firstL f mc b j its = nI i)
  | 0, _, _, h => h
  | j + 1, its, hj, h => by
    rw [rf_firstL]
    refine rf_firstL_ix f n mc b j _ (by omega) ?_
    split
    · exact Or.inr ⟨j, by omega, rfl⟩
    · exact h
theorem rf_first_ix (f : mm_A) (n mc : Nat) (b : Bool) : rf_first f n mc b = -1 ∨ ∃ i, i < n ∧ rf_first f n mc b = nI i := rf_firstL_ix f n mc b n (-1) (Nat.le_refl _) (Or.inl rfl)
theorem rf_its_ix (f : mm_A) (n mc : Nat) : rf_its f n mc = -1 ∨ ∃ i, i < n ∧ rf_its f n mc = nI i := by
  unfold rf_its
  split
  · exact rf_first_ix f n mc false
  · exact rf_first_ix f n mc true
theorem rf_m1_ne {i : Nat} (h : i < 2 ^ 31) : nI i ≠ -1 := by
  intro h9
  have h1 := congrArg Int32.toInt h9
  rw [nI_toInt h, show (-1 : Int32).toInt = -1 from by decide] at h1
  omega
/-- the jobs of the machines, the orders of the jobs -/
def rf_jok (f : mm_A) (nJ nO : Nat) : Prop := (∀ m, m < 3 → f 23 m = -1 ∨ ∃ i, i < nJ ∧ f 23 m = nI i) ∧ ∀ i, i < nJ → ∃ o, o < nO ∧ f 17 i = nI o
theorem rf_jok_takes {f : mm_A} {nJ nO mc : Nat} (hJ : nJ ≤ 96) (h : rf_jok f nJ nO) : rf_jok (rf_takes f nJ mc) nJ nO := by
  unfold rf_takes
  split
  · exact h
  · rename_i hne
    rcases rf_its_ix f nJ mc with h1 | ⟨i, hi, h1⟩
    · exact absurd h1 hne
    · refine ⟨fun m hm => ?_, fun j hj => h.2 j hj⟩
      show upd (f 23) mc (nI (rf_n (rf_its f nJ mc))) m = -1 ∨ _
      by_cases e : m = mc
      · refine Or.inr ⟨i, hi, ?_⟩
        show upd (f 23) mc (nI (rf_n (rf_its f nJ mc))) m = nI i
        rw [h1, rf_n_nI (by omega)]
        simp [upd, e]
      · rcases h.1 m hm with q | ⟨k, hk, q⟩
        · exact Or.inl (by simp [upd, e, q])
        · exact Or.inr ⟨k, hk, by show upd (f 23) mc _ m = _; simp [upd, e, q]⟩
def rf_give (f : mm_A) (n : Nat) : Nat → mm_A
  | 0 => f
  | k + 1 => if rf_give f n k 23 k = -1 then rf_takes (rf_give f n k) n k else rf_give f n k
theorem rf_give_s (f : mm_A) (n k : Nat) : rf_give f n (k + 1) = if rf_give f n k 23 k = -1 then rf_takes (rf_give f n k) n k else rf_give f n k := rfl
theorem rf_jok_give {f : mm_A} {nJ nO : Nat} (hJ : nJ ≤ 96) (h : rf_jok f nJ nO) : ∀ k, rf_jok (rf_give f nJ k) nJ nO
  | 0 => h
  | k + 1 => by
    rw [rf_give_s]
    split
    · exact rf_jok_takes hJ (rf_jok_give hJ h k)
    · exact rf_jok_give hJ h k
/-- a tick at machine m: less to do; the gear is cut -/
def rf_less (f : mm_A) (m : Nat) : mm_A := va_up f 24 (upd (f 24) m (f 24 m - 1))
def rf_done (f : mm_A) (n : Nat) (tm : Int32) (m i : Nat) : mm_A :=
  va_up (va_up (va_up f 20 (upd (f 20) i (-2))) 23 (upd (f 23) m (-1))) 13 (upd (f 13) (rf_n (f 17 i)) (if rf_left (va_up f 20 (upd (f 20) i (-2))) (f 17 i) n = 0 then tm else -1))
def rf_wk (n : Nat) (tm : Int32) (f : mm_A) (m : Nat) : mm_A := if f 23 m = -1 then f else if f 24 m - 1 = 0 then rf_done (rf_less f m) n tm m (rf_n (f 23 m)) else rf_less f m
def rf_wc (f : mm_A) (m : Nat) : Nat := if f 23 m = -1 then 0 else if f 24 m - 1 = 0 then 1 else 0
def rf_work (n : Nat) (tm : Int32) (f : mm_A) : Nat → mm_A
  | 0 => f
  | k + 1 => rf_wk n tm (rf_work n tm f k) k
def rf_cnt (n : Nat) (tm : Int32) (f : mm_A) : Nat → Nat
  | 0 => 0
  | k + 1 => rf_cnt n tm f k + rf_wc (rf_work n tm f k) k
theorem rf_work_s (n : Nat) (tm : Int32) (f : mm_A) (k : Nat) : rf_work n tm f (k + 1) = rf_wk n tm (rf_work n tm f k) k := rfl
theorem rf_cnt_s (n : Nat) (tm : Int32) (f : mm_A) (k : Nat) : rf_cnt n tm f (k + 1) = rf_cnt n tm f k + rf_wc (rf_work n tm f k) k := rfl
theorem rf_jok_wk {f : mm_A} {nJ nO : Nat} {tm : Int32} {m : Nat} (h : rf_jok f nJ nO) : rf_jok (rf_wk nJ tm f m) nJ nO := by
  unfold rf_wk
  split
  · exact h
  · split
    · refine ⟨fun k hk => ?_, fun j hj => h.2 j hj⟩
      show upd (f 23) m (-1) k = -1 ∨ _
      by_cases e : k = m
      · exact Or.inl (by simp [upd, e])
      · rcases h.1 k hk with q | ⟨i, hi, q⟩
        · exact Or.inl (by simp [upd, e, q])
        · exact Or.inr ⟨i, hi, by show upd (f 23) m _ k = _; simp [upd, e, q]⟩
    · exact h
theorem rf_jok_work {f : mm_A} {nJ nO : Nat} {tm : Int32} (h : rf_jok f nJ nO) : ∀ k, rf_jok (rf_work nJ tm f k) nJ nO
  | 0 => h
  | k + 1 => rf_jok_wk (rf_jok_work h k)
def rf_tickf (n : Nat) (tm : Int32) (f : mm_A) : mm_A := rf_work n (tm + 1) (rf_give f n 3) 3
def rf_tickn (n : Nat) (tm : Int32) (f : mm_A) : Nat := rf_cnt n (tm + 1) (rf_give f n 3) 3
theorem rf_jok_tick {f : mm_A} {nJ nO : Nat} {tm : Int32} (hJ : nJ ≤ 96) (h : rf_jok f nJ nO) : rf_jok (rf_tickf nJ tm f) nJ nO := rf_jok_work (rf_jok_give hJ h 3) 3
def rf_passf (n : Nat) (tm : Int32) (f : mm_A) : Nat → mm_A
  | 0 => f
  | q + 1 => rf_tickf n (tm + nI q) (rf_passf n tm f q)
def rf_passn (n : Nat) (tm : Int32) (f : mm_A) : Nat → Nat
  | 0 => 0
  | q + 1 => rf_passn n tm f q + rf_tickn n (tm + nI q) (rf_passf n tm f q)
theorem rf_jok_pass {f : mm_A} {nJ nO : Nat} {tm : Int32} (hJ : nJ ≤ 96) (h : rf_jok f nJ nO) : ∀ q, rf_jok (rf_passf nJ tm f q) nJ nO
  | 0 => h
  | q + 1 => rf_jok_tick hJ (rf_jok_pass hJ h q)
/-! The reference's methods: ticks. -/
theorem va_up_same {α : Type} {f : Nat → α} {k : Nat} {v : α} (h : f k = v) : va_up f k v = f := by
  funext j
  by_cases e : j = k
  · rw [e, va_up_self, h]
  · rw [va_up_ne f v e]
theorem rf_left_cong {f g : mm_A} {o : Int32} (h1 : f 17 = g 17) (h2 : f 20 = g 20) : ∀ n, rf_left f o n = rf_left g o n
  | 0 => rfl
  | n + 1 => by rw [rf_left_s, rf_left_s, rf_left_cong h1 h2 n, h1, h2]
/-! The reference's methods: orders, trains, designs. -/
theorem rf_cutL_cong {f g : mm_A} {mo te : Int32} (h2 : f 2 = g 2) (h3 : f 3 = g 3) (h4 : f 4 = g 4) : ∀ (j : Nat) (its : Int32), rf_cutL f mo te j its = rf_cutL g mo te j its
  | 0, _ => rfl
  | j + 1, its => by rw [rf_cutL, rf_cutL, h2, h3, h4]; exact rf_cutL_cong h2 h3 h4 j _
theorem rf_cut_cong {f g : mm_A} {mo te : Int32} {n : Nat} (h2 : f 2 = g 2) (h3 : f 3 = g 3) (h4 : f 4 = g 4) : rf_cut f n mo te = rf_cut g n mo te := rf_cutL_cong h2 h3 h4 n _
def rf_addJ (f : mm_A) (nJ nC : Nat) (o mo te : Int32) : mm_A := va_up (va_up (va_up (va_up f 17 (upd (f 17) nJ o)) 18 (upd (f 18) nJ (rf_cut f nC mo te))) 19 (upd (f 19) nJ te)) 20 (upd (f 20) nJ (-1))
def rf_ordJ (f : mm_A) (nC nJ nO t : Nat) : Nat → mm_A
  | 0 => f
  | k + 1 => rf_addJ (rf_addJ (rf_ordJ f nC nJ nO t k) (nJ + 2 * k) nC (nI nO) (f 9 (12 * t + 3 * k)) (f 9 (12 * t + 3 * k + 1))) (nJ + 2 * k + 1) nC (nI nO) (f 9 (12 * t + 3 * k)) (f 9 (12 * t + 3 * k + 2))
theorem rf_ordJ_s (f : mm_A) (nC nJ nO t k : Nat) : rf_ordJ f nC nJ nO t (k + 1) = rf_addJ (rf_addJ (rf_ordJ f nC nJ nO t k) (nJ + 2 * k) nC (nI nO) (f 9 (12 * t + 3 * k)) (f 9 (12 * t + 3 * k + 1))) (nJ + 2 * k + 1) nC (nI nO) (f 9 (12 * t + 3 * k)) (f 9 (12 * t + 3 * k + 2)) := rfl
theorem rf_ordJ_9 (f : mm_A) (nC nJ nO t : Nat) : ∀ k, rf_ordJ f nC nJ nO t k 9 = f 9 ∧ rf_ordJ f nC nJ nO t k 8 = f 8 ∧ rf_ordJ f nC nJ nO t k 12 = f 12 ∧ rf_ordJ f nC nJ nO t k 13 = f 13
  | 0 => ⟨rfl, rfl, rfl, rfl⟩
  | k + 1 => rf_ordJ_9 f nC nJ nO t k
def rf_cans (f : mm_A) (nC : Nat) (b : Bool) : Nat → Bool
  | 0 => b
  | k + 1 => rf_cans f nC b k && !(decide (rf_cut f nC (f 6 (3 * k)) (f 6 (3 * k + 1)) = -1)) && !(decide (rf_cut f nC (f 6 (3 * k)) (f 6 (3 * k + 2)) = -1))
theorem rf_cans_s (f : mm_A) (nC : Nat) (b : Bool) (k : Nat) : rf_cans f nC b (k + 1) = (rf_cans f nC b k && !(decide (rf_cut f nC (f 6 (3 * k)) (f 6 (3 * k + 1)) = -1)) && !(decide (rf_cut f nC (f 6 (3 * k)) (f 6 (3 * k + 2)) = -1))) := rfl
theorem rf_cans_t {f : mm_A} {nC : Nat} {b : Bool} : ∀ {k : Nat}, rf_cans f nC b k = true → b = true
  | 0, h => h
  | k + 1, h => by
    rw [rf_cans_s, Bool.and_eq_true, Bool.and_eq_true] at h
    exact rf_cans_t h.1.1
def rf_can0 (f : mm_A) (nD nT : Nat) (ds : Int32) : Bool := decide (0 < nD) && decide (ds = rf_dist f nD) && decide (nT < 8)
def rf_copy (f : mm_A) (nT : Nat) : Nat → Nat → Int32
  | 0 => f 9
  | k + 1 => upd (rf_copy f nT k) (12 * nT + k) (f 6 k)
def rf_lk (f : mm_A) (nC : Nat) (mo te : Int32) : Nat := if rf_cut f nC mo te = -1 then 1 else 0
theorem rf_lk_b {f : mm_A} {nC : Nat} {mo te : Int32} : fw_b (decide (rf_cut f nC mo te = -1)) = nI (rf_lk f nC mo te) := by
  unfold rf_lk
  by_cases h : rf_cut f nC mo te = -1
  · rw [decide_eq_true h, if_pos h]; rfl
  · rw [decide_eq_false h, if_neg h]; rfl
theorem rf_lk_le (f : mm_A) (nC : Nat) (mo te : Int32) : rf_lk f nC mo te ≤ 1 := by unfold rf_lk; split <;> omega
def rf_news (f : mm_A) (nC : Nat) (mo x1 x2 x3 x4 : Int32) : Nat := rf_lk f nC mo x1 + (if x2 = x1 then 0 else rf_lk f nC mo x2) + (if x3 = x1 ∨ x3 = x2 then 0 else rf_lk f nC mo x3) + (if x4 = x1 ∨ x4 = x2 ∨ x4 = x3 then 0 else rf_lk f nC mo x4)
def rf_ln (f : mm_A) (nC : Nat) (mo : Int32) (ab be : Nat) : Nat → Int32
  | 0 => -1
  | k + 1 => if (8 + k / 13 % 13) * (8 + k / 2197) * be = (8 + k % 13) * (8 + k / 169 % 13) * ab then
      (if rf_ln f nC mo ab be k = -1 ∨ nI (rf_news f nC mo (nI (8 + k % 13)) (nI (8 + k / 13 % 13)) (nI (8 + k / 169 % 13)) (nI (8 + k / 2197))) < rf_ln f nC mo ab be k then nI (rf_news f nC mo (nI (8 + k % 13)) (nI (8 + k / 13 % 13)) (nI (8 + k / 169 % 13)) (nI (8 + k / 2197))) else rf_ln f nC mo ab be k) else rf_ln f nC mo ab be k
theorem rf_ln_s (f : mm_A) (nC : Nat) (mo : Int32) (ab be k : Nat) : rf_ln f nC mo ab be (k + 1) = if (8 + k / 13 % 13) * (8 + k / 2197) * be = (8 + k % 13) * (8 + k / 169 % 13) * ab then
      (if rf_ln f nC mo ab be k = -1 ∨ nI (rf_news f nC mo (nI (8 + k % 13)) (nI (8 + k / 13 % 13)) (nI (8 + k / 169 % 13)) (nI (8 + k / 2197))) < rf_ln f nC mo ab be k then nI (rf_news f nC mo (nI (8 + k % 13)) (nI (8 + k / 13 % 13)) (nI (8 + k / 169 % 13)) (nI (8 + k / 2197))) else rf_ln f nC mo ab be k) else rf_ln f nC mo ab be k := rfl
def rf_okL (mo ab be : Int32) : Bool := rf_in mo (nI 1) (nI 4) && rf_in ab (nI 1) (nI 400) && rf_in be (nI 1) (nI 400)
/-! The reference's methods: tests, least new gears. -/
theorem vp_nar_b (b : Bool) : vp_nar .boolean (fw_b b) = fw_b b := by cases b <;> rfl
def rf_les (f : mm_A) (t k : Nat) : Nat := if rf_st f (12 * t + 3 * k + 1) < rf_st f (12 * t + 3 * k + 2) then rf_st f (12 * t + 3 * k + 1) else rf_st f (12 * t + 3 * k + 2)
def rf_tst (f : mm_A) (o t lh : Nat) : Nat → mm_A
  | 0 => f
  | k + 1 => va_up (va_up (rf_tst f o t lh k) 15 (upd (rf_tst f o t lh k 15) (4 * o + k) (rf_tst f o t lh k 15 (4 * o + k) + nI (lh / rf_st f (12 * t + 3 * k))))) 14 (upd (rf_tst f o t lh k 14) o (fw_b (!(decide (rf_tst f o t lh k 14 o = 0)) || decide (nI (10 * rf_les f t k) < rf_tst f o t lh k 15 (4 * o + k) + nI (lh / rf_st f (12 * t + 3 * k))))))
theorem rf_tst_s (f : mm_A) (o t lh k : Nat) : rf_tst f o t lh (k + 1) = va_up (va_up (rf_tst f o t lh k) 15 (upd (rf_tst f o t lh k 15) (4 * o + k) (rf_tst f o t lh k 15 (4 * o + k) + nI (lh / rf_st f (12 * t + 3 * k))))) 14 (upd (rf_tst f o t lh k 14) o (fw_b (!(decide (rf_tst f o t lh k 14 o = 0)) || decide (nI (10 * rf_les f t k) < rf_tst f o t lh k 15 (4 * o + k) + nI (lh / rf_st f (12 * t + 3 * k)))))) := rfl
theorem rf_tst_9 (f : mm_A) (o t lh : Nat) : ∀ k, rf_tst f o t lh k 9 = f 9 ∧ rf_tst f o t lh k 8 = f 8
  | 0 => ⟨rfl, rfl⟩
  | k + 1 => rf_tst_9 f o t lh k
theorem rf_tst_b (f : mm_A) (o t lh : Nat) (h : f 14 o = 0) : ∀ k, rf_tst f o t lh k 14 o = 0 ∨ rf_tst f o t lh k 14 o = 1
  | 0 => Or.inl h
  | k + 1 => by
    rw [rf_tst_s]
    show upd _ o _ o = 0 ∨ upd _ o _ o = 1
    rw [pk_us]
    exact fw_b01 _
def rf_testf (f : mm_A) (o t lh : Nat) : mm_A := va_up (rf_tst f o t lh (rf_sm f t)) 10 (upd (rf_tst f o t lh (rf_sm f t) 10) t (rf_tst f o t lh (rf_sm f t) 10 t + (if rf_tst f o t lh (rf_sm f t) 14 o = 0 then nI 0 else nI 1)))
def rf_okT (a b : Int32) : Bool := rf_in a (nI 1) (nI 100) && rf_in b (nI 1) (nI 100)
theorem rf_in_n {x : Int32} {n : Nat} (hn : n < 1000) (h : rf_in x (nI 1) (nI n) = true) : ∃ i, 1 ≤ i ∧ i ≤ n ∧ x = nI i := by
  obtain ⟨h1, h2⟩ := rf_in_t.mp h
  obtain ⟨i, hi, rfl⟩ := nI_of (x := x) (Int32.not_lt.mpr (Int32.le_trans (show (0 : Int32) ≤ nI 1 by decide) h1))
  rw [nI_leI (by omega) (by omega)] at h1 h2
  exact ⟨i, h1, h2, rfl⟩
theorem rf_in_of_n {n i : Nat} (hn : n < 1000) (h1 : 1 ≤ i) (h2 : i ≤ n) : rf_in (nI i) (nI 1) (nI n) = true := rf_in_t.mpr ⟨nI_le h1 (by omega), nI_le h2 (by omega)⟩
