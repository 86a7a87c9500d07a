/-! The designs: both ways find the same least. -/
theorem nx_and (a b : Nat) : nI a &&& nI b = nI (a &&& b) := by
  apply Int32.toBitVec_inj.mp
  rw [Int32.toBitVec_and]
  show BitVec.ofNat 32 a &&& BitVec.ofNat 32 b = BitVec.ofNat 32 (a &&& b)
  rw [BitVec.ofNat_and]
theorem nx_or (a b : Nat) : nI a ||| nI b = nI (a ||| b) := by
  apply Int32.toBitVec_inj.mp
  rw [Int32.toBitVec_or]
  show BitVec.ofNat 32 a ||| BitVec.ofNat 32 b = BitVec.ofNat 32 (a ||| b)
  rw [BitVec.ofNat_or]
theorem cl_sh (x : Nat) : 256 * x = x <<< 8 := by rw [Nat.shiftLeft_eq]; omega
theorem cl_or256 (x y : Nat) : nI (256 * x) ||| nI (256 * y) = nI (256 * (x ||| y)) := by
  rw [nx_or, cl_sh x, cl_sh y, cl_sh (x ||| y), Nat.shiftLeft_or_distrib]
theorem cl_and256 (x y : Nat) : nI (256 * x) &&& nI (256 * y) = nI (256 * (x &&& y)) := by
  rw [nx_and, cl_sh x, cl_sh y, cl_sh (x &&& y), Nat.shiftLeft_and_distrib]
/-- over the gears 8 .. with P: the sum of lk -/
def cl_S (lk : Nat → Nat) (P : Nat → Bool) : Nat → Nat
  | 0 => 0
  | n + 1 => cl_S lk P n + (if P (8 + n) then lk (8 + n) else 0)
theorem cl_S_cg {lk lk' : Nat → Nat} {P P' : Nat → Bool} : ∀ n, (∀ i, i < n → (if P (8 + i) then lk (8 + i) else 0) = (if P' (8 + i) then lk' (8 + i) else 0)) → cl_S lk P n = cl_S lk' P' n
  | 0, _ => rfl
  | n + 1, h => by rw [cl_S, cl_S, cl_S_cg n (fun i hi => h i (by omega)), h n (by omega)]
theorem cl_S_add (lk : Nat → Nat) (P : Nat → Bool) (j : Nat) : ∀ n, cl_S lk (fun z => P z || decide (z = 8 + j)) n = cl_S lk P n + (if j < n then (if P (8 + j) then 0 else lk (8 + j)) else 0)
  | 0 => rfl
  | n + 1 => by
    rw [cl_S, cl_S, cl_S_add lk P j n]
    by_cases e : j = n
    · rw [e, if_neg (Nat.lt_irrefl n), if_pos (Nat.lt_succ_self n), decide_eq_true rfl, Bool.or_true, if_pos rfl]
      by_cases h : P (8 + n) = true <;> simp [h]
    · rw [decide_eq_false (show ¬ 8 + n = 8 + j by omega), Bool.or_false]
      by_cases h : j < n
      · rw [if_pos h, if_pos (show j < n + 1 by omega)]; exact Nat.add_right_comm _ _ _
      · rw [if_neg h, if_neg (show ¬ j < n + 1 by omega)]; exact Nat.add_right_comm _ _ _
theorem cl_S_no (lk : Nat → Nat) : ∀ n, cl_S lk (fun _ => false) n = 0
  | 0 => rfl
  | n + 1 => by rw [cl_S, cl_S_no lk n]; rfl
theorem cl_pc1 : ∀ u, u < 128 → ∀ v, v < 64 → cl_bc (nI (256 * (64 * u + v))) = nI (cl_S (fun _ => 1) (fun z => Nat.testBit (64 * u + v) (z - 8)) 13) := by decide +kernel
theorem cl_pc {m : Nat} (h : m < 8192) : cl_bc (nI (256 * m)) = nI (cl_S (fun _ => 1) (fun z => Nat.testBit m (z - 8)) 13) := by
  have h1 := cl_pc1 (m / 64) (by omega) (m % 64) (by omega)
  rw [show 64 * (m / 64) + m % 64 = m by omega] at h1
  exact h1
theorem cl_bit_n : ∀ i, i < 13 → cl_bit (8 + i) = nI (256 * 2 ^ i) := by decide +kernel
def cl_TW (f : mm_A) (nC : Nat) (mo : Int32) : Nat → Nat
  | 0 => 0
  | k + 1 => if rf_cut f nC mo (nI (8 + k)) = -1 then cl_TW f nC mo k ||| 2 ^ k else cl_TW f nC mo k
theorem cl_tw_n (f : mm_A) (nC : Nat) (mo : Int32) : ∀ k, k ≤ 13 → cl_tw f nC mo k = nI (256 * cl_TW f nC mo k)
  | 0, _ => rfl
  | k + 1, h => by
    rw [cl_tw, cl_TW]
    by_cases e : rf_cut f nC mo (nI (8 + k)) = -1
    · rw [if_pos e, if_pos e, cl_tw_n f nC mo k (by omega), cl_bit_n k (by omega), cl_or256]
    · rw [if_neg e, if_neg e]; exact cl_tw_n f nC mo k (by omega)
theorem cl_TW_lt (f : mm_A) (nC : Nat) (mo : Int32) : ∀ k, cl_TW f nC mo k < 2 ^ k
  | 0 => Nat.one_pos
  | k + 1 => by
    have h := cl_TW_lt f nC mo k
    have h2 : 2 ^ k < 2 ^ (k + 1) := Nat.pow_lt_pow_right (by decide) (by omega)
    rw [cl_TW]
    split
    · exact Nat.or_lt_two_pow (Nat.lt_trans h h2) h2
    · exact Nat.lt_trans h h2
theorem cl_TW_t (f : mm_A) (nC : Nat) (mo : Int32) (i : Nat) : ∀ k, (cl_TW f nC mo k).testBit i = (decide (i < k) && decide (rf_cut f nC mo (nI (8 + i)) = -1))
  | 0 => by rw [decide_eq_false (Nat.not_lt_zero i)]; exact Nat.zero_testBit i
  | k + 1 => by
    rw [cl_TW]
    by_cases e : rf_cut f nC mo (nI (8 + k)) = -1
    · rw [if_pos e, Nat.testBit_or, cl_TW_t f nC mo i k, Nat.testBit_two_pow]
      by_cases h : k = i
      · subst h; rw [decide_eq_true rfl, decide_eq_true (Nat.lt_succ_self k), decide_eq_true e, Bool.or_true]; rfl
      · rw [decide_eq_false h, Bool.or_false]
        by_cases h2 : i < k
        · rw [decide_eq_true h2, decide_eq_true (show i < k + 1 by omega)]
        · rw [decide_eq_false h2, decide_eq_false (show ¬ i < k + 1 by omega)]
    · rw [if_neg e, cl_TW_t f nC mo i k]
      by_cases h : k = i
      · subst h; rw [decide_eq_false (Nat.lt_irrefl k), decide_eq_false e, Bool.and_false, Bool.and_false]
      · by_cases h2 : i < k
        · rw [decide_eq_true h2, decide_eq_true (show i < k + 1 by omega)]
        · rw [decide_eq_false h2, decide_eq_false (show ¬ i < k + 1 by omega)]
def cl_lk (f : mm_A) (nC : Nat) (mo : Int32) (v : Nat) : Nat := rf_lk f nC mo (nI v)
def cl_Q (a b c d : Nat) (z : Nat) : Bool := decide (z = 8 + a) || decide (z = 8 + b) || decide (z = 8 + c) || decide (z = 8 + d)
/-- how many of these gears have no cutter -/
def cl_N (f : mm_A) (nC : Nat) (mo : Int32) (a b c d : Nat) : Nat := cl_S (cl_lk f nC mo) (cl_Q a b c d) 13
theorem cl_bits (f : mm_A) (nC : Nat) (mo : Int32) {a b c d : Nat} (ha : a < 13) (hb : b < 13) (hc : c < 13) (hd : d < 13) : cl_bc ((cl_bit (8 + a) ||| cl_bit (8 + c) ||| cl_bit (8 + b) ||| cl_bit (8 + d)) &&& cl_tw f nC mo 13) = nI (cl_N f nC mo a b c d) := by
  have p : ∀ i, i < 13 → 2 ^ i < 2 ^ 13 := fun i h => Nat.pow_lt_pow_right (by decide) h
  rw [cl_bit_n a ha, cl_bit_n b hb, cl_bit_n c hc, cl_bit_n d hd, cl_tw_n f nC mo 13 (Nat.le_refl _), cl_or256, cl_or256, cl_or256, cl_and256, cl_pc (Nat.and_lt_two_pow _ (n := 13) (cl_TW_lt f nC mo 13)), cl_N]
  congr 1
  refine cl_S_cg 13 (fun i hi => ?_)
  rw [Nat.add_sub_cancel_left, Nat.testBit_and, Nat.testBit_or, Nat.testBit_or, Nat.testBit_or, Nat.testBit_two_pow, Nat.testBit_two_pow, Nat.testBit_two_pow, Nat.testBit_two_pow, cl_TW_t, decide_eq_true hi, Bool.true_and, cl_Q, cl_lk, rf_lk]
  have e : ∀ x, decide (8 + i = 8 + x) = decide (x = i) := fun x => by
    by_cases h : x = i
    · rw [decide_eq_true h, decide_eq_true (by omega)]
    · rw [decide_eq_false h, decide_eq_false (by omega)]
  rw [e, e, e, e]
  generalize decide (a = i) = A
  generalize decide (b = i) = B
  generalize decide (c = i) = C
  generalize decide (d = i) = D
  by_cases h : rf_cut f nC mo (nI (8 + i)) = -1
  · rw [decide_eq_true h, if_pos h]; cases A <;> cases B <;> cases C <;> cases D <;> rfl
  · rw [decide_eq_false h, if_neg h]; cases A <;> cases B <;> cases C <;> cases D <;> rfl
theorem cl_news (f : mm_A) (nC : Nat) (mo : Int32) {a b c d : Nat} (ha : a < 13) (hb : b < 13) (hc : c < 13) (hd : d < 13) : rf_news f nC mo (nI (8 + a)) (nI (8 + b)) (nI (8 + c)) (nI (8 + d)) = cl_N f nC mo a b c d := by
  have h1 := cl_S_add (cl_lk f nC mo) (fun _ => false) a 13
  have h2 := cl_S_add (cl_lk f nC mo) (fun z => false || decide (z = 8 + a)) b 13
  have h3 := cl_S_add (cl_lk f nC mo) (fun z => false || decide (z = 8 + a) || decide (z = 8 + b)) c 13
  have h4 := cl_S_add (cl_lk f nC mo) (fun z => false || decide (z = 8 + a) || decide (z = 8 + b) || decide (z = 8 + c)) d 13
  have e : cl_N f nC mo a b c d = cl_S (cl_lk f nC mo) (fun z => false || decide (z = 8 + a) || decide (z = 8 + b) || decide (z = 8 + c) || decide (z = 8 + d)) 13 := by
    rw [cl_N, show cl_Q a b c d = (fun z => false || decide (z = 8 + a) || decide (z = 8 + b) || decide (z = 8 + c) || decide (z = 8 + d)) from funext fun z => by rw [cl_Q, Bool.false_or]]
  rw [e, h4, h3, h2, h1, cl_S_no, if_pos ha, if_pos hb, if_pos hc, if_pos hd, rf_news]
  have q : ∀ x y, x < 13 → y < 13 → (nI (8 + x) = nI (8 + y) ↔ 8 + x = 8 + y) := fun x y hx hy => nI_eq (by omega) (by omega)
  simp only [cl_lk, q b a hb ha, q c a hc ha, q c b hc hb, q d a hd ha, q d b hd hb, q d c hd hc, Bool.false_or, Bool.or_eq_true, decide_eq_true_eq, Nat.zero_add, Bool.false_eq_true, if_false, or_assoc]
theorem cl_N_le (f : mm_A) (nC : Nat) (mo : Int32) {a b c d : Nat} (ha : a < 13) (hb : b < 13) (hc : c < 13) (hd : d < 13) : cl_N f nC mo a b c d ≤ 4 := by
  rw [← cl_news f nC mo ha hb hc hd, rf_news]
  have k := rf_lk_le f nC mo
  have k1 := k (nI (8 + a))
  have k2 := k (nI (8 + b))
  have k3 := k (nI (8 + c))
  have k4 := k (nI (8 + d))
  split <;> split <;> split <;> omega
theorem cl_N_ac (f : mm_A) (nC : Nat) (mo : Int32) (a b c d : Nat) : cl_N f nC mo a b c d = cl_N f nC mo c b a d := by
  rw [cl_N, cl_N]
  refine cl_S_cg 13 (fun i _ => ?_)
  rw [cl_Q, cl_Q]
  generalize decide (8 + i = 8 + a) = A
  generalize decide (8 + i = 8 + b) = B
  generalize decide (8 + i = 8 + c) = C
  cases A <;> cases B <;> cases C <;> rfl
theorem cl_N_bd (f : mm_A) (nC : Nat) (mo : Int32) (a b c d : Nat) : cl_N f nC mo a b c d = cl_N f nC mo a d c b := by
  rw [cl_N, cl_N]
  refine cl_S_cg 13 (fun i _ => ?_)
  rw [cl_Q, cl_Q]
  generalize decide (8 + i = 8 + b) = B
  generalize decide (8 + i = 8 + c) = C
  generalize decide (8 + i = 8 + d) = D
  generalize decide (8 + i = 8 + a) = A
  cases A <;> cases B <;> cases C <;> cases D <;> rfl
/-! the least of what is there -/
def cl_sp (S : Nat → Prop) (r : Int32) : Prop := (r = -1 ∧ ∀ m, ¬ S m) ∨ ∃ m, m ≤ 4 ∧ r = nI m ∧ S m ∧ ∀ m', S m' → m ≤ m'
theorem cl_sp.uq {S S' : Nat → Prop} {r r' : Int32} (h : cl_sp S r) (h' : cl_sp S' r') (e : ∀ m, S m ↔ S' m) : r = r' := by
  rcases h with ⟨a, b⟩ | ⟨m, a, b, c, d⟩ <;> rcases h' with ⟨a', b'⟩ | ⟨m', a', b', c', d'⟩
  · rw [a, a']
  · exact absurd ((e m').mpr c') (b m')
  · exact absurd ((e m).mp c) (b' m)
  · have h1 := d m' ((e m').mpr c')
    have h2 := d' m ((e m).mp c)
    rw [b, b', Nat.le_antisymm h1 h2]
theorem cl_sp.no : cl_sp (fun _ => False) (-1) := Or.inl ⟨rfl, fun _ h => h⟩
theorem cl_sp.one {v : Nat} (h : v ≤ 4) : cl_sp (fun m => m = v) (nI v) := Or.inr ⟨v, h, rfl, rfl, fun m' e => Nat.le_of_eq e.symm⟩
theorem cl_sp.les {S S' : Nat → Prop} {r r' : Int32} (h : cl_sp S r) (h' : cl_sp S' r') : cl_sp (fun m => S m ∨ S' m) (cl_les r r') := by
  unfold cl_les
  rcases h with ⟨rfl, b⟩ | ⟨m, a, rfl, c, d⟩
  · rw [if_pos rfl]
    rcases h' with ⟨rfl, b'⟩ | ⟨m', a', rfl, c', d'⟩
    · exact Or.inl ⟨rfl, fun m z => z.elim (b m) (b' m)⟩
    · exact Or.inr ⟨m', a', rfl, Or.inr c', fun x z => z.elim (fun z => absurd z (b x)) (d' x)⟩
  · rw [if_neg (nI_neg1 (by omega))]
    rcases h' with ⟨rfl, b'⟩ | ⟨m', a', rfl, c', d'⟩
    · rw [if_pos rfl]
      exact Or.inr ⟨m, a, rfl, Or.inl c, fun x z => z.elim (d x) (fun z => absurd z (b' x))⟩
    · rw [if_neg (nI_neg1 (by omega))]
      by_cases e : nI m' < nI m
      · rw [if_pos e]
        rw [nI_ltI (by omega) (by omega)] at e
        exact Or.inr ⟨m', a', rfl, Or.inr c', fun x z => z.elim (fun z => by have := d x z; omega) (d' x)⟩
      · rw [if_neg e]
        rw [nI_ltI (by omega) (by omega)] at e
        exact Or.inr ⟨m, a, rfl, Or.inl c, fun x z => z.elim (d x) (fun z => by have := d' x z; omega)⟩
theorem cl_sp.eq {S S' : Nat → Prop} {r : Int32} (h : cl_sp S r) (e : ∀ m, S m ↔ S' m) : cl_sp S' r := by
  rcases h with ⟨a, b⟩ | ⟨m, a, b, c, d⟩
  · exact Or.inl ⟨a, fun m z => b m ((e m).mpr z)⟩
  · exact Or.inr ⟨m, a, b, (e m).mp c, fun x z => d x ((e x).mpr z)⟩
theorem cl_lt_succ {p : Nat → Prop} {k : Nat} : (∃ i, i < k + 1 ∧ p i) ↔ ((∃ i, i < k ∧ p i) ∨ p k) := by
  constructor
  · rintro ⟨i, h, h2⟩
    rcases Nat.eq_or_lt_of_le (Nat.le_of_lt_succ h) with e | e
    · rw [e] at h2; exact Or.inr h2
    · exact Or.inl ⟨i, e, h2⟩
  · rintro (⟨i, h, h2⟩ | h)
    · exact ⟨i, by omega, h2⟩
    · exact ⟨k, by omega, h⟩
/-- the reference's -/
theorem rf_ln_sp (f : mm_A) (nC : Nat) (mo : Int32) (ab be : Nat) : ∀ k, k ≤ 28561 → cl_sp (fun m => ∃ i, i < k ∧ ((8 + i / 13 % 13) * (8 + i / 2197) * be = (8 + i % 13) * (8 + i / 169 % 13) * ab ∧ m = cl_N f nC mo (i % 13) (i / 13 % 13) (i / 169 % 13) (i / 2197))) (rf_ln f nC mo ab be k)
  | 0, _ => cl_sp.no.eq (fun m => ⟨fun h => h.elim, fun ⟨i, h, _⟩ => absurd h (Nat.not_lt_zero i)⟩)
  | k + 1, hk => by
    have ih := rf_ln_sp f nC mo ab be k (by omega)
    rw [rf_ln_s]
    have l1 : k % 13 < 13 := by omega
    have l2 : k / 13 % 13 < 13 := by omega
    have l3 : k / 169 % 13 < 13 := by omega
    have l4 : k / 2197 < 13 := by omega
    by_cases h : (8 + k / 13 % 13) * (8 + k / 2197) * be = (8 + k % 13) * (8 + k / 169 % 13) * ab
    · rw [if_pos h, cl_news f nC mo l1 l2 l3 l4]
      have h9 := cl_N_le f nC mo l1 l2 l3 l4
      have h8 := ih.les (cl_sp.one h9)
      have e : cl_les (rf_ln f nC mo ab be k) (nI (cl_N f nC mo (k % 13) (k / 13 % 13) (k / 169 % 13) (k / 2197))) = (if rf_ln f nC mo ab be k = -1 ∨ nI (cl_N f nC mo (k % 13) (k / 13 % 13) (k / 169 % 13) (k / 2197)) < rf_ln f nC mo ab be k then nI (cl_N f nC mo (k % 13) (k / 13 % 13) (k / 169 % 13) (k / 2197)) else rf_ln f nC mo ab be k) := by
        unfold cl_les
        by_cases q : rf_ln f nC mo ab be k = -1
        · rw [if_pos q, if_pos (Or.inl q)]
        · rw [if_neg q, if_neg (nI_neg1 (by omega))]
          by_cases q2 : nI (cl_N f nC mo (k % 13) (k / 13 % 13) (k / 169 % 13) (k / 2197)) < rf_ln f nC mo ab be k
          · rw [if_pos q2, if_pos (Or.inr q2)]
          · rw [if_neg q2, if_neg (fun z => z.elim q q2)]
      rw [← e]
      exact h8.eq (fun m => ⟨fun z => cl_lt_succ.mpr (z.elim Or.inl (fun z => Or.inr ⟨h, z⟩)), fun z => (cl_lt_succ.mp z).elim Or.inl (fun z => Or.inr z.2)⟩)
    · rw [if_neg h]
      exact ih.eq (fun m => ⟨fun z => cl_lt_succ.mpr (Or.inl z), fun z => (cl_lt_succ.mp z).elim id (fun z => absurd z.1 h)⟩)
theorem cl_ok_t {pr i : Nat} (hi : i < 13) (hp : pr ≤ 160000) (h : cl_ok pr (8 + i) = true) : pr / (8 + i) * (8 + i) = pr ∧ 8 + i ≤ pr / (8 + i) ∧ pr / (8 + i) ≤ 20 := by
  rw [cl_ok, Bool.and_eq_true, decide_eq_true_eq, rf_in_t] at h
  have h9 := Nat.div_le_self pr (8 + i)
  obtain ⟨h1, h2, h3⟩ := h
  have h3 := (nI_leI (by omega) (by decide)).mp h3
  have h2 := (nI_leI (a := 8 + i) (b := pr / (8 + i)) (by omega) (by omega)).mp h2
  exact ⟨h1, h2, h3⟩
/-- the class's inner row -/
theorem cl_lw_sp (f : mm_A) (nC : Nat) (mo : Int32) {a c pr : Nat} (ha : a < 13) (hc : c < 13) (hp : pr ≤ 160000) : ∀ k, k ≤ 13 → cl_sp (fun m => ∃ i, i < k ∧ (cl_ok pr (8 + i) = true ∧ m = cl_N f nC mo a i c (pr / (8 + i) - 8))) (cl_lw (cl_bit (8 + a) ||| cl_bit (8 + c)) (cl_tw f nC mo 13) pr k)
  | 0, _ => cl_sp.no.eq (fun m => ⟨fun h => h.elim, fun ⟨i, h, _⟩ => absurd h (Nat.not_lt_zero i)⟩)
  | k + 1, hk => by
    have ih := cl_lw_sp f nC mo ha hc hp k (by omega)
    rw [cl_lw]
    by_cases h : cl_ok pr (8 + k) = true
    · obtain ⟨h1, h2, h3⟩ := cl_ok_t (show k < 13 by omega) hp h
      rw [if_pos h]
      obtain ⟨d, hd⟩ : ∃ d, pr / (8 + k) = 8 + d := ⟨pr / (8 + k) - 8, by omega⟩
      rw [hd, cl_bits f nC mo ha (show k < 13 by omega) hc (show d < 13 by omega)]
      refine (ih.les (cl_sp.one (cl_N_le f nC mo ha (show k < 13 by omega) hc (show d < 13 by omega)))).eq (fun m => ⟨fun z => cl_lt_succ.mpr (z.elim Or.inl (fun z => Or.inr ⟨h, ?_⟩)), fun z => (cl_lt_succ.mp z).elim Or.inl (fun z => Or.inr ?_)⟩)
      · rw [hd, Nat.add_sub_cancel_left]; exact z
      · have z2 := z.2
        rw [hd, Nat.add_sub_cancel_left] at z2; exact z2
    · rw [if_neg h]
      exact ih.eq (fun m => ⟨fun z => cl_lt_succ.mpr (Or.inl z), fun z => (cl_lt_succ.mp z).elim id (fun z => absurd z.1 h)⟩)
abbrev cl_V (f : mm_A) (nC : Nat) (mo : Int32) (ab be a c m : Nat) : Prop := (8 + a) * (8 + c) * ab % be = 0 ∧ ∃ i, i < 13 ∧ (cl_ok ((8 + a) * (8 + c) * ab / be) (8 + i) = true ∧ m = cl_N f nC mo a i c ((8 + a) * (8 + c) * ab / be / (8 + i) - 8))
theorem cl_pr {ab be a c : Nat} (hab : ab ≤ 400) (ha : a < 13) (hc : c < 13) : (8 + a) * (8 + c) * ab / be ≤ 160000 := Nat.le_trans (Nat.div_le_self _ _) (Nat.le_trans (Nat.mul_le_mul (Nat.mul_le_mul (show 8 + a ≤ 20 by omega) (show 8 + c ≤ 20 by omega)) hab) (by decide))
theorem cl_in_sp (f : mm_A) (nC : Nat) (mo : Int32) {ab be a : Nat} {z : Int32} {S : Nat → Prop} (hab : ab ≤ 400) (ha : a < 13) (hz : cl_sp S z) : ∀ k, a + k ≤ 13 → cl_sp (fun m => S m ∨ ∃ j, j < k ∧ cl_V f nC mo ab be a (a + j) m) (cl_in (cl_tw f nC mo 13) ab be (8 + a) z k)
  | 0, _ => hz.eq (fun m => ⟨Or.inl, fun h => h.elim id (fun ⟨i, h, _⟩ => absurd h (Nat.not_lt_zero i))⟩)
  | k + 1, hk => by
    have ih := cl_in_sp (be := be) f nC mo hab ha hz k (by omega)
    rw [cl_in]
    by_cases h : (8 + a) * (8 + a + k) * ab % be = 0
    · rw [if_pos h]
      rw [Nat.add_assoc] at h ⊢
      refine (ih.les (cl_lw_sp f nC mo ha (show a + k < 13 by omega) (cl_pr hab ha (by omega)) 13 (Nat.le_refl _))).eq (fun m => ⟨fun z => ?_, fun z => ?_⟩)
      · rcases z with (z | z) | z
        · exact Or.inl z
        · exact Or.inr (cl_lt_succ.mpr (Or.inl z))
        · exact Or.inr (cl_lt_succ.mpr (Or.inr ⟨h, z⟩))
      · rcases z with z | z
        · exact Or.inl (Or.inl z)
        · rcases cl_lt_succ.mp z with z | z
          · exact Or.inl (Or.inr z)
          · exact Or.inr z.2
    · rw [if_neg h]
      rw [Nat.add_assoc] at h
      refine ih.eq (fun m => ⟨fun z => z.elim Or.inl (fun z => Or.inr (cl_lt_succ.mpr (Or.inl z))), fun z => z.elim Or.inl (fun z => (cl_lt_succ.mp z).elim Or.inr (fun z => absurd z.1 h))⟩)
theorem cl_out_sp (f : mm_A) (nC : Nat) (mo : Int32) {ab be : Nat} (hab : ab ≤ 400) : ∀ k, k ≤ 13 → cl_sp (fun m => ∃ a, a < k ∧ ∃ j, j < 13 - a ∧ cl_V f nC mo ab be a (a + j) m) (cl_out (cl_tw f nC mo 13) ab be k)
  | 0, _ => cl_sp.no.eq (fun m => ⟨fun h => h.elim, fun ⟨i, h, _⟩ => absurd h (Nat.not_lt_zero i)⟩)
  | k + 1, hk => by
    rw [cl_out]
    exact (cl_in_sp f nC mo hab (show k < 13 by omega) (cl_out_sp f nC mo hab k (by omega)) (13 - k) (by omega)).eq (fun m => cl_lt_succ.symm)
theorem cl_dec {a i c d : Nat} (ha : a < 13) (hi : i < 13) (hc : c < 13) (hd : d < 13) : (a + 13 * i + 169 * c + 2197 * d) % 13 = a ∧ (a + 13 * i + 169 * c + 2197 * d) / 13 % 13 = i ∧ (a + 13 * i + 169 * c + 2197 * d) / 169 % 13 = c ∧ (a + 13 * i + 169 * c + 2197 * d) / 2197 = d ∧ a + 13 * i + 169 * c + 2197 * d < 28561 := by
  have h1 : (a + 13 * i + 169 * c + 2197 * d) / 13 = i + 13 * c + 169 * d := by omega
  have h2 : (a + 13 * i + 169 * c + 2197 * d) / 169 = c + 13 * d := by omega
  have h3 : (a + 13 * i + 169 * c + 2197 * d) / 2197 = d := by omega
  rw [h1, h2, h3]
  exact ⟨by omega, by omega, by omega, rfl, by omega⟩
theorem cl_least (f : mm_A) (nC : Nat) (mo : Int32) {ab be : Nat} (hab : ab ≤ 400) (hbe : 1 ≤ be) : cl_out (cl_tw f nC mo 13) ab be 13 = rf_ln f nC mo ab be 28561 := by
  refine (cl_out_sp f nC mo hab 13 (Nat.le_refl _)).uq (rf_ln_sp f nC mo ab be 28561 (Nat.le_refl _)) (fun m => ⟨fun z => ?_, fun z => ?_⟩)
  · obtain ⟨a, ha, j, hj, h0, i, hi, hok, rfl⟩ := z
    obtain ⟨h1, h2, h3⟩ := cl_ok_t hi (cl_pr hab ha (by omega)) hok
    have hdv : (8 + a) * (8 + (a + j)) * ab / be * be = (8 + a) * (8 + (a + j)) * ab := Nat.div_mul_cancel (Nat.dvd_of_mod_eq_zero h0)
    obtain ⟨d, hd⟩ : ∃ d, (8 + a) * (8 + (a + j)) * ab / be / (8 + i) = 8 + d := ⟨(8 + a) * (8 + (a + j)) * ab / be / (8 + i) - 8, by omega⟩
    rw [hd] at h1 h2 h3 ⊢
    rw [Nat.add_sub_cancel_left]
    obtain ⟨q1, q2, q3, q4, q5⟩ := cl_dec ha hi (show a + j < 13 by omega) (show d < 13 by omega)
    refine ⟨a + 13 * i + 169 * (a + j) + 2197 * d, q5, ?_⟩
    rw [q1, q2, q3, q4]
    exact ⟨by rw [Nat.mul_comm (8 + i), h1, hdv], rfl⟩
  · obtain ⟨k, hk, h0, rfl⟩ := z
    have l1 : k % 13 < 13 := by omega
    have l2 : k / 13 % 13 < 13 := by omega
    have l3 : k / 169 % 13 < 13 := by omega
    have l4 : k / 2197 < 13 := by omega
    generalize k % 13 = a at h0 l1 ⊢
    generalize k / 13 % 13 = b at h0 l2 ⊢
    generalize k / 169 % 13 = c at h0 l3 ⊢
    generalize k / 2197 = d at h0 l4 ⊢
    have key : ∀ a c b d, a < 13 → c < 13 → b < 13 → d < 13 → a ≤ c → b ≤ d → (8 + b) * (8 + d) * be = (8 + a) * (8 + c) * ab → ∃ a', a' < 13 ∧ ∃ j, j < 13 - a' ∧ cl_V f nC mo ab be a' (a' + j) (cl_N f nC mo a b c d) := fun a c b d ha hc hb hd hac hbd h => by
      refine ⟨a, ha, c - a, by omega, ?_⟩
      rw [show a + (c - a) = c by omega]
      have e : (8 + a) * (8 + c) * ab / be = (8 + b) * (8 + d) := by rw [← h]; exact Nat.mul_div_cancel _ hbe
      have e2 : (8 + b) * (8 + d) / (8 + b) = 8 + d := Nat.mul_div_cancel_left _ (by omega)
      refine ⟨by rw [← h]; exact Nat.mul_mod_left _ _, b, hb, ?_, by rw [e, e2, Nat.add_sub_cancel_left]⟩
      rw [e, cl_ok, e2, Bool.and_eq_true, decide_eq_true_eq, rf_in_t]
      exact ⟨Nat.mul_comm _ _, nI_le (by omega) (by omega), nI_le (by omega) (by omega)⟩
    rcases Nat.le_total a c with q | q <;> rcases Nat.le_total b d with q2 | q2
    · exact key a c b d l1 l3 l2 l4 q q2 h0
    · rw [cl_N_bd]; exact key a c d b l1 l3 l4 l2 q q2 (by rw [Nat.mul_comm (8 + d)]; exact h0)
    · rw [cl_N_ac]; exact key c a b d l3 l1 l2 l4 q q2 (by rw [Nat.mul_comm (8 + c)]; exact h0)
    · rw [cl_N_ac, cl_N_bd]; exact key c a d b l3 l1 l4 l2 q q2 (by rw [Nat.mul_comm (8 + c), Nat.mul_comm (8 + d)]; exact h0)
