/-! The functional world: one map from addresses to tagged entities; an ArrayList with its array is one entity. -/
abbrev fw_T : Type := Nat × Nat × Nat
abbrev fw_E : Type := va_E ⊕ (Nat × Nat × (Nat → Nat))
abbrev fw_F : Type := Nat → Option (fw_T × fw_E)
abbrev fw_obj (ci : Nat) (fs : List Value) : fw_E := .inl (.inr (ci, fs))
abbrev fw_ia (cA : ClassId) (n : Nat) (f : Nat → Int32) : fw_E := .inl (.inl (cA, n, .inl f))
abbrev fw_la (cA : ClassId) (n : Nat) (f : Nat → Int64) : fw_E := .inl (.inl (cA, n, .inr (.inl f)))
abbrev fw_ls (arr n : Nat) (f : Nat → Nat) : fw_E := .inr (arr, n, f)
/-- the tables' environment: where classes and fields lie; the classes of int[], boolean[], Object[], long[]; the static empty array -/
abbrev fw_G : Type := va_G × (ClassId × ClassId × ClassId × ClassId) × Nat × Nat
abbrev fw_cI (G : fw_G) : ClassId := G.2.1.1
abbrev fw_cZ (G : fw_G) : ClassId := G.2.1.2.1
abbrev fw_cO (G : fw_G) : ClassId := G.2.1.2.2.1
abbrev fw_cJ (G : fw_G) : ClassId := G.2.1.2.2.2
abbrev fw_ea (G : fw_G) : Nat := G.2.2.1
abbrev fw_mi (G : fw_G) : Nat := G.2.2.2
/-- private members of nest mates that are called, and the texts of the exceptions -/
abbrev fw_nest : List (String × Nat × MethodName × String) := [(RX8, 30, yX7_init, RX8), (RX8, 41, yX3_init, RX8), (RX1, 16, yX8_commonDivisor, RX8)]
abbrev fw_strs : List (Nat × String) := [(59, "module, least or most is out of range"), (70, "there are 10 cutters"), (78, "module or teeth is out of range"), (84, "module, driver or driven is out of range"), (89, "the draft has 4 stages"), (105, "the draft is empty"), (107, "the draft has another distance"), (113, "a gear of the draft has no cutter"), (115, "there are 8 trains"), (246, "no such train"), (244, "turns is out of range"), (158, "there are 12 orders"), (172, "ticks is out of range"), (250, "no such machine"), (248, "no such order"), (200, "load or hours is out of range"), (206, "the order is not done, or broken"), (222, "no such stage")]
abbrev fw_tys (G : fw_G) : List (ClassId × FieldType) := [(fw_cI G, .int), (fw_cI G, .int), (fw_cO G, .object "java/lang/Object")]
/-- a list's two cells -/
def fw_lc (G : fw_G) (H : Heap) (a arr n : Nat) (f : Nat → Nat) : Prop := ∃ (mc : Int32) (cap : Nat) (row : Nat → Option Nat), va_at G.1 vwCl (a, .inr (0, [.int mc, .ref arr, .int (nI n)])) H ∧ n ≤ cap ∧ cap ≤ 160 ∧ (∀ i, i < n → row i = some (f i)) ∧ (∀ i, n ≤ i → row i = none) ∧ ((arr = fw_ea G ∧ cap = 0) ∨ (arr ≠ fw_ea G ∧ va_at G.1 vwCl (arr, .inl (fw_cO G, cap, .inr (.inr (.inr (.inr row))))) H))
def fw_c (G : fw_G) (H : Heap) (a : Nat) (e : fw_E) : Prop := match e with
  | .inl x => va_at G.1 vwCl (a, x) H
  | .inr q => fw_lc G H a q.1 q.2.1 q.2.2
def fw_P (G : fw_G) (F : fw_F) (H : Heap) : Prop := (∀ a t e, F a = some (t, e) → fw_c G H a e) ∧ (∀ a t arr n f, F a = some (t, fw_ls arr n f) → arr ≠ fw_ea G → F arr = none ∧ ∀ a' t' n' f', F a' = some (t', fw_ls arr n' f') → a' = a) ∧ (∀ a t arr n f, F a = some (t, fw_ls arr n f) → ∀ i, i < n → ∃ t' ci fs, F (f i) = some (t', fw_obj ci fs))
/-- what a method may write: its world's cells, and new ones -/
def fw_W (G : fw_G) (F : fw_F) (sz : Nat) (q : Nat) : Prop := (∃ x, F q = some x) ∨ (∃ a t n f, F a = some (t, fw_ls q n f) ∧ q ≠ fw_ea G) ∨ sz ≤ q
/-- the statics, strings and tables that methods read -/
def fw_Zv (G : fw_G) (U : State) : Prop := (∀ (ci : Nat) (q : vw_C), vwCl[ci]? = some q → va_Nw (.castable q.1 "java/lang/Object") U) ∧ (∀ q ∈ fw_nest, va_Nw (.methodLinkNest q.1 q.2.1 q.2.2.1 q.2.2.2) U) ∧ (∀ q ∈ fw_strs, ∃ a, vk_R RX8 q.1 q.2 a U) ∧ va_Mi "[Ljava/lang/Object;" (fw_mi G) U ∧ va_Dc U ∧ va_AO "java/lang/Object" U
theorem fw_Zv.to {G : fw_G} {s U : State} (h : fw_Zv G s) (hW : s.WarmedH U.vm) : fw_Zv G U := by
  refine ⟨fun ci q hc => va_Nw.warmC hW (h.1 ci q hc), fun q hq => va_Nw.warmM hW (h.2.1 q hq), fun q hq => ?_, h.2.2.2.1.moved hW.alike, h.2.2.2.2.1.moved hW.alike, h.2.2.2.2.2.moved hW.alike⟩
  obtain ⟨a, ha⟩ := h.2.2.1 q hq
  exact ⟨a, ha.warm hW⟩
def fw_Z (G : fw_G) (A : Nat → Prop) (U : State) (H : Heap) : Prop :=
  va_K G.1 vwCl (fw_tys G) U ∧ va_Z "java/util/ArrayList" "DEFAULTCAPACITY_EMPTY_ELEMENTDATA" "[Ljava/lang/Object;" (.ref (fw_ea G)) A U H ∧ va_T (.object "java/lang/Object") (fw_ea G) 0 (fun _ => .null) A U H ∧
  vx_Zq Bundle.tN "UNASSIGNED_STACK" Bundle.steD A U H ∧ vx_Zq Bundle.tN "SUPPRESSED_SENTINEL" Bundle.listD A U H ∧ fw_Zv G U
theorem fw_Z.to {G : fw_G} {A B : Nat → Prop} {s U : State} {H H1 : Heap} (h : fw_Z G A s H) (hW : s.WarmedH U.vm) (hq : ∀ a : Nat, a < H.size → ¬ A a → H1[a]? = H[a]?) (hAB : ∀ q, B q → A q) : fw_Z G B U H1 :=
  ⟨va_K.moved hW.alike h.1, ((h.2.1.moved hW.alike).kept hq).narrow hAB, ((h.2.2.1.moved hW.alike).kept hq).narrow hAB, ((h.2.2.2.1.moved hW.alike).kept hq).narrow hAB, ((h.2.2.2.2.1.moved hW.alike).kept hq).narrow hAB, h.2.2.2.2.2.to hW⟩
def fw_Pre (G : fw_G) (F : fw_F) (sz : Nat) (U : State) : Prop := U.heap.size = sz ∧ fw_P G F U.heap ∧ fw_Z G (fw_W G F sz) U U.heap
def fw_B (G : fw_G) (A : Nat → Prop) (F : fw_F) (t : State) : Prop := fw_P G F t.heap ∧ ∀ q, fw_W G F t.heap.size q → A q
/-- where a walk stands -/
def fw_S (G : fw_G) (A : Nat → Prop) (s : State) (F : fw_F) (H : Heap) (locs : List Loc) : Prop := fw_P G F H ∧ va_S A s.heap H locs ∧ ∀ q, fw_W G F H.size q → A q
theorem fw_at_lt {G : fw_G} {H : Heap} {a : Nat} {e : fw_E} (h : fw_c G H a e) : a < H.size := by
  cases e with
  | inl x => exact va_at.lt h
  | inr q =>
    obtain ⟨mc, cap, row, h1, -⟩ := h
    exact va_at.lt h1
theorem fw_arr_lt {G : fw_G} {H : Heap} {a arr n : Nat} {f : Nat → Nat} (h : fw_lc G H a arr n f) (hne : arr ≠ fw_ea G) : arr < H.size := by
  obtain ⟨mc, cap, row, -, -, -, -, -, h1⟩ := h
  rcases h1 with h1 | h1
  · exact absurd h1.1 hne
  · exact va_at.lt h1.2
theorem fw_c_kept {G : fw_G} {H H1 : Heap} {a : Nat} {e : fw_E} (h : fw_c G H a e) (h1 : H1[a]? = H[a]?) (h2 : ∀ arr n f, e = fw_ls arr n f → arr ≠ fw_ea G → H1[arr]? = H[arr]?) : fw_c G H1 a e := by
  cases e with
  | inl x => exact va_at.kept h h1
  | inr q =>
    obtain ⟨arr, n, f⟩ := q
    obtain ⟨mc, cap, row, g1, g2, g3, g4, g5, g6⟩ := h
    refine ⟨mc, cap, row, va_at.kept g1 h1, g2, g3, g4, g5, ?_⟩
    rcases g6 with g6 | g6
    · exact Or.inl g6
    · exact Or.inr ⟨g6.1, va_at.kept g6.2 (h2 arr n f rfl g6.1)⟩
/-- behind a write outside of the world's own cells -/
theorem fw_P_kept {G : fw_G} {F : fw_F} {H H1 : Heap} (h : fw_P G F H) (hq : ∀ q, q < H.size → ((∃ x, F q = some x) ∨ (∃ a t n f, F a = some (t, fw_ls q n f) ∧ q ≠ fw_ea G)) → H1[q]? = H[q]?) : fw_P G F H1 := by
  refine ⟨fun a t e he => ?_, h.2⟩
  have hc := h.1 a t e he
  refine fw_c_kept hc (hq a (fw_at_lt hc) (Or.inl ⟨_, he⟩)) (fun arr n f hf hne => ?_)
  subst hf
  exact hq arr (fw_arr_lt hc hne) (Or.inr ⟨a, t, n, f, he, hne⟩)
theorem fw_up_self {F : fw_F} {a : Nat} {x : fw_T × fw_E} : va_up F a (some x) a = some x := va_up_self F a _
theorem fw_up_tag {F : fw_F} {a b : Nat} {t t' u : fw_T} {e e' d : fw_E} (hb : F b = some (t', e')) (ha : F a = some (t, e)) (hne : t' ≠ t) : va_up F a (some (u, d)) b = some (t', e') := by
  rw [va_up_ne F _ (fun h => hne (by rw [h, ha] at hb; cases hb; rfl))]
  exact hb
theorem fw_up_new {F : fw_F} {q b : Nat} {x y : fw_T × fw_E} (hb : F b = some y) (hq : F q = none) : va_up F q (some x) b = some y := by
  rw [va_up_ne F _ (fun h => by rw [h, hq] at hb; cases hb)]
  exact hb
/-- an object's or array's cell gets another content (of its kind) -/
theorem fw_P_set {G : fw_G} {F : fw_F} {H H1 : Heap} {a : Nat} {t u : fw_T} {x y : va_E} (h : fw_P G F H) (ha : F a = some (t, .inl x)) (hy : va_at G.1 vwCl (a, y) H1) (oq : ∀ q : Nat, q ≠ a → H1[q]? = H[q]?) (hk : ∀ ci fs, x = .inr (ci, fs) → ∃ ci' fs', y = .inr (ci', fs')) : fw_P G (va_up F a (some (u, .inl y))) H1 := by
  have hls : ∀ b t' arr n f, va_up F a (some (u, .inl y)) b = some (t', fw_ls arr n f) → F b = some (t', fw_ls arr n f) := by
    intro b t' arr n f hb
    by_cases hba : b = a
    · subst hba
      rw [va_up_self] at hb
      cases hb
    · rwa [va_up_ne F _ hba] at hb
  refine ⟨fun b t' e hb => ?_, fun b t' arr n f hb hne => ?_, fun b t' arr n f hb i hi => ?_⟩
  · by_cases hba : b = a
    · subst hba
      rw [va_up_self] at hb
      cases hb
      exact hy
    · rw [va_up_ne F _ hba] at hb
      refine fw_c_kept (h.1 b t' e hb) (oq b hba) (fun arr n f he hne => oq arr ?_)
      subst he
      intro h9
      have h8 := (h.2.1 b t' arr n f hb hne).1
      rw [h9, ha] at h8
      cases h8
  · have hb' := hls b t' arr n f hb
    obtain ⟨h1, h2⟩ := h.2.1 b t' arr n f hb' hne
    refine ⟨?_, fun a' t'' n' f' h9 => h2 a' t'' n' f' (hls a' t'' arr n' f' h9)⟩
    rw [va_up_ne F _ (fun h9 => by rw [h9, ha] at h1; cases h1)]
    exact h1
  · obtain ⟨t1, ci, fs, h1⟩ := h.2.2 b t' arr n f (hls b t' arr n f hb) i hi
    by_cases hba : f i = a
    · rw [hba, ha] at h1
      cases h1
      obtain ⟨ci', fs', rfl⟩ := hk ci fs rfl
      exact ⟨u, ci', fs', by rw [hba, va_up_self]⟩
    · exact ⟨t1, ci, fs, by rw [va_up_ne F _ hba]; exact h1⟩
/-- a fresh cell -/
theorem fw_P_new {G : fw_G} {F : fw_F} {H H1 : Heap} {u : fw_T} {y : va_E} (h : fw_P G F H) (hy : va_at G.1 vwCl (H.size, y) H1) (oq : ∀ q : Nat, q < H.size → H1[q]? = H[q]?) : F H.size = none ∧ fw_P G (va_up F H.size (some (u, .inl y))) H1 := by
  have hn : F H.size = none := by
    cases hF : F H.size with
    | none => rfl
    | some z => exact absurd (fw_at_lt (h.1 _ z.1 z.2 hF)) (Nat.lt_irrefl _)
  have hls : ∀ b t' arr n f, va_up F H.size (some (u, .inl y)) b = some (t', fw_ls arr n f) → F b = some (t', fw_ls arr n f) := by
    intro b t' arr n f hb
    by_cases hba : b = H.size
    · subst hba
      rw [va_up_self] at hb
      cases hb
    · rwa [va_up_ne F _ hba] at hb
  refine ⟨hn, fun b t' e hb => ?_, fun b t' arr n f hb hne => ?_, fun b t' arr n f hb i hi => ?_⟩
  · by_cases hba : b = H.size
    · subst hba
      rw [va_up_self] at hb
      cases hb
      exact hy
    · rw [va_up_ne F _ hba] at hb
      have hc := h.1 b t' e hb
      refine fw_c_kept hc (oq b (fw_at_lt hc)) (fun arr n f he hne => ?_)
      subst he
      exact oq arr (fw_arr_lt hc hne)
  · have hb' := hls b t' arr n f hb
    obtain ⟨h1, h2⟩ := h.2.1 b t' arr n f hb' hne
    refine ⟨?_, fun a' t'' n' f' h9 => h2 a' t'' n' f' (hls a' t'' arr n' f' h9)⟩
    rw [va_up_ne F _ (Nat.ne_of_lt (fw_arr_lt (h.1 _ _ _ hb') hne))]
    exact h1
  · obtain ⟨t1, ci, fs, h1⟩ := h.2.2 b t' arr n f (hls b t' arr n f hb) i hi
    exact ⟨t1, ci, fs, fw_up_new h1 hn⟩
theorem fw_W_set {G : fw_G} {F : fw_F} {a : Nat} {t u : fw_T} {x y : va_E} {sz : Nat} (ha : F a = some (t, .inl x)) : ∀ q, fw_W G (va_up F a (some (u, .inl y))) sz q → fw_W G F sz q := by
  intro q h
  rcases h with ⟨z, h⟩ | ⟨b, t', n, f, h, hne⟩ | h
  · by_cases hq : q = a
    · exact Or.inl ⟨_, by rw [hq]; exact ha⟩
    · rw [va_up_ne F _ hq] at h
      exact Or.inl ⟨z, h⟩
  · refine Or.inr (Or.inl ⟨b, t', n, f, ?_, hne⟩)
    by_cases hq : b = a
    · rw [hq, va_up_self] at h
      cases h
    · rwa [va_up_ne F _ hq] at h
  · exact Or.inr (Or.inr h)
theorem fw_W_new {G : fw_G} {F : fw_F} {a : Nat} {u : fw_T} {y : va_E} {sz sz1 : Nat} (h1 : sz ≤ sz1) (h2 : sz ≤ a) : ∀ q, fw_W G (va_up F a (some (u, .inl y))) sz1 q → fw_W G F sz q := by
  intro q h
  rcases h with ⟨z, h⟩ | ⟨b, t', n, f, h, hne⟩ | h
  · by_cases hq : q = a
    · exact Or.inr (Or.inr (by omega))
    · rw [va_up_ne F _ hq] at h
      exact Or.inl ⟨z, h⟩
  · refine Or.inr (Or.inl ⟨b, t', n, f, ?_, hne⟩)
    by_cases hq : b = a
    · rw [hq, va_up_self] at h
      cases h
    · rwa [va_up_ne F _ hq] at h
  · exact Or.inr (Or.inr (by omega))
theorem fw_W_more {G : fw_G} {F : fw_F} {sz sz1 : Nat} (h1 : sz ≤ sz1) : ∀ q, fw_W G F sz1 q → fw_W G F sz q := by
  intro q h
  rcases h with h | h | h
  · exact Or.inl h
  · exact Or.inr (Or.inl h)
  · exact Or.inr (Or.inr (by omega))
/-- a tag is another: nothing of the heap changes -/
theorem fw_retag {G : fw_G} {F : fw_F} {H : Heap} {a : Nat} {t u : fw_T} {e : fw_E} (h : fw_P G F H) (ha : F a = some (t, e)) : fw_P G (va_up F a (some (u, e))) H := by
  have hls : ∀ b t' e', va_up F a (some (u, e)) b = some (t', e') → ∃ t0, F b = some (t0, e') := by
    intro b t' e' hb
    by_cases hba : b = a
    · subst hba
      rw [va_up_self] at hb
      cases hb
      exact ⟨_, ha⟩
    · rw [va_up_ne F _ hba] at hb
      exact ⟨_, hb⟩
  refine ⟨fun b t' e' hb => ?_, fun b t' arr n f hb hne => ?_, fun b t' arr n f hb i hi => ?_⟩
  · obtain ⟨t0, h0⟩ := hls b t' e' hb
    exact h.1 b t0 e' h0
  · obtain ⟨t0, h0⟩ := hls b t' _ hb
    obtain ⟨h1, h2⟩ := h.2.1 b t0 arr n f h0 hne
    refine ⟨?_, fun a' t'' n' f' h9 => ?_⟩
    · rw [va_up_ne F _ (fun h9 => by rw [h9, ha] at h1; cases h1)]
      exact h1
    · obtain ⟨t9, h8⟩ := hls a' t'' _ h9
      exact h2 a' t9 n' f' h8
  · obtain ⟨t0, h0⟩ := hls b t' _ hb
    obtain ⟨t1, ci, fs, h1⟩ := h.2.2 b t0 arr n f h0 i hi
    by_cases hba : f i = a
    · rw [hba, ha] at h1
      cases h1
      exact ⟨u, ci, fs, by rw [hba, va_up_self]⟩
    · exact ⟨t1, ci, fs, by rw [va_up_ne F _ hba]; exact h1⟩
theorem fw_W_retag {G : fw_G} {F : fw_F} {a : Nat} {t u : fw_T} {e : fw_E} {sz : Nat} (ha : F a = some (t, e)) : ∀ q, fw_W G (va_up F a (some (u, e))) sz q → fw_W G F sz q := by
  intro q h
  rcases h with ⟨z, h⟩ | ⟨b, t', n, f, h, hne⟩ | h
  · by_cases hq : q = a
    · exact Or.inl ⟨_, by rw [hq]; exact ha⟩
    · rw [va_up_ne F _ hq] at h
      exact Or.inl ⟨z, h⟩
  · by_cases hq : b = a
    · rw [hq, va_up_self] at h
      cases h
      exact Or.inr (Or.inl ⟨a, t, n, f, ha, hne⟩)
    · rw [va_up_ne F _ hq] at h
      exact Or.inr (Or.inl ⟨b, t', n, f, h, hne⟩)
  · exact Or.inr (Or.inr h)
theorem fw_S.retag {G : fw_G} {A : Nat → Prop} {s : State} {F : fw_F} {H : Heap} {locs : List Loc} {a : Nat} {t : fw_T} {e : fw_E} (h : fw_S G A s F H locs) (u : fw_T) (ha : F a = some (t, e)) : fw_S G A s (va_up F a (some (u, e))) H locs := ⟨fw_retag h.1 ha, h.2.1, fun q hq => h.2.2 q (fw_W_retag ha q hq)⟩
theorem fw_S.start {G : fw_G} {s : State} {F : fw_F} (h : fw_P G F s.heap) : fw_S G (fw_W G F s.heap.size) s F s.heap [] := ⟨h, va_S.rf, fun _ h => h⟩
theorem fw_S.at {G : fw_G} {A : Nat → Prop} {s : State} {F : fw_F} {H : Heap} {locs : List Loc} {a : Nat} {t : fw_T} {x : va_E} (h : fw_S G A s F H locs) (ha : F a = some (t, .inl x)) : va_P G.1 vwCl [(a, x)] H := by
  intro k q hk
  cases k with
  | zero => cases hk; exact h.1.1 a t _ ha
  | succ k => cases hk
theorem fw_S.inA {G : fw_G} {A : Nat → Prop} {s : State} {F : fw_F} {H : Heap} {locs : List Loc} {a : Nat} {x : fw_T × fw_E} (h : fw_S G A s F H locs) (ha : F a = some x) : A a := h.2.2 a (Or.inl ⟨_, ha⟩)
