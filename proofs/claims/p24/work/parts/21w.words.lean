/-! Further words by their places. -/
theorem wd_31 : Cond.instanceMethod ⟨"java/lang/Object", "<init>", "()V"⟩ ∈ fw_tb := fw_m 48 (by decide +kernel) (by decide +kernel)
theorem wd_32 : Cond.code ⟨"java/lang/Object", "<init>", "()V"⟩ object_method_1_code 1 none ∈ fw_tb := fw_m 49 (by decide +kernel) (by decide +kernel)
theorem wd_145 : Cond.instanceMethod ⟨"java/lang/Object", "getClass", "()Ljava/lang/Class;"⟩ ∈ fw_tb := fw_m 162 (by decide +kernel) (by decide +kernel)
theorem wd_171 : Cond.static ⟨RJ10, "arraycopy", "(Ljava/lang/Object;ILjava/lang/Object;II)V"⟩ ∈ fw_tb := fw_m 188 (by decide +kernel) (by decide +kernel)
theorem fw_recA {s : State} {H : Heap} {locs : List Loc} {G : fw_G} {A : Nat → Prop} {F : fw_F} {t : fw_T} {a cap : Nat} {row : Nat → Option Nat} (hz : fw_Z G A s s.heap) (hw : fw_S G A s F H locs) (hF : F a = some (t, fw_oa G cap row)) : ∃ cell : Cell, H[a]? = some cell ∧ cell.vm.isStatics = false ∧ s.vm.findClass "[Ljava/lang/Object;" = some cell.cls := by
  have h1 : H[a]? = some (vp_cell (fw_cO G) (cap, .inr (.inr (.inr (.inr row))))) := hw.at hF 0 _ rfl
  obtain ⟨-, -, -, -, -, h4⟩ := (hz.1.2 2 _ rfl).2
  exact ⟨_, h1, rfl, h4⟩
