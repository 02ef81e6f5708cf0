/-! WHAT NO STEP CHANGES -/
/-- the exceptions' names -/
def mm_xn : Nat → String := fun k => match k with
  | 0 => "java/lang/IllegalArgumentException"
  | 1 => "java/lang/UnsupportedOperationException"
  | 2 => "java/lang/IndexOutOfBoundsException"
  | 3 => "java/util/NoSuchElementException"
  | _ => "java/lang/IllegalStateException"
/-- calls of makers by mates of their nest -/
def mm_nest : List (Nat × Nat × MethodName) := [(10, 9, yX8_init), (10, 18, yX2_init), (3, 11, yX2_init), (9, 11, yX0_init), (9, 20, yX6_init), (9, 27, yX1_init), (9, 34, yX4_init)]
/-- what no step changes: the tables, the statics, the texts, the script -/
def mm_G (D : va_G) (b : Nat) (sA : Nat → Nat) (cid : Nat → ClassId) (L : Nat) (xs : Nat → Int32) (U : State) (H : Heap) : Prop :=
  va_K D vwCl (mm_tys cid) U ∧ (va_AO RX9 U ∧ (∀ q ∈ mm_nest, va_Nw (.methodLinkNest (mm_cn q.1) q.2.1 q.2.2 "SerialGate") U) ∧ ∀ i j, i < 5 → j < 5 → i ≠ j → va_Nc (mm_xn i) (mm_xn j) U) ∧ (vx_Zq Bundle.tN "UNASSIGNED_STACK" Bundle.steD (fun q => b ≤ q) U H ∧ vx_Zq Bundle.tN "SUPPRESSED_SENTINEL" Bundle.listD (fun q => b ≤ q) U H) ∧
  (∀ q ∈ mm_strs, vk_R (mm_cn q.1) q.2.1 q.2.2.1 (sA q.2.2.2) U) ∧ (∃ adV : Nat → Nat, vk_S 36 (mm_txl.map List.length) mm_txl sA adV (fun q => b ≤ q) U H) ∧ (va_Z "java/lang/String" "COMPACT_STRINGS" "Z" (.int 1) (fun q => b ≤ q) U H ∧ va_Zq "jdk/internal/util/Preconditions" "SIOOBE_FORMATTER" "Ljava/util/function/BiFunction;" (fun q => b ≤ q) U H) ∧ va_X (sA 1000000) L xs U H ∧ sA 1000000 < b
theorem mm_G_go {D : va_G} {b : Nat} {sA : Nat → Nat} {cid : Nat → ClassId} {L : Nat} {xs : Nat → Int32} {u U : State} {H H1 : Heap} (hW : u.WarmedH U.vm) (hk : ∀ a : Nat, a < H.size → ¬ b ≤ a → H1[a]? = H[a]?) (h : mm_G D b sA cid L xs u H) : mm_G D b sA cid L xs U H1 := by
  obtain ⟨h1, ⟨h2, h3, h3c⟩, ⟨h4, h5⟩, h6, ⟨adV, h7⟩, ⟨h8, h8q⟩, h9, h10⟩ := h
  have hal := hW.alike
  refine ⟨va_K.moved hal h1, ⟨va_AO.moved hal h2, fun q hq => va_Nw.warmM hW (h3 q hq), fun i j hi hj hij => va_Nc.moved hal (h3c i j hi hj hij)⟩, ⟨(vx_Zq.moved hal h4).kept hk, (vx_Zq.moved hal h5).kept hk⟩, fun q hq => vk_R.warm hW (h6 q hq), ⟨adV, (vk_S.moved hal h7).kept hk⟩, ⟨(va_Z.moved hal h8).kept hk, (va_Zq.moved hal h8q).kept hk⟩, (va_X.moved hal h9).kept (hk _ ?_ (Nat.not_le.mpr h10)), h10⟩
  obtain ⟨scr, q, -⟩ := h9
  exact (Array.getElem?_eq_some_iff.mp q).1
