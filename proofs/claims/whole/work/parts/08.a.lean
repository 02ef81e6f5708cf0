/-! PURE LAYER: numbers, bits (began as kit/laws/BITS.to-paste), the state -/
def bt (x : Int32) (i : Nat) : Bool := x.toBitVec.getLsbD i
theorem b_ext {x y : Int32} (h : ∀ i, i < 32 → bt x i = bt y i) : x = y := Int32.toBitVec_inj.mp (BitVec.eq_of_getLsbD_eq (fun i hi => h i hi))
theorem b_or (x y : Int32) (i : Nat) : bt (x ||| y) i = (bt x i || bt y i) := by unfold bt; rw [Int32.toBitVec_or, BitVec.getLsbD_or]
theorem b_and (x y : Int32) (i : Nat) : bt (x &&& y) i = (bt x i && bt y i) := by unfold bt; rw [Int32.toBitVec_and, BitVec.getLsbD_and]
theorem b_xor (x y : Int32) (i : Nat) : bt (x ^^^ y) i = (bt x i ^^ bt y i) := by unfold bt; rw [Int32.toBitVec_xor, BitVec.getLsbD_xor]
theorem b_big {x : Int32} {i : Nat} (h : 32 ≤ i) : bt x i = false := BitVec.getLsbD_of_ge _ _ h
theorem b_255 (i : Nat) : bt 255 i = decide (i < 8) := by
  rcases Nat.lt_or_ge i 32 with h | h
  · exact (by decide +kernel : ∀ i, i < 32 → bt 255 i = decide (i < 8)) i h
  · rw [b_big h, decide_eq_false (by omega)]
theorem b_65535 (i : Nat) : bt 65535 i = decide (i < 16) := by
  rcases Nat.lt_or_ge i 32 with h | h
  · exact (by decide +kernel : ∀ i, i < 32 → bt 65535 i = decide (i < 16)) i h
  · rw [b_big h, decide_eq_false (by omega)]
theorem b_m1 : ∀ i, i < 32 → bt (-1) i = true := by decide +kernel
theorem b_0 (i : Nat) : bt 0 i = false := BitVec.getLsbD_zero
theorem s_l : ∀ n, n < 32 → ((nI n &&& 31).toBitVec.smod 32).toNat = n := by decide +kernel
theorem s_u : ∀ n, n < 32 → (((nI n).toUInt32 &&& Int32.toUInt32 31).toBitVec % 32).toNat = n := by decide +kernel
theorem b_shl (n : Nat) (hn : n < 32) (x : Int32) {i : Nat} (hi : i < 32) : bt (x <<< (nI n &&& 31)) i = (decide (n ≤ i) && bt x (i - n)) := by
  unfold bt
  rw [Int32.toBitVec_shiftLeft]
  show (x.toBitVec <<< ((nI n &&& 31).toBitVec.smod 32).toNat).getLsbD i = _
  rw [s_l n hn, BitVec.getLsbD_shiftLeft]
  rcases Nat.lt_or_ge i n with h | h
  · simp [h, Nat.not_le.mpr h]
  · simp [hi, h, Nat.not_lt.mpr h]
theorem b_ushr (n : Nat) (hn : n < 32) (x : Int32) (i : Nat) : bt ((x.toUInt32 >>> ((nI n).toUInt32 &&& Int32.toUInt32 31)).toInt32) i = bt x (n + i) := by
  show (x.toUInt32 >>> ((nI n).toUInt32 &&& Int32.toUInt32 31)).toBitVec.getLsbD i = x.toUInt32.toBitVec.getLsbD (n + i)
  rw [UInt32.toBitVec_shiftRight]
  show (x.toUInt32.toBitVec >>> (((nI n).toUInt32 &&& Int32.toUInt32 31).toBitVec % 32).toNat).getLsbD i = _
  rw [s_u n hn, BitVec.getLsbD_ushiftRight]
theorem b_sshr (n : Nat) (hn : n < 32) (x : Int32) {i : Nat} (hi : i < 32) : bt (x >>> (nI n &&& 31)) i = if n + i < 32 then bt x (n + i) else bt x 31 := by
  unfold bt
  rw [Int32.toBitVec_shiftRight]
  show (x.toBitVec.sshiftRight ((nI n &&& 31).toBitVec.smod 32).toNat).getLsbD i = _
  rw [s_l n hn, BitVec.getLsbD_sshiftRight, BitVec.msb_eq_getLsbD_last]
  simp [hi]

theorem nI_lit (n : Nat) : (OfNat.ofNat n : Int32) = nI (OfNat.ofNat n) := Int32.toBitVec_inj.mp rfl
theorem nI_clp {n : Nat} (h : n < 2147483648) : (nI n).toNatClampNeg = n := nI_clamp h
theorem nI_eqv {a b : Nat} (ha : a < 2147483648) (hb : b < 2147483648) : (nI a = nI b) = (a = b) := propext (nI_eq ha hb)
theorem nI_lev {a b : Nat} (ha : a < 2147483648) (hb : b < 2147483648) : (nI a ≤ nI b) = (a ≤ b) := propext (nI_leI ha hb)
theorem nI_ltv {a b : Nat} (ha : a < 2147483648) (hb : b < 2147483648) : (nI a < nI b) = (a < b) := propext (nI_ltI ha hb)
theorem nI_neg {a : Nat} (ha : a < 2147483648) : (nI a = -nI 1) = False := by
  apply propext
  constructor
  · intro h
    have h2 := congrArg Int32.toInt h
    rw [nI_toInt ha] at h2
    have : (-nI 1 : Int32).toInt = -1 := by decide
    omega
  · intro h; cases h
theorem nI_neg' {a : Nat} (ha : a < 2147483648) : (-nI 1 = nI a) = False := by
  rw [← nI_neg ha]; exact propext ⟨Eq.symm, Eq.symm⟩
theorem nI_subv {a b : Nat} (h : b ≤ a) : nI a - nI b = nI (a - b) := pk_sub h
theorem nI_pm (n : Nat) : nI (n + 1) + -nI 1 = nI n := pk_m1 n
theorem nI_rem {a d : Nat} (ha : a < 2147483648) (h0 : 0 < d) (hd : d < 2147483648) : rmI (nI a) (nI d) = nI (a % d) := pk_rem ha h0 hd
theorem nI_quo {a d : Nat} (ha : a < 2147483648) (h0 : 0 < d) (hd : d < 2147483648) : nI a / nI d = nI (a / d) := pk_div ha h0 hd

theorem bN_rv {v : Int32} {s : mS} {k : Int32 → mS → Option mQ} : bN (rv v s) k = k v s := Eq.trans rfl rfl
theorem bM_ru {s : mS} {k : mS → Option mQ} : bM (ru s) k = k s := Eq.trans rfl rfl
theorem bV_rv {v : Int32} {s : mS} {k : Int32 → mS → Option mQ} : bV (rv v s) k = k v s := Eq.trans rfl rfl
theorem bV_rx {x : Nat} {s : mS} {k : Int32 → mS → Option mQ} : bV (rx x s) k = rx x s := Eq.trans rfl rfl
theorem bU_ru {s : mS} {k : mS → Option mQ} : bU (ru s) k = k s := Eq.trans rfl rfl
theorem bU_rx {x : Nat} {s : mS} {k : mS → Option mQ} : bU (rx x s) k = rx x s := Eq.trans rfl rfl
theorem bN_ite {c : Prop} {inst : Decidable c} {A B : Option mQ} {k : Int32 → mS → Option mQ} : bN (@ite _ c inst A B) k = @ite _ c inst (bN A k) (bN B k) := by cases inst <;> rfl
theorem bM_ite {c : Prop} {inst : Decidable c} {A B : Option mQ} {k : mS → Option mQ} : bM (@ite _ c inst A B) k = @ite _ c inst (bM A k) (bM B k) := by cases inst <;> rfl
theorem bV_ite {c : Prop} {inst : Decidable c} {A B : Option mQ} {k : Int32 → mS → Option mQ} : bV (@ite _ c inst A B) k = @ite _ c inst (bV A k) (bV B k) := by cases inst <;> rfl
theorem bU_ite {c : Prop} {inst : Decidable c} {A B : Option mQ} {k : mS → Option mQ} : bU (@ite _ c inst A B) k = @ite _ c inst (bU A k) (bU B k) := by cases inst <;> rfl
theorem bx_e {v : Int32} {k : Int32 → Option mQ} : bx v k = k v := Eq.trans rfl rfl
theorem sp_e {s : mS} {k : mS → Option mQ} : sp s k = k s := Eq.trans rfl rfl
theorem gA_ok {n i : Nat} {c : Option mQ} (h : i < n) (hn : n < 2147483648) : gA n (nI i) c = c := if_neg (nI_in h hn)
theorem gZ_ok {y : Int32} {c : Option mQ} (h : ¬ y = 0) : gZ y c = c := if_neg h
theorem gZ_n {y : Nat} {c : Option mQ} (h : 0 < y) (hy : y < 2147483648) : gZ (nI y) c = c := if_neg (nI_ne0 h hy)
theorem gB_0 {c : Option mQ} : gB (nI 0) c = c := if_pos (Or.inl rfl)
theorem gB_1 {c : Option mQ} : gB (nI 1) c = c := if_pos (Or.inr rfl)
theorem gB_i {p : Prop} {inst : Decidable p} {c : Option mQ} : gB (@ite _ p inst (nI 1) (nI 0)) c = c := by cases inst; exact gB_0; exact gB_1
theorem gC_ok {n0 n1 p q n : Nat} {c : Option mQ} (h1 : p + n ≤ n0) (h2 : q + n ≤ n1) (h3 : n0 < 2147483648) (h4 : n1 < 2147483648) : gC n0 n1 (nI p) (nI q) (nI n) c = c := by
  unfold gC
  rw [nI_clp (show p < 2147483648 by omega), nI_clp (show q < 2147483648 by omega), nI_clp (show n < 2147483648 by omega)]
  exact if_pos ⟨⟨nI_pos (by omega), nI_pos (by omega), nI_pos (by omega)⟩, h1, h2⟩
theorem sI_at {s : mS} {a k b j : Nat} {x : Int32} : (sI s a k x).1 b j = if b = a then (if j = k then x else s.1 b j) else s.1 b j := by
  unfold sI upd
  dsimp only
  by_cases h : b = a
  · subst h; rw [if_pos rfl, if_pos rfl]
  · rw [if_neg h, if_neg h]
theorem sI_2 {s : mS} {a k : Nat} {x : Int32} : (sI s a k x).2 = s.2 := rfl
theorem sC_at {s : mS} {a0 a1 p q n b j : Nat} : (sC s a0 a1 p q n).1 b j = if b = a1 then (if q ≤ j ∧ j < q + n then s.1 a0 (p + (j - q)) else s.1 b j) else s.1 b j := by
  unfold sC va_cpy
  dsimp only
  by_cases h : b = a1
  · subst h; rw [if_pos rfl, if_pos rfl]
  · rw [if_neg h, if_neg h]
theorem sC_2 {s : mS} {a0 a1 p q n : Nat} : (sC s a0 a1 p q n).2 = s.2 := rfl
theorem ite_10 {p : Prop} {inst : Decidable p} {i2 : Decidable ((@ite _ p inst (nI 1) (nI 0)) = nI 0)} {A B : Option mQ} : (@ite _ ((@ite _ p inst (nI 1) (nI 0)) = nI 0) i2 A B) = @ite _ p inst B A := by
  cases inst with
  | isTrue h => exact if_neg (show ¬ (nI 1 = nI 0) by decide)
  | isFalse h => exact if_pos rfl
theorem le_f {a b : Nat} (h : b < a) : (a ≤ b) = False := eq_false (by omega)
theorem le_t {a b : Nat} (h : a ≤ b) : (a ≤ b) = True := eq_true h
theorem lt_f {a b : Nat} (h : b ≤ a) : (a < b) = False := eq_false (by omega)
theorem lt_t {a b : Nat} (h : a < b) : (a < b) = True := eq_true h
theorem eq_f {a b : Nat} (h : a ≠ b) : (a = b) = False := eq_false h
/-! bits -/
theorem bt_b (x : Int32) {n : Nat} (hn : n < 32) : (shrI x (nI n) &&& nI 1) = if bt x n = true then nI 1 else nI 0 := by
  apply b_ext
  intro i hi
  rw [b_and]
  unfold shrI
  rw [show (31 : Int32) = (31 : Int32) from rfl, b_sshr n hn x hi]
  have h1 : bt (nI 1) i = decide (i = 0) := (by decide +kernel : ∀ i, i < 32 → bt (nI 1) i = decide (i = 0)) i hi
  have h0 : bt (nI 0) i = false := b_0 i
  rw [h1]
  by_cases hz : i = 0
  · subst hz
    rw [if_pos (by omega), Nat.add_zero]
    cases bt x n
    · exact h0.symm
    · exact h1.symm
  · rw [decide_eq_false hz, Bool.and_false]
    split
    · rw [h1, decide_eq_false hz]
    · rw [h0]
theorem bt_0 (x : Int32) {n : Nat} (hn : n < 32) : (shrI x (nI n) &&& nI 1 = nI 0) = (bt x n = false) := by
  rw [bt_b x hn]
  cases bt x n
  · exact propext ⟨fun _ => rfl, fun _ => rfl⟩
  · exact propext ⟨fun h => absurd h (by decide), fun h => by cases h⟩
theorem bt_1 (x : Int32) {n : Nat} (hn : n < 32) : (shrI x (nI n) &&& nI 1 = nI 1) = (bt x n = true) := by
  rw [bt_b x hn]
  cases bt x n
  · exact propext ⟨fun h => absurd h (by decide), fun h => by cases h⟩
  · exact propext ⟨fun _ => rfl, fun _ => rfl⟩
theorem bt_sh {n i : Nat} (hn : n < 32) : bt (shlI (nI 1) (nI n)) i = decide (i = n) := by
  by_cases hi : i < 32
  · exact (by decide +kernel : ∀ n, n < 32 → ∀ i, i < 32 → bt (shlI (nI 1) (nI n)) i = decide (i = n)) n hn i hi
  · rw [b_big (by omega), decide_eq_false (by omega)]
theorem bt_no {x : Int32} {i : Nat} (hi : i < 32) : bt (x ^^^ -nI 1) i = !(bt x i) := by
  rw [b_xor, show bt (-nI 1) i = true from b_m1 i hi, Bool.xor_true]
theorem bt_n0 {i : Nat} : bt (nI 0) i = false := b_0 i
theorem bt_and1 {x : Int32} {n : Nat} (hn : n < 32) : (x &&& shlI (nI 1) (nI n) = nI 0) = (bt x n = false) := by
  apply propext
  constructor
  · intro h
    have h2 : bt (x &&& shlI (nI 1) (nI n)) n = bt (nI 0) n := congrArg (fun z => bt z n) h
    rw [b_and, bt_sh hn, decide_eq_true rfl, Bool.and_true, bt_n0] at h2
    exact h2
  · intro h
    apply b_ext
    intro i hi
    rw [b_and, bt_sh hn, bt_n0]
    by_cases e : i = n
    · subst e; rw [h]; rfl
    · rw [decide_eq_false e, Bool.and_false]
theorem bt_z {x : Int32} (h : ∀ i, i < 32 → bt x i = false) : x = nI 0 := b_ext (fun i hi => by rw [h i hi, bt_n0])
/-! loops -/
def fo {σ : Type} (g : Nat → σ → σ) : Nat → Nat → σ → σ
  | 0, _, b => b
  | m + 1, i, b => fo g m (i + 1) (g i b)
theorem fo_0 {σ : Type} {g : Nat → σ → σ} {i : Nat} {b : σ} : fo g 0 i b = b := rfl
theorem fo_s {σ : Type} {g : Nat → σ → σ} {m i : Nat} {b : σ} : fo g (m + 1) i b = fo g m (i + 1) (g i b) := rfl
/-- a loop that goes up to e; J holds ahead of each turn -/
theorem lp_inv {σ ρ : Type} {Q : Nat → σ → Int32 → ρ} {g : Nat → σ → σ} {J : Nat → σ → Prop} {e : Nat} {out : σ → ρ}
    (hx : ∀ n b, J e b → Q (n + 1) b (nI e) = out b)
    (hs : ∀ n i b, i < e → J i b → Q (n + 1) b (nI i) = Q n (g i b) (nI (i + 1)) ∧ J (i + 1) (g i b)) :
    ∀ m i b n, i + m = e → J i b → m < n → Q n b (nI i) = out (fo g m i b) ∧ J e (fo g m i b) := by
  intro m
  induction m with
  | zero =>
    intro i b n he hj hn
    cases n with
    | zero => omega
    | succ n => subst he; exact ⟨hx n b hj, hj⟩
  | succ m ih =>
    intro i b n he hj hn
    cases n with
    | zero => omega
    | succ n =>
      obtain ⟨h1, h2⟩ := hs n i b (by omega) hj
      rw [h1, fo_s]
      exact ih (i + 1) (g i b) n (by omega) h2 (by omega)
theorem lp_fo {σ ρ : Type} {Q : Nat → σ → Int32 → ρ} {g : Nat → σ → σ} {e : Nat} {out : σ → ρ}
    (hx : ∀ n b, Q (n + 1) b (nI e) = out b)
    (hs : ∀ n i b, i < e → Q (n + 1) b (nI i) = Q n (g i b) (nI (i + 1))) (b : σ) (n : Nat) (hn : e < n) : Q n b (nI 0) = out (fo g e 0 b) :=
  (lp_inv (J := fun _ _ => True) (fun n b _ => hx n b) (fun n i b hi _ => ⟨hs n i b hi, trivial⟩) e 0 b n (by omega) trivial hn).1
/-- the first from i on, of m, that is so -/
def fs (p : Nat → Bool) : Nat → Nat → Option Nat
  | 0, _ => none
  | m + 1, i => if p i = true then some i else fs p m (i + 1)
def oI (o : Option Nat) : Int32 := match o with
  | none => -1
  | some i => nI i
theorem lp_fs {ρ : Type} {Q : Nat → Int32 → ρ} {p : Nat → Bool} {e : Nat} {no : ρ} {yes : Nat → ρ}
    (hx : ∀ n, Q (n + 1) (nI e) = no)
    (hs : ∀ n i, i < e → Q (n + 1) (nI i) = if p i = true then yes i else Q n (nI (i + 1))) :
    ∀ m i n, i + m = e → m < n → Q n (nI i) = match fs p m i with
      | none => no
      | some j => yes j := by
  intro m
  induction m with
  | zero =>
    intro i n he hn
    cases n with
    | zero => omega
    | succ n => subst he; exact hx n
  | succ m ih =>
    intro i n he hn
    cases n with
    | zero => omega
    | succ n =>
      rw [hs n i (by omega), fs]
      by_cases h : p i = true
      · rw [if_pos h, if_pos h]
      · rw [if_neg h, if_neg h]
        exact ih (i + 1) n (by omega) (by omega)
theorem fs_some {p : Nat → Bool} : ∀ {m i j : Nat}, fs p m i = some j → i ≤ j ∧ j < i + m ∧ p j = true ∧ ∀ k, i ≤ k → k < j → p k = false := by
  intro m
  induction m with
  | zero => intro i j h; cases h
  | succ m ih =>
    intro i j h
    rw [fs] at h
    by_cases hp : p i = true
    · rw [if_pos hp] at h
      cases h
      exact ⟨Nat.le_refl _, by omega, hp, fun k h1 h2 => by omega⟩
    · rw [if_neg hp] at h
      obtain ⟨h1, h2, h3, h4⟩ := ih h
      refine ⟨by omega, by omega, h3, fun k hk1 hk2 => ?_⟩
      by_cases e : k = i
      · subst e; exact Bool.eq_false_iff.mpr hp
      · exact h4 k (by omega) hk2
theorem fs_none {p : Nat → Bool} : ∀ {m i : Nat}, fs p m i = none → ∀ k, i ≤ k → k < i + m → p k = false := by
  intro m
  induction m with
  | zero => intro i h k h1 h2; omega
  | succ m ih =>
    intro i h k h1 h2
    rw [fs] at h
    by_cases hp : p i = true
    · rw [if_pos hp] at h; cases h
    · rw [if_neg hp] at h
      by_cases e : k = i
      · subst e; exact Bool.eq_false_iff.mpr hp
      · exact ih h k (by omega) (by omega)
theorem fs_cong {p q : Nat → Bool} : ∀ {m i : Nat}, (∀ k, i ≤ k → k < i + m → p k = q k) → fs p m i = fs q m i := by
  intro m
  induction m with
  | zero => intro i h; rfl
  | succ m ih =>
    intro i h
    rw [fs, fs, h i (Nat.le_refl _) (by omega), ih (fun k h1 h2 => h k (by omega) (by omega))]
theorem fo_cong {σ : Type} {g h : Nat → σ → σ} : ∀ {m i : Nat} {b : σ}, (∀ k b, i ≤ k → k < i + m → g k b = h k b) → fo g m i b = fo h m i b := by
  intro m
  induction m with
  | zero => intro i b _; rfl
  | succ m ih =>
    intro i b hc
    rw [fo_s, fo_s, hc i b (Nat.le_refl _) (by omega)]
    exact ih (fun k b h1 h2 => hc k b (by omega) (by omega))
/-- words by their bits, gathered by a loop -/
theorem fo_bits {p : Nat → Bool} : ∀ {m i : Nat} {b : Int32}, i + m ≤ 31 → ∀ j, bt (fo (fun k b => b ||| (if p k = true then shlI (nI 1) (nI k) else nI 0)) m i b) j = (bt b j || (decide (i ≤ j ∧ j < i + m) && p j)) := by
  intro m
  induction m with
  | zero => intro i b h j; rw [fo_0, decide_eq_false (by omega)]; simp
  | succ m ih =>
    intro i b h j
    rw [fo_s, ih (by omega) j, b_or]
    have e1 : bt (if p i = true then shlI (nI 1) (nI i) else nI 0) j = (decide (j = i) && p i) := by
      by_cases hp : p i = true
      · rw [if_pos hp, bt_sh (by omega), hp, Bool.and_true]
      · rw [if_neg hp, bt_n0, Bool.eq_false_iff.mpr hp, Bool.and_false]
    rw [e1]
    by_cases e : j = i
    · subst e
      rw [decide_eq_true rfl, decide_eq_false (by omega), decide_eq_true (show j ≤ j ∧ j < j + (m + 1) by omega)]
      simp
    · rw [decide_eq_false e]
      by_cases hr : i ≤ j ∧ j < i + (m + 1)
      · rw [decide_eq_true (show i + 1 ≤ j ∧ j < i + 1 + m by omega), decide_eq_true hr]; simp
      · rw [decide_eq_false (show ¬ (i + 1 ≤ j ∧ j < i + 1 + m) by omega), decide_eq_false hr]; simp
/-- the last that is so, and the first from behind -/
theorem fo_last {p : Nat → Bool} : ∀ {m i : Nat} {b : Int32}, (∀ j k, i ≤ j → j < i + m → i ≤ k → k < i + m → p j = true → p k = true → j = k) →
    fo (fun k b => if p k = true then nI k else b) m i b = match fs p m i with
      | none => b
      | some j => nI j := by
  intro m
  induction m with
  | zero => intro i b _; rfl
  | succ m ih =>
    intro i b hu
    rw [fo_s, fs]
    by_cases hp : p i = true
    · rw [if_pos hp, if_pos hp, ih (fun j k h1 h2 h3 h4 => hu j k (by omega) (by omega) (by omega) (by omega))]
      have hn : fs p m (i + 1) = none := by
        cases hf : fs p m (i + 1) with
        | none => rfl
        | some j =>
          obtain ⟨h1, h2, h3, -⟩ := fs_some hf
          have := hu i j (Nat.le_refl _) (by omega) (by omega) (by omega) hp h3
          omega
      rw [hn]
    · rw [if_neg hp, if_neg hp]
      exact ih (fun j k h1 h2 h3 h4 => hu j k (by omega) (by omega) (by omega) (by omega))
def b2 (b : Bool) : Int32 := if b = true then nI 1 else nI 0
theorem b2_t : b2 true = nI 1 := if_pos rfl
theorem b2_f : b2 false = nI 0 := if_neg (by decide)
theorem b2_0 {b : Bool} : (b2 b = nI 0) = (b = false) := by
  cases b
  · exact propext ⟨fun _ => rfl, fun _ => rfl⟩
  · exact propext ⟨fun h => absurd h (by decide), fun h => by cases h⟩
theorem gB_b {b : Bool} {c : Option mQ} : gB (b2 b) c = c := by cases b; exact gB_0; exact gB_1
def al (p : Nat → Bool) : Nat → Nat → Bool
  | 0, _ => true
  | m + 1, i => p i && al p m (i + 1)
theorem al_iff {p : Nat → Bool} : ∀ {m i : Nat}, al p m i = true ↔ ∀ k, i ≤ k → k < i + m → p k = true := by
  intro m
  induction m with
  | zero => intro i; exact ⟨fun _ k h1 h2 => by omega, fun _ => rfl⟩
  | succ m ih =>
    intro i
    rw [al, Bool.and_eq_true, ih]
    constructor
    · intro h k h1 h2
      by_cases e : k = i
      · subst e; exact h.1
      · exact h.2 k (by omega) (by omega)
    · intro h
      exact ⟨h i (Nat.le_refl _) (by omega), fun k h1 h2 => h k (by omega) (by omega)⟩
theorem fo_and {p : Nat → Bool} : ∀ {m i : Nat} {b : Bool}, fo (fun k b => b && p k) m i b = (b && al p m i) := by
  intro m
  induction m with
  | zero => intro i b; rw [fo_0, al, Bool.and_true]
  | succ m ih => intro i b; rw [fo_s, ih, al, Bool.and_assoc]
/-- a loop that goes down -/
def fd {σ : Type} (g : Nat → σ → σ) : Nat → σ → σ
  | 0, b => b
  | m + 1, b => fd g m (g m b)
theorem lp_fd {σ ρ : Type} {Q : Nat → σ → Int32 → ρ} {g : Nat → σ → σ} {e : Nat} {out : σ → ρ}
    (hx : ∀ n b, Q (n + 1) b (-nI 1) = out b)
    (h0 : ∀ n b, Q (n + 1) b (nI 0) = Q n (g 0 b) (-nI 1))
    (hs : ∀ n i b, i + 1 < e → Q (n + 1) b (nI (i + 1)) = Q n (g (i + 1) b) (nI i)) :
    ∀ m b n, m < e → m + 1 < n → Q n b (nI m) = out (fd g (m + 1) b) := by
  intro m
  induction m with
  | zero =>
    intro b n _ hn
    cases n with
    | zero => omega
    | succ n =>
      rw [h0]
      cases n with
      | zero => omega
      | succ n => rw [hx]; rfl
  | succ m ih =>
    intro b n he hn
    cases n with
    | zero => omega
    | succ n =>
      rw [hs n m b he, ih _ n (by omega) (by omega)]
      rfl
theorem fs_app {p : Nat → Bool} : ∀ {m i : Nat}, fs p (m + 1) i = match fs p m i with
      | none => if p (i + m) = true then some (i + m) else none
      | some j => some j := by
  intro m
  induction m with
  | zero => intro i; rw [fs]; rfl
  | succ m ih =>
    intro i
    rw [fs, ih, fs]
    by_cases h : p i = true
    · rw [if_pos h, if_pos h]
    · rw [if_neg h, if_neg h, show i + 1 + m = i + (m + 1) by omega]
theorem fd_fs {p : Nat → Bool} : ∀ {m : Nat} {b : Int32}, fd (fun k b => if p k = true then nI k else b) m b = match fs p m 0 with
      | none => b
      | some j => nI j := by
  intro m
  induction m with
  | zero => intro b; rfl
  | succ m ih =>
    intro b
    rw [fd, ih, fs_app, Nat.zero_add]
    cases fs p m 0 with
    | none => by_cases h : p m = true <;> simp only [h, ↓reduceIte, Bool.false_eq_true]
    | some j => rfl
theorem nI_dec (i : Nat) : nI (i + 1) + -nI 1 = nI i := pk_m1 i
