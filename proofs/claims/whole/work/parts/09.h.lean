/-! BEGIN -/
def nz74 (v0 v1 : Int32) : Int32 := v1 + ushI v0 1
def nz62 (v0 v1 : Int32) : Int32 := if v0 ≤ 4 then nz74 v0 v1 else nz74 (ushI v0 2) (v1 + 2)
def nz49 (v0 v1 : Int32) : Int32 := if v0 ≤ 16 then nz62 v0 v1 else nz62 (ushI v0 4) (v1 + 4)
def nz34 (v0 v1 : Int32) : Int32 := if v0 ≤ 256 then nz49 v0 v1 else nz49 (ushI v0 8) (v1 + 8)
def ntz (v : Int32) : Int32 := if 0 < (v ^^^ -1) &&& (v - 1) then (if (v ^^^ -1) &&& (v - 1) ≤ 65536 then nz34 ((v ^^^ -1) &&& (v - 1)) 1 else nz34 (ushI ((v ^^^ -1) &&& (v - 1)) 16) (1 + 16)) else ((v ^^^ -1) &&& (v - 1)) &&& 32
theorem q342_e {v : Int32} {s : mS} : q342 v s = rv (ntz v) s := by
  have e62 : ∀ a b, q342_62 a b s = rv (nz62 a b) s := fun a b => by unfold q342_62 nz62; split <;> rfl
  have e49 : ∀ a b, q342_49 a b s = rv (nz49 a b) s := fun a b => by
    unfold q342_49 nz49
    split
    · exact e62 _ _
    · simp only [bx_e]; exact e62 _ _
  have e34 : ∀ a b, q342_34 a b s = rv (nz34 a b) s := fun a b => by
    unfold q342_34 nz34
    split
    · exact e49 _ _
    · simp only [bx_e]; exact e49 _ _
  unfold q342 ntz
  simp only [bx_e]
  split
  · split
    · exact e34 _ _
    · exact e34 _ _
  · rfl
theorem w_of {w : Int32} {m : Nat} (hm : m ≤ 31) (h : ∀ j, m ≤ j → bt w j = false) : ∃ n, n < 2 ^ m ∧ w = nI n := by
  refine ⟨w.toBitVec.toNat, ?_, ?_⟩
  · apply Nat.lt_pow_two_of_testBit
    intro i hi
    exact h i hi
  · apply Int32.toBitVec_inj.1
    show w.toBitVec = BitVec.ofNat 32 w.toBitVec.toNat
    rw [BitVec.ofNat_toNat, BitVec.setWidth_eq]
theorem ntz_k : ∀ n, n < 1024 → n ≠ 0 → ntz (nI n) = oI (fs (fun j => bt (nI n) j) 10 0) := by decide +kernel
theorem ntz_w {w : Int32} (h : ∀ j, 10 ≤ j → bt w j = false) (h0 : ¬ w = nI 0) : ∃ j, j < 10 ∧ ntz w = nI j ∧ fs (fun j => bt w j) 10 0 = some j := by
  obtain ⟨n, hn, e⟩ := w_of (by omega) h
  subst e
  have hn0 : n ≠ 0 := fun q => h0 (by rw [q])
  have := ntz_k n hn hn0
  cases e : fs (fun j => bt (nI n) j) 10 0 with
  | none =>
    exfalso
    apply h0
    apply bt_z
    intro j hj
    by_cases h10 : j < 10
    · exact fs_none e j (by omega) (by omega)
    · exact h j (by omega)
  | some j =>
    rw [e] at this
    have h2 := fs_some e
    exact ⟨j, by omega, this, rfl⟩
theorem fs_ext {p : Nat → Bool} : ∀ m i k, (∀ j, i + m ≤ j → j < i + m + k → p j = false) → fs p (m + k) i = fs p m i := by
  intro m i k
  induction k with
  | zero => intro _; rfl
  | succ k ih =>
    intro h
    rw [show m + (k + 1) = (m + k) + 1 by omega, fs_app, ih (fun j h1 h2 => h j h1 (by omega))]
    cases fs p m i with
    | some j => rfl
    | none => simp only [h (i + (m + k)) (by omega) (by omega), Bool.false_eq_true, ↓reduceIte]
theorem ntz_free {f : Nat → Int32} {i : Nat} (h : fs (fun i => !(sU f i)) 8 0 = some i) : ntz (sAll f (nI 0)) = nI i := by
  have hb : ∀ j, bt (sAll f (nI 0)) j = (decide (j < 8) && !(sU f j)) := fun j => by
    rw [bt_sAll]; unfold sU; rw [Bool.not_not]
  obtain ⟨-, h2, h3, -⟩ := fs_some h
  have h0 : ¬ sAll f (nI 0) = nI 0 := by
    intro q
    have := hb i
    rw [q, bt_n0, h3, decide_eq_true (by omega)] at this
    cases this
  obtain ⟨j, hj, e, e2⟩ := ntz_w (w := sAll f (nI 0)) (fun j hj => by rw [hb j, decide_eq_false (by omega)]; rfl) h0
  have e3 : fs (fun j => bt (sAll f (nI 0)) j) 10 0 = fs (fun i => !(sU f i)) 8 0 := by
    rw [fs_ext 8 0 2 (fun j h1 h2 => by rw [hb j, decide_eq_false (by omega)]; rfl)]
    exact fs_cong (fun k _ hk => by rw [hb k, decide_eq_true (by omega), Bool.true_and])
  rw [e2, h] at e3
  cases e3
  exact e
/-- a client begins in slot i -/
def mBeg (f : Nat → Int32) (i c : Nat) : Nat → Int32 := mOpen (upd f 3 (f 3 + nI 1)) i (nI c) (f 3 + nI 1)
theorem mBeg_n {f : Nat → Int32} {i c j : Nat} (h3 : j ≠ 3) (h : j < 74 + 21 * i ∨ 74 + 21 * i + 21 ≤ j) : mBeg f i c j = f j := by unfold mBeg; rw [mOpen_o h, ud_n h3]
theorem IM_beg {T : Nat} {f : Nat → Int32} (h : IM T f) (hT : T + 1 < 1000000000) {i c n : Nat} (hi : i < 8) (hn5 : n ≤ 5) (hf0 : f 0 = nI n) (hc : c < n) (h0 : f (74 + 21 * i) = nI 0) (hn : ∀ j, j < 8 → sR f j = true → f (74 + 21 * j + 1) ≠ nI c) : IM (T + 1) (mBeg f i c) := by
  have M := IM_st h hT
  obtain ⟨i1, ⟨n', hn', a0, a1, a2, a3, a4⟩, i3, ⟨t0, t3, t⟩, k, hk, i5⟩ := M
  have hnn : n' = n := by
    rw [ud_n (by omega), hf0] at a0
    have := (nI_eq (by omega) (by omega)).mp a0
    omega
  subst hnn
  have z : ∀ w, w < 21 → upd f 3 (f 3 + nI 1) (74 + 21 * i + w) = nI 0 := fun w hw => by rw [ud_n (by omega)]; exact h.1.2.2.1 i hi h0 w hw
  have S : IS (mBeg f i c) := IS_open i1 hi (by omega) (by rw [ud_n (by omega)]; exact h0) (fun j hj hr => by rw [sR_u (by omega)] at hr; rw [ud_n (by omega)]; exact hn j hj hr) _
  have o : ∀ j, j < 74 ∨ 242 ≤ j → mBeg f i c j = upd f 3 (f 3 + nI 1) j := fun j hj => mOpen_o (by omega)
  refine ⟨S, ⟨n', hn', ?_, fun c hc => ?_, fun c w' hc hc5 hw' => ?_, fun c j hc hj => ?_, fun j hj hv => ?_⟩, WLw_c (o _ (by omega)) (fun j a b => o _ (by omega)) i3, ⟨t0, by rw [o _ (by omega)]; exact t3, fun l hl => ?_⟩, k, hk, ?_⟩
  · rw [o _ (by omega)]; exact a0
  · rw [o _ (by omega)]; exact a1 c hc
  · rw [o _ (by omega)]; exact a2 c w' hc hc5 hw'
  · rw [o _ (by omega), o _ (by omega)]; exact a3 c j hc hj
  · by_cases e : j = i
    · subst e
      have : wh (mBeg f j c) j = c := by unfold wh mBeg; rw [mOpen_1, nI_clp (by omega)]
      rw [this]; exact hc
    · unfold mBeg at hv ⊢
      rw [sU_op] at hv
      simp only [e, and_true, and_false, true_and, false_and, decide_true, decide_false, ↓reduceIte, not_true_eq_false, not_false_eq_true, Bool.false_eq_true, Bool.true_eq_false, Bool.and_true, Bool.and_false, Bool.true_and, Bool.false_and, Bool.or_true, Bool.or_false, Bool.true_or, Bool.false_or, Bool.not_true, Bool.not_false] at hv
      rw [wh_c (mOpen_o (by omega))]; exact a4 j hj hv
  · by_cases e : l = i
    · subst e
      unfold mBeg
      rw [mOpen_2, mOpen_n (j := 74 + 21 * l + 3) (by omega) (by omega) (by omega) (by omega), mOpen_n (j := 74 + 21 * l + 8) (by omega) (by omega) (by omega) (by omega), z 3 (by omega), z 8 (by omega)]
      refine ⟨⟨T + 1, by omega, ?_⟩, ⟨0, by omega, rfl⟩, ⟨0, by omega, rfl⟩⟩
      rw [← t3, ud_e rfl]
    · unfold mBeg
      rw [mOpen_o (by omega), mOpen_o (by omega), mOpen_o (by omega)]; exact t l hl
  · rw [o _ (by omega)]; exact i5
theorem p115 {s : mS} {a T : Nat} {f : Nat → Int32} (h : RW s a f) (hL : RLw s f) (hm : IM T f) (hT : T + 1 < 1000000000) (ha : 10 ≤ a) {c n i : Nat} (hn5 : n ≤ 5) (hf0 : f 0 = nI n) (hc : c < n) (hfr : fs (fun i => !(sU f i)) 8 0 = some i) (hn : ∀ j, j < 8 → sR f j = true → f (74 + 21 * j + 1) ≠ nI c) : ∃ s', q115 a (nI c) s = rv (nI i) s' ∧ RW s' a (mBeg f i c) ∧ RLw s' (mBeg f i c) ∧ IM (T + 1) (mBeg f i c) ∧ Fw a s s' := by
  obtain ⟨-, hi8, h3, -⟩ := fs_some hfr
  have hi : i < 8 := by omega
  have h0 : f (74 + 21 * i) = nI 0 := by
    unfold sU at h3
    rw [Bool.not_not] at h3
    exact of_decide_eq_true h3
  have W2 := RW_f9 h hm.1.1 (f 3 + nI 1)
  have M2 := IM_st hm hT
  have L2 : RLw (sI s a 9 (f 3 + nI 1)) (upd f 3 (f 3 + nI 1)) := RLw_c hm.2.2.1 (ud_n (by omega)) (fun j x y => ud_n (by omega)) (fun b x y => sI_fn (by omega)) hL
  have F2 : Fw a s (sI s a 9 (f 3 + nI 1)) := Fw_I (by omega) (by omega)
  have q9 : (sI s a 9 (f 3 + nI 1)).1 a 9 = f 3 + nI 1 := by rw [sI_sm, ud_e rfl]
  obtain ⟨m, m1, m2, m3, m4, m5⟩ := W2.2.1
  have q3 : q3 (a + 1) (nI c) (sI s a 9 (f 3 + nI 1)) = rv (b2 (decide (upd f 3 (f 3 + nI 1) (49 + 5 * c + 2) = nI 1))) (sI s a 9 (f 3 + nI 1)) := by
    unfold q3
    simp (disch := omega) only [m4 c, nI_lit, nI_add, pk_mul, nI_clp, nI_eqv, nI_lev, nI_ltv, nI_neg, nI_neg', nI_subv, Nat.add_zero, Nat.zero_add, Nat.mul_zero, Nat.reduceAdd, bN_rv, bM_ru, bV_rv, bV_rx, bU_ru, bU_rx, bN_ite, bM_ite, bV_ite, bU_ite, ↓bx_e, ↓sp_e, gA_ok, gZ_n, gB_0, gB_1, gB_i, and_true, and_false, true_and, false_and, decide_true, decide_false, ↓reduceIte, not_true_eq_false, not_false_eq_true, Bool.false_eq_true, Bool.true_eq_false, Bool.and_true, Bool.and_false, Bool.true_and, Bool.false_and, Bool.or_true, Bool.or_false, Bool.true_or, Bool.false_or, Bool.not_true, Bool.not_false, le_f, le_t, lt_f, lt_t, eq_f, ↓reduceIte, not_true_eq_false, not_false_eq_true, ite_10, bt_0, bt_1]
    cases decide (upd f 3 (f 3 + nI 1) (49 + 5 * c + 2) = nI 1) <;> simp only [b2_t, b2_f, and_true, and_false, true_and, false_and, decide_true, decide_false, ↓reduceIte, not_true_eq_false, not_false_eq_true, Bool.false_eq_true, Bool.true_eq_false, Bool.and_true, Bool.and_false, Bool.true_and, Bool.false_and, Bool.or_true, Bool.or_false, Bool.true_or, Bool.false_or, Bool.not_true, Bool.not_false]
  obtain ⟨s3, k1, k2, k3⟩ := p78 W2.1 M2.1 hi (show c < 5 by omega) (by rw [ud_n (by omega)]; exact h0) (v := a + 28) (by omega) (fun k hk => (W2.2.2.1 k hk).1) (f 3 + nI 1)
  have c3 : ∀ b, b < a + 6 ∨ a + 18 ≤ b → (sC s3 (a + 28) (a + 6 + 11) 0 (i * 10) 10).1 b = (sI s a 9 (f 3 + nI 1)).1 b := fun b hb => k3.1 b (by omega)
  have g3 : ∀ j, j < 74 ∨ 242 ≤ j → mBeg f i c j = upd f 3 (f 3 + nI 1) j := fun j hj => mOpen_o (by omega)
  refine ⟨sC s3 (a + 28) (a + 6 + 11) 0 (i * 10) 10, ?_, RW_rs W2 k2 c3 g3, RLw_rs L2 M2.2.2.1 ha c3 g3, IM_beg hm hT hi hn5 hf0 hc h0 hn, Fw_t F2 (Fw_z k3 (by omega) (by omega))⟩
  unfold q115
  simp (disch := omega) only [p70 h.1 hm.1, hfr, oI_s, h.2.2.2.2.2.1, q3, q9, k1, gC_ok, nI_lit, nI_add, pk_mul, nI_clp, nI_eqv, nI_lev, nI_ltv, nI_neg, nI_neg', nI_subv, Nat.add_zero, Nat.zero_add, Nat.mul_zero, Nat.reduceAdd, bN_rv, bM_ru, bV_rv, bV_rx, bU_ru, bU_rx, bN_ite, bM_ite, bV_ite, bU_ite, ↓bx_e, ↓sp_e, gA_ok, gZ_n, gB_0, gB_1, gB_i, and_true, and_false, true_and, false_and, decide_true, decide_false, ↓reduceIte, not_true_eq_false, not_false_eq_true, Bool.false_eq_true, Bool.true_eq_false, Bool.and_true, Bool.and_false, Bool.true_and, Bool.false_and, Bool.or_true, Bool.or_false, Bool.true_or, Bool.false_or, Bool.not_true, Bool.not_false, le_f, le_t, lt_f, lt_t, eq_f, ↓reduceIte, not_true_eq_false, not_false_eq_true, ite_10, bt_0, bt_1]
def mSee (f g : Nat → Int32) (i m : Nat) : Nat → Int32 := fun j => if 74 + 21 * i + 11 ≤ j ∧ j < 74 + 21 * i + 11 + m then f (9 + 4 * (j - (74 + 21 * i + 11))) else g j
theorem m262_59 {t : mS} {f g : Nat → Int32} {i : Nat} (hi : i < 8) (hg : ∀ k, k < 10 → g (9 + 4 * k) = f (9 + 4 * k)) : ∀ m k n, k + m = 10 → m < n → q262_59 n (nI i) (nI k) (wr t (mSee f g i k)) = rv (nI i) (wr t (mSee f g i 10)) := by
  intro m
  induction m with
  | zero =>
    intro k n h1 h2
    cases n with
    | zero => omega
    | succ n =>
      have : k = 10 := by omega
      subst this
      simp (disch := omega) only [q262_59, nI_lit, nI_add, pk_mul, nI_clp, nI_eqv, nI_lev, nI_ltv, nI_neg, nI_neg', nI_subv, Nat.add_zero, Nat.zero_add, Nat.mul_zero, Nat.reduceAdd, bN_rv, bM_ru, bV_rv, bV_rx, bU_ru, bU_rx, bN_ite, bM_ite, bV_ite, bU_ite, ↓bx_e, ↓sp_e, gA_ok, gZ_n, gB_0, gB_1, gB_i, and_true, and_false, true_and, false_and, decide_true, decide_false, ↓reduceIte, not_true_eq_false, not_false_eq_true, Bool.false_eq_true, Bool.true_eq_false, Bool.and_true, Bool.and_false, Bool.true_and, Bool.false_and, Bool.or_true, Bool.or_false, Bool.true_or, Bool.false_or, Bool.not_true, Bool.not_false, le_f, le_t, lt_f, lt_t, eq_f, ↓reduceIte, not_true_eq_false, not_false_eq_true, ite_10, bt_0, bt_1]
  | succ m ih =>
    intro k n h1 h2
    cases n with
    | zero => omega
    | succ n =>
      have e2 : mSee f g i k (9 + 4 * k) = f (9 + 4 * k) := by unfold mSee; rw [if_neg (by omega), hg k (by omega)]
      rw [q262_59]
      simp (disch := omega) only [wr_1, sI_wr, e2, nI_lit, nI_add, pk_mul, nI_clp, nI_eqv, nI_lev, nI_ltv, nI_neg, nI_neg', nI_subv, Nat.add_zero, Nat.zero_add, Nat.mul_zero, Nat.reduceAdd, bN_rv, bM_ru, bV_rv, bV_rx, bU_ru, bU_rx, bN_ite, bM_ite, bV_ite, bU_ite, ↓bx_e, ↓sp_e, gA_ok, gZ_n, gB_0, gB_1, gB_i, and_true, and_false, true_and, false_and, decide_true, decide_false, ↓reduceIte, not_true_eq_false, not_false_eq_true, Bool.false_eq_true, Bool.true_eq_false, Bool.and_true, Bool.and_false, Bool.true_and, Bool.false_and, Bool.or_true, Bool.or_false, Bool.true_or, Bool.false_or, Bool.not_true, Bool.not_false, le_f, le_t, lt_f, lt_t, eq_f, ↓reduceIte, not_true_eq_false, not_false_eq_true, ite_10, bt_0, bt_1, q198, q199, q200, q201, q202, q203, q204, m190, m205, m206, b2_0, q189, q187]
      rw [← ih (k + 1) n (by omega) (by omega)]
      congr 2
      funext j
      unfold upd mSee
      by_cases q : j = 74 + 21 * i + (11 + k)
      · rw [if_pos q, if_pos (by omega), show j - (74 + 21 * i + 11) = k by omega]
      · rw [if_neg q]
        by_cases q2 : 74 + 21 * i + 11 ≤ j ∧ j < 74 + 21 * i + 11 + k
        · rw [if_pos q2, if_pos (by omega)]
        · rw [if_neg q2, if_neg (by omega)]
theorem m262 {t : mS} {f : Nat → Int32} (hf : t.1 513 = f) {c i : Nat} (hfr : fs (fun i => !(sU f i)) 8 0 = some i) : q262 (nI c) t = rv (nI i) (wr t (mBeg f i c)) := by
  obtain ⟨-, hi8, h3, -⟩ := fs_some hfr
  have hi : i < 8 := by omega
  unfold q262
  simp (disch := omega) only [m208, hf, q269, q342_e, ntz_free hfr, sI_w0, sI_wr, wr_1, wr_w, ud_e, ud_n, nI_lit, nI_add, pk_mul, nI_clp, nI_eqv, nI_lev, nI_ltv, nI_neg, nI_neg', nI_subv, Nat.add_zero, Nat.zero_add, Nat.mul_zero, Nat.reduceAdd, bN_rv, bM_ru, bV_rv, bV_rx, bU_ru, bU_rx, bN_ite, bM_ite, bV_ite, bU_ite, ↓bx_e, ↓sp_e, gA_ok, gZ_n, gB_0, gB_1, gB_i, and_true, and_false, true_and, false_and, decide_true, decide_false, ↓reduceIte, not_true_eq_false, not_false_eq_true, Bool.false_eq_true, Bool.true_eq_false, Bool.and_true, Bool.and_false, Bool.true_and, Bool.false_and, Bool.or_true, Bool.or_false, Bool.true_or, Bool.false_or, Bool.not_true, Bool.not_false, le_f, le_t, lt_f, lt_t, eq_f, ↓reduceIte, not_true_eq_false, not_false_eq_true, ite_10, bt_0, bt_1, q198, q199, q200, q201, q202, q203, q204, m190, m205, m206, b2_0, q189, q187]
  have e0 : mSee f (upd (upd (upd (upd f 3 (f 3 + nI 1)) (74 + 21 * i) (nI 1)) (74 + 21 * i + 1) (nI c)) (74 + 21 * i + 2) (f 3 + nI 1)) i 0 = upd (upd (upd (upd f 3 (f 3 + nI 1)) (74 + 21 * i) (nI 1)) (74 + 21 * i + 1) (nI c)) (74 + 21 * i + 2) (f 3 + nI 1) := by
    funext j; unfold mSee; rw [if_neg (by omega)]
  rw [← e0, m262_59 hi (fun k hk => by rw [ud_n (by omega), ud_n (by omega), ud_n (by omega), ud_n (by omega)]) 10 0 10000 (by omega) (by omega)]
  congr 2
  funext j
  unfold mSee mBeg mOpen
  by_cases q : 74 + 21 * i + 11 ≤ j ∧ j < 74 + 21 * i + 11 + 10
  · rw [if_pos q, if_neg (by omega), if_neg (by omega), if_neg (by omega), if_pos (by omega), ud_n (by omega)]
  · rw [if_neg q]
    by_cases q2 : j = 74 + 21 * i + 2
    · rw [ud_e q2, if_neg (by omega), if_neg (by omega), if_pos q2]
    · rw [ud_n q2]
      by_cases q1 : j = 74 + 21 * i + 1
      · rw [ud_e q1, if_neg (by omega), if_pos q1]
      · rw [ud_n q1]
        by_cases q0 : j = 74 + 21 * i
        · rw [ud_e q0, if_pos q0]
        · rw [ud_n q0, if_neg q0, if_neg q1, if_neg q2, if_neg (by omega)]
