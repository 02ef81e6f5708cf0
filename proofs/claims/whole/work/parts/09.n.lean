/-! VERSIONS THAT WERE SEEN AND TOLD ARE NOT NEGATIVE -/
def HX (j : Nat) : Prop := (74 ≤ j ∧ j < 242 ∧ ((j - 74) % 21 = 1 ∨ 11 ≤ (j - 74) % 21)) ∨ (242 ≤ j ∧ j < 530 ∧ 4 ≤ (j - 242) % 24) ∨ j = 1
def IH (f : Nat → Int32) : Prop := (∀ i, i < 8 → wh f i < 5) ∧ ∀ j, HX j → nI 0 ≤ f j ∧ (j = 1 → f j ≤ nI 12)
theorem IH_c {f g : Nat → Int32} (h : IH f) (hg : ∀ j, HX j → g j = f j ∨ g j = nI 0) : IH g := by
  refine ⟨fun i hi => ?_, fun j hj => ?_⟩
  · rcases hg (74 + 21 * i + 1) (by unfold HX; omega) with e | e
    · rw [wh_c e]; exact h.1 i hi
    · unfold wh; rw [e, nI_clp (by omega)]; omega
  · rcases hg j hj with e | e
    · rw [e]; exact h.2 j hj
    · rw [e]; exact ⟨Int32.le_refl _, fun _ => by decide⟩
theorem mFree_H {f : Nat → Int32} {i j : Nat} (hj : HX j) : mFree f i j = f j ∨ mFree f i j = nI 0 := by
  unfold HX at hj
  unfold mFree
  split
  · exact Or.inr rfl
  · rw [if_neg (by omega)]; exact Or.inl rfl
theorem IH_ab {f : Nat → Int32} (h : IH f) {i : Nat} (hi : i < 8) {w : Int32} : IH (mAbort f i w) := IH_c h fun j hj => by
  have hw := h.1 i hi
  have hj2 := hj
  unfold HX at hj2
  unfold mAbort
  rw [ud_n (by omega)]
  rcases mFree_H (f := mLog f i w) (i := i) hj with e | e
  · rw [e, mLog_n (by omega) (by omega)]; exact Or.inl rfl
  · exact Or.inr e
theorem IH_le {f : Nat → Int32} (h : IH f) {i : Nat} {w : Int32} : IH (mLeave f i w) := IH_c h fun j hj => by
  have hj2 := hj
  unfold HX at hj2
  unfold mLeave
  rcases mFree_H (f := mLv (mLog f i w) (f (74 + 21 * i + 3)) i) (i := i) hj with e | e
  · rw [e, mLv_n (fun o ho => by omega), mLog_n (by omega) (by omega)]; exact Or.inl rfl
  · exact Or.inr e
theorem IH_met : ∀ n (f : Nat → Int32), IH f → IH (mMet n f) := by
  intro n
  induction n with
  | zero => intro f h; exact h
  | succ n ih =>
    intro f h
    rw [mMet]
    cases e : sDg f with
    | none => exact h
    | some p =>
      obtain ⟨-, hv, hr⟩ := sDg_R e
      exact ih _ (IH_ab h hv)
theorem IH_st {f : Nat → Int32} (h : IH f) : IH (mSt f) := by
  unfold mSt
  have h1 := IH_met 8 f h
  generalize mMet 8 f = g at *
  have t1 : ∀ n (g : Nat → Int32), IH g → IH (mTd1 n g) := by
    intro n
    induction n with
    | zero => intro g hg; exact hg
    | succ n ih =>
      intro g hg
      cases e : oOld g (sDn g) with
      | none => rw [mTd1_n e]; exact hg
      | some i => rw [mTd1_s e]; exact ih _ (IH_le hg)
  have t2 : ∀ n (g : Nat → Int32), IH g → IH (mTd2 n g) := by
    intro n
    induction n with
    | zero => intro g hg; exact hg
    | succ n ih =>
      intro g hg
      by_cases hq : bc (sAll g (nI 2)) ≤ g 4
      · rw [mTd2_k hq]; exact hg
      · cases e : oOld g (sF g) with
        | none => rw [mTd2, if_neg hq, e]; exact hg
        | some i =>
          rw [mTd2_s hq e]
          exact ih _ (IH_le (IH_c hg (fun j hj => Or.inl (by unfold HX at hj; exact mSm_n (by omega)))))
  exact t2 8 _ (t1 8 _ h1)
theorem IH_read {f : Nat → Int32} (h : IH f) {i k : Nat} (hi : i < 8) : IH (mRead f i k) := by
  have n1 : ∀ j, HX j → mRd1 f i k j = f j := fun j hj => by unfold HX at hj; exact ud_n (by omega)
  have n3 : ∀ j, HX j → mRd2 (mRd1 f i k) i k j = f j := fun j hj => by
    have hj2 := hj
    unfold HX at hj2
    unfold mRd2; rw [mLw_n (by omega), ud_n (by omega)]; exact n1 j hj
  unfold mRead
  split
  · exact IH_c h (fun j hj => Or.inl (n1 j hj))
  · have h3 : IH (mRd2 (mRd1 f i k) i k) := IH_c h (fun j hj => Or.inl (n3 j hj))
    generalize mRd2 (mRd1 f i k) i k = g at *
    have h4 : IH (upd g (74 + 21 * i + 8) (g (74 + 21 * i + 2) + nI 1)) := IH_c h3 (fun j hj => Or.inl (by unfold HX at hj; exact ud_n (by omega)))
    unfold mRdE
    split
    · exact IH_st h3
    · split
      · exact IH_st h4
      · exact IH_st (IH_ab h4 hi)
theorem IH_write {f : Nat → Int32} (h : IH f) {i k : Nat} (hi : i < 8) : IH (mWrite f i k) := by
  unfold mWrite
  split
  · have h2 : IH (mLr (mWr1 f i k) i k) := IH_c h (fun j hj => Or.inl (by
      unfold HX at hj
      rw [mLr_n (fun o ho => by omega)]; unfold mWr1; exact ud_n (by omega)))
    unfold mWrE
    split
    · exact IH_st h2
    · exact IH_st (IH_c h2 (fun j hj => Or.inl (by unfold HX at hj; exact ud_n (by omega))))
  · exact IH_st (IH_ab h hi)
theorem IV_0 {f : Nat → Int32} (h : IV f) {k : Nat} (hk : k < 10) : nI 0 ≤ f (9 + 4 * k) := by
  obtain ⟨v, hv, e⟩ := h k hk
  rw [e, nI_lev (by omega) (by omega)]; omega
theorem IH_beg {f : Nat → Int32} (h : IH f) (hV : IV f) {i c : Nat} (hi : i < 8) (hc : c < 5) : IH (mBeg f i c) := by
  unfold mBeg
  refine ⟨fun i' hi' => ?_, fun j hj => ?_⟩
  · by_cases e : i' = i
    · subst e; unfold wh; rw [mOpen_1, nI_clp (by omega)]; exact hc
    · rw [wh_c (f := f) (by rw [mOpen_o (by omega), ud_n (by omega)])]; exact h.1 i' hi'
  · have hj2 := hj
    unfold HX at hj2
    unfold mOpen
    rw [if_neg (by omega)]
    split
    · exact ⟨by rw [nI_lev (by omega) (by omega)]; omega, fun q => by omega⟩
    · rw [if_neg (by omega)]
      split
      · rw [ud_n (by omega)]
        exact ⟨IV_0 hV (by omega), fun q => by omega⟩
      · rw [ud_n (by omega)]; exact h.2 j hj
theorem IH_com {f : Nat → Int32} (h : IH f) (hV : IV f) {i : Nat} (hi : i < 8) (hn : hN f ≤ 12) : IH (mCom f i) := by
  unfold mCom
  apply IH_st
  rw [show mCo4 f i = mLog (mHis (mCo3 f i) i) i (nI 0) from rfl]
  have hw := h.1 i hi
  have V1 : IV (mCo1 f i) := IV_ver (fun k hk => by rw [mCo0_n (by omega) (by omega) (by omega)]; exact hV k hk)
  have n3 : ∀ j, HX j → mCo3 f i j = f j := fun j hj => by
    unfold HX at hj
    by_cases q1 : j = 1
    · subst q1
      unfold mCo3 mCo2
      rw [ud_n (by omega), ud_n (by omega), ud_n (by omega), mCo1_n (by omega) (by omega) (by omega) (fun k hk => by omega)]
    · rw [mCo3_s hw (by omega), mCo1_n (by omega) (by omega) (by omega) (fun k hk => by omega)]
  have h3 : IH (mCo3 f i) := IH_c h (fun j hj => Or.inl (n3 j hj))
  have V3 : ∀ k, k < 10 → nI 0 ≤ mCo3 f i (9 + 4 * k) := fun k hk => by
    have : mCo3 f i (9 + 4 * k) = mCo1 f i (9 + 4 * k) := by
      unfold mCo3 mCo2
      rw [ud_n (by omega), ud_n (by omega), ud_n (by omega)]
    rw [this]; exact IV_0 V1 hk
  have e7 : mCo3 f i 7 = f 7 := by
    unfold mCo3 mCo2
    rw [ud_n (by omega), ud_n (by omega), ud_n (by omega), mCo1_n (by omega) (by omega) (by omega) (fun k hk => by omega)]
  have hn3 : hN (mCo3 f i) ≤ 12 := by unfold hN; rw [e7]; exact hn
  generalize mCo3 f i = g at *
  have h4 : IH (mHis g i) := by
    have hat : hAt g ≤ 11 := by unfold hAt; split <;> omega
    refine ⟨fun i' hi' => by rw [wh_c (mHis_n hn3 (by omega) (by omega))]; exact h3.1 i' hi', fun j hj => ?_⟩
    have hj2 := hj
    unfold HX at hj2
    by_cases hlt : j < 242
    · rw [mHis_n hn3 (by omega) (by omega)]; exact h3.2 j hj
    · unfold mHis
      split
      · rename_i hin
        unfold hRow
        have h4 : 4 ≤ j - (242 + 24 * hAt g) := by omega
        rw [if_neg (by omega), if_neg (by omega), if_neg (by omega), if_neg (by omega)]
        split
        · exact ⟨(h3.2 _ (by unfold HX; omega)).1, fun q => by omega⟩
        · exact ⟨V3 _ (by omega), fun q => by omega⟩
      · unfold hSh
        rw [if_neg (by omega)]
        split
        · have e : (j + 24 - 242) % 24 = (j - 242) % 24 := by rw [show j + 24 - 242 = (j - 242) + 24 by omega, Nat.add_mod_right]
          exact ⟨(h3.2 _ (Or.inr (Or.inl ⟨by omega, by omega, by rw [e]; omega⟩))).1, fun q => by omega⟩
        · exact h3.2 j hj
  refine IH_c h4 (fun j hj => Or.inl ?_)
  have hj2 := hj
  unfold HX at hj2
  rw [mSpo_n (fun o ho => by omega), mLog_n (by omega) (by omega)]
theorem IH_tick {T : Nat} {f : Nat → Int32} (hA : IA T f) (h : IH f) : IH (mTick f) := by
  obtain ⟨n, hn5, k0, -⟩ := hA.1.2.1
  unfold mTick
  split
  · exact h
  · rename_i h0
    have hcN : cN f = n := by unfold cN; rw [k0, nI_clp (by omega)]
    have hn0 : n ≠ 0 := fun e => h0 (by rw [k0, e])
    have hc : dN f % cN f < 5 := by rw [hcN]; exact Nat.lt_of_lt_of_le (Nat.mod_lt _ (by omega)) hn5
    have h8 : IH (upd f 8 (dS f)) := IH_c h (fun j hj => Or.inl (by unfold HX at hj; exact ud_n (by omega)))
    have hA8 := IA_8 hA (dS f)
    generalize upd f 8 (dS f) = g at *
    generalize dN f % cN f = c at *
    unfold mTk
    cases e : sRun g (nI c) with
    | none =>
      dsimp only
      cases e2 : fs (fun i => !(sU g i)) 8 0 with
      | none => exact h8
      | some i =>
        have hi8 := (fs_some e2).2.1
        exact IH_beg h8 hA8.2.1 (by omega) hc
    | some i =>
      obtain ⟨hi, hr, -⟩ := sRun_s e
      dsimp only
      split
      · split
        · exact IH_com h8 hA8.2.1 hi hA8.2.2.1
        · split
          · exact h8
          · exact IH_write h8 hi
      · exact IH_read h8 hi
theorem IH_run : ∀ n (f : Nat → Int32) T, IA T f → T + n < 1000000000 → IH f → IH (mRun n f) := by
  intro n
  induction n with
  | zero => intro f T _ _ h; exact h
  | succ n ih =>
    intro f T hA hT h
    rw [mRun]
    obtain ⟨T', hT', hA'⟩ := IA_tick hA (by omega)
    exact ih _ T' hA' (by omega) (IH_tick hA h)
