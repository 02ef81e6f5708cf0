/-! THE LAW'S ROWS STAY -/
def LJ (j : Nat) : Prop := j = 2 ∨ 770 ≤ j
theorem LJ_ab {f : Nat → Int32} (h : IH f) {i j : Nat} (hi : i < 8) (hj : LJ j) {w : Int32} : mAbort f i w j = f j := by
  unfold LJ at hj
  exact mAb_n hi (h.1 i hi) (by have := h.1 i hi; omega) (by omega) (by omega)
theorem LJ_met {j : Nat} (hj : LJ j) : ∀ n (f : Nat → Int32), IH f → mMet n f j = f j := by
  intro n
  induction n with
  | zero => intro f h; rfl
  | succ n ih =>
    intro f h
    rw [mMet]
    cases e : sDg f with
    | none => rfl
    | some p =>
      obtain ⟨-, hv, hr⟩ := sDg_R e
      dsimp only
      rw [ih _ (IH_ab h hv), LJ_ab h hv hj]
theorem LJ_st {f : Nat → Int32} (h : IH f) {j : Nat} (hj : LJ j) : mSt f j = f j := by
  unfold mSt mTidy
  have t1 : ∀ n (g : Nat → Int32), mTd1 n g j = g j := by
    intro n
    induction n with
    | zero => intro g; rfl
    | succ n ih =>
      intro g
      cases e : oOld g (sDn g) with
      | none => rw [mTd1_n e]
      | some i => unfold LJ at hj; rw [mTd1_s e, ih, mLe_n (oOld_s e).1 (by omega) (by omega)]
  have t2 : ∀ n (g : Nat → Int32), mTd2 n g j = g j := by
    intro n
    induction n with
    | zero => intro g; rfl
    | succ n ih =>
      intro g
      by_cases hq : bc (sAll g (nI 2)) ≤ g 4
      · rw [mTd2_k hq]
      · cases e : oOld g (sF g) with
        | none => rw [mTd2, if_neg hq, e]
        | some i =>
          unfold LJ at hj
          rw [mTd2_s hq e, ih]
          unfold mSumm
          rw [mLe_n (oOld_s e).1 (by omega) (by omega), mSm_n (by omega)]
  rw [t2, t1, LJ_met hj 8 f h]
theorem LJ_read {f : Nat → Int32} (h : IH f) {i k j : Nat} (hi : i < 8) (hj : LJ j) : mRead f i k j = f j := by
  have hj2 := hj
  unfold LJ at hj2
  have n1 : mRd1 f i k j = f j := ud_n (by omega)
  have n3 : mRd2 (mRd1 f i k) i k j = f j := by unfold mRd2; rw [mLw_n (by omega), ud_n (by omega)]; exact n1
  have m1 : ∀ j, HX j → mRd1 f i k j = f j := fun j hj => by unfold HX at hj; exact ud_n (by omega)
  have h3 : IH (mRd2 (mRd1 f i k) i k) := IH_c h (fun j hj => Or.inl (by
    have hj2 := hj
    unfold HX at hj2
    unfold mRd2; rw [mLw_n (by omega), ud_n (by omega)]; exact m1 j hj))
  unfold mRead
  split
  · exact n1
  · generalize mRd2 (mRd1 f i k) i k = g at *
    have h4 : IH (upd g (74 + 21 * i + 8) (g (74 + 21 * i + 2) + nI 1)) := IH_c h3 (fun j hj => Or.inl (by unfold HX at hj; exact ud_n (by omega)))
    unfold mRdE
    split
    · rw [LJ_st h3 hj]; exact n3
    · split
      · rw [LJ_st h4 hj, ud_n (by omega)]; exact n3
      · rw [LJ_st (IH_ab h4 hi) hj, LJ_ab h4 hi hj, ud_n (by omega)]; exact n3
theorem LJ_write {f : Nat → Int32} (h : IH f) {i k j : Nat} (hi : i < 8) (hj : LJ j) : mWrite f i k j = f j := by
  have hj2 := hj
  unfold LJ at hj2
  unfold mWrite
  split
  · have n2 : mLr (mWr1 f i k) i k j = f j := by rw [mLr_n (fun o ho => by omega)]; unfold mWr1; exact ud_n (by omega)
    have h2 : IH (mLr (mWr1 f i k) i k) := IH_c h (fun j hj => Or.inl (by
      unfold HX at hj
      rw [mLr_n (fun o ho => by omega)]; unfold mWr1; exact ud_n (by omega)))
    unfold mWrE
    split
    · rw [LJ_st h2 hj]; exact n2
    · rw [LJ_st (IH_c h2 (fun j hj => Or.inl (by unfold HX at hj; exact ud_n (by omega)))) hj, ud_n (by omega)]; exact n2
  · rw [LJ_st (IH_ab h hi) hj, LJ_ab h hi hj]
theorem LJ_beg {f : Nat → Int32} {i c j : Nat} (hi : i < 8) (hj : LJ j) : mBeg f i c j = f j := by
  unfold LJ at hj
  exact mBeg_n (by omega) (by omega)
theorem IH_co4 {f : Nat → Int32} (h : IH f) (hV : IV f) {i : Nat} (hi : i < 8) (hn : hN f ≤ 12) : IH (mSpo (mCo4 f i) i) := by
  rw [show mCo4 f i = mLog (mHis (mCo3 f i) i) i (nI 0) from rfl]
  have hw := h.1 i hi
  have V1 : IV (mCo1 f i) := IV_ver (fun k hk => by rw [mCo0_n (by omega) (by omega) (by omega)]; exact hV k hk)
  have n3 : ∀ j, HX j → mCo3 f i j = f j := fun j hj => by
    unfold HX at hj
    by_cases q1 : j = 1
    · subst q1
      unfold mCo3 mCo2
      rw [ud_n (by omega), ud_n (by omega), ud_n (by omega), mCo1_n (by omega) (by omega) (by omega) (fun k hk => by omega)]
    · rw [mCo3_s hw (by omega), mCo1_n (by omega) (by omega) (by omega) (fun k hk => by omega)]
  have h3 : IH (mCo3 f i) := IH_c h (fun j hj => Or.inl (n3 j hj))
  have V3 : ∀ k, k < 10 → nI 0 ≤ mCo3 f i (9 + 4 * k) := fun k hk => by
    have : mCo3 f i (9 + 4 * k) = mCo1 f i (9 + 4 * k) := by
      unfold mCo3 mCo2
      rw [ud_n (by omega), ud_n (by omega), ud_n (by omega)]
    rw [this]; exact IV_0 V1 hk
  have e7 : mCo3 f i 7 = f 7 := by
    unfold mCo3 mCo2
    rw [ud_n (by omega), ud_n (by omega), ud_n (by omega), mCo1_n (by omega) (by omega) (by omega) (fun k hk => by omega)]
  have hn3 : hN (mCo3 f i) ≤ 12 := by unfold hN; rw [e7]; exact hn
  generalize mCo3 f i = g at *
  have h4 : IH (mHis g i) := by
    have hat : hAt g ≤ 11 := by unfold hAt; split <;> omega
    refine ⟨fun i' hi' => by rw [wh_c (mHis_n hn3 (by omega) (by omega))]; exact h3.1 i' hi', fun j hj => ?_⟩
    have hj2 := hj
    unfold HX at hj2
    by_cases hlt : j < 242
    · rw [mHis_n hn3 (by omega) (by omega)]; exact h3.2 j hj
    · unfold mHis
      split
      · rename_i hin
        unfold hRow
        have h4 : 4 ≤ j - (242 + 24 * hAt g) := by omega
        rw [if_neg (by omega), if_neg (by omega), if_neg (by omega), if_neg (by omega)]
        split
        · exact ⟨(h3.2 _ (by unfold HX; omega)).1, fun q => by omega⟩
        · exact ⟨V3 _ (by omega), fun q => by omega⟩
      · unfold hSh
        rw [if_neg (by omega)]
        split
        · have e : (j + 24 - 242) % 24 = (j - 242) % 24 := by rw [show j + 24 - 242 = (j - 242) + 24 by omega, Nat.add_mod_right]
          exact ⟨(h3.2 _ (Or.inr (Or.inl ⟨by omega, by omega, by rw [e]; omega⟩))).1, fun q => by omega⟩
        · exact h3.2 j hj
  refine IH_c h4 (fun j hj => Or.inl ?_)
  have hj2 := hj
  unfold HX at hj2
  rw [mSpo_n (fun o ho => by omega), mLog_n (by omega) (by omega)]
theorem LJ_com {f : Nat → Int32} (h : IH f) (hV : IV f) {i j : Nat} (hi : i < 8) (hn : hN f ≤ 12) (hj : LJ j) : mCom f i j = f j := by
  have h4 := IH_co4 h hV hi hn
  have hw := h.1 i hi
  have hj2 := hj
  unfold LJ at hj2
  have e7 : mCo3 f i 7 = f 7 := by
    unfold mCo3 mCo2
    rw [ud_n (by omega), ud_n (by omega), ud_n (by omega), mCo1_n (by omega) (by omega) (by omega) (fun k hk => by omega)]
  unfold mCom
  rw [LJ_st h4 hj, mSpo_n (fun o ho => by omega)]
  unfold mCo4
  rw [mLog_n (by omega) (by omega), mHis_n (by unfold hN; rw [e7]; exact hn) (by omega) (by omega)]
  unfold mCo3 mCo2
  rw [ud_n (by omega), ud_n (by omega), ud_n (by omega), mCo1_n (by omega) (by omega) (by omega) (fun k hk => by omega)]
theorem LJ_tick {T : Nat} {f : Nat → Int32} (hA : IA T f) (h : IH f) {j : Nat} (hj : LJ j) : mTick f j = f j := by
  have hj2 := hj
  unfold LJ at hj2
  unfold mTick
  split
  · rfl
  · have h8 : IH (upd f 8 (dS f)) := IH_c h (fun j hj => Or.inl (by unfold HX at hj; exact ud_n (by omega)))
    have e8 : upd f 8 (dS f) j = f j := ud_n (by omega)
    have hA8 := IA_8 hA (dS f)
    generalize upd f 8 (dS f) = g at *
    generalize dN f % cN f = c at *
    unfold mTk
    cases e : sRun g (nI c) with
    | none =>
      dsimp only
      cases e2 : fs (fun i => !(sU g i)) 8 0 with
      | none => exact e8
      | some i =>
        have hi8 := (fs_some e2).2.1
        dsimp only
        rw [LJ_beg (by omega) hj]; exact e8
    | some i =>
      obtain ⟨hi, hr, -⟩ := sRun_s e
      dsimp only
      split
      · split
        · rw [LJ_com h8 hA8.2.1 hi hA8.2.2.1 hj]; exact e8
        · split
          · exact e8
          · rw [LJ_write h8 hi hj]; exact e8
      · rw [LJ_read h8 hi hj]; exact e8
theorem LJ_run {j : Nat} (hj : LJ j) : ∀ n (f : Nat → Int32) T, IA T f → T + n < 1000000000 → IH f → mRun n f j = f j := by
  intro n
  induction n with
  | zero => intro f T _ _ h; rfl
  | succ n ih =>
    intro f T hA hT h
    rw [mRun]
    obtain ⟨T', hT', hA'⟩ := IA_tick hA (by omega)
    rw [ih _ T' hA' (by omega) (IH_tick hA h), LJ_tick hA h hj]
