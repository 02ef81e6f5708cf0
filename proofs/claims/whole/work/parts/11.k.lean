/-! A SLOT THAT STILL RUNS KEEPS ITS CELLS -/
def KW (w : Nat) : Prop := w = 0 ∨ w = 6 ∨ (11 ≤ w ∧ w < 21)
def KR (f g : Nat → Int32) (i : Nat) : Prop := sR g i = true → ∀ w, KW w → g (74 + 21 * i + w) = f (74 + 21 * i + w)
theorem KR_R {f g : Nat → Int32} {i : Nat} (h : KR f g i) (hr : sR g i = true) : sR f i = true := by
  have := h hr 0 (Or.inl rfl)
  unfold sR at hr ⊢
  rw [Nat.add_zero] at this
  rw [← this]; exact hr
theorem KR_t {f g k : Nat → Int32} {i : Nat} (h : KR f g i) (h2 : KR g k i) : KR f k i := fun hr w hw => by
  rw [h2 hr w hw, h (KR_R h2 hr) w hw]
theorem KR_r {f : Nat → Int32} {i : Nat} : KR f f i := fun _ _ _ => rfl
theorem KR_free {f g : Nat → Int32} {v i : Nat} (hg : ∀ w, KW w → g (74 + 21 * i + w) = mFree f v (74 + 21 * i + w)) : KR f g i := fun hr w hw => by
  by_cases e : v = i
  · subst e
    have := hg 0 (Or.inl rfl)
    unfold mFree at this
    rw [if_pos (by omega), Nat.add_zero] at this
    unfold sR at hr
    rw [this] at hr
    exact absurd (of_decide_eq_true hr) (by decide)
  · rw [hg w hw]
    unfold KW at hw
    unfold mFree
    rw [if_neg (by omega), if_neg (by omega)]
theorem KR_ab {f : Nat → Int32} (h : IH f) {v i : Nat} (hv : v < 8) (hi : i < 8) {x : Int32} : KR f (mAbort f v x) i := KR_free fun w hw => by
  unfold KW at hw
  exact mAb_s (h.1 v hv) (by omega) (by omega)
theorem KR_le {f : Nat → Int32} {v i : Nat} (hi : i < 8) {x : Int32} : KR f (mLeave f v x) i := KR_free fun w hw => by
  unfold KW at hw
  unfold mLeave
  exact mFree_c (by rw [mLv_n (fun o ho => by omega), mLog_n (by omega) (by omega)])
theorem KR_met {i : Nat} (hi : i < 8) : ∀ n (f : Nat → Int32), IH f → KR f (mMet n f) i := by
  intro n
  induction n with
  | zero => intro f _; exact KR_r
  | succ n ih =>
    intro f h
    rw [mMet]
    cases e : sDg f with
    | none => exact KR_r
    | some p =>
      obtain ⟨-, hv, -⟩ := sDg_R e
      exact KR_t (KR_ab h hv hi) (ih _ (IH_ab h hv))
theorem KR_st {f : Nat → Int32} (h : IH f) {i : Nat} (hi : i < 8) : KR f (mSt f) i := by
  unfold mSt mTidy
  have t1 : ∀ n (g : Nat → Int32), KR g (mTd1 n g) i := by
    intro n
    induction n with
    | zero => intro g; exact KR_r
    | succ n ih =>
      intro g
      cases e : oOld g (sDn g) with
      | none => rw [mTd1_n e]; exact KR_r
      | some j => rw [mTd1_s e]; exact KR_t (KR_le hi) (ih _)
  have t2 : ∀ n (g : Nat → Int32), KR g (mTd2 n g) i := by
    intro n
    induction n with
    | zero => intro g; exact KR_r
    | succ n ih =>
      intro g
      by_cases hq : bc (sAll g (nI 2)) ≤ g 4
      · rw [mTd2_k hq]; exact KR_r
      · cases e : oOld g (sF g) with
        | none => rw [mTd2, if_neg hq, e]; exact KR_r
        | some j =>
          rw [mTd2_s hq e]
          refine KR_t (KR_t (g := mSm g (g (74 + 21 * j + 3)) (sFst g j) j) ?_ (KR_le hi)) (ih _)
          intro _ w _
          exact mSm_n (by omega)
  exact KR_t (KR_met hi 8 f h) (KR_t (t1 8 _) (t2 8 _))
theorem KR_read {f : Nat → Int32} (h : IH f) {i k : Nat} (hi : i < 8) : KR f (mRead f i k) i := by
  have n1 : ∀ w, KW w → mRd1 f i k (74 + 21 * i + w) = f (74 + 21 * i + w) := fun w hw => by unfold KW at hw; exact ud_n (by omega)
  have n3 : ∀ w, KW w → mRd2 (mRd1 f i k) i k (74 + 21 * i + w) = f (74 + 21 * i + w) := fun w hw => by
    have hw2 := hw
    unfold KW at hw2
    unfold mRd2; rw [mLw_n (by omega), ud_n (by omega)]; exact n1 w hw
  have m1 : ∀ j, HX j → mRd1 f i k j = f j := fun j hj => by unfold HX at hj; exact ud_n (by omega)
  have h3 : IH (mRd2 (mRd1 f i k) i k) := IH_c h (fun j hj => Or.inl (by
    have hj2 := hj
    unfold HX at hj2
    unfold mRd2; rw [mLw_n (by omega), ud_n (by omega)]; exact m1 j hj))
  unfold mRead
  split
  · exact fun _ w hw => n1 w hw
  · have k3 : KR f (mRd2 (mRd1 f i k) i k) i := fun _ w hw => n3 w hw
    generalize mRd2 (mRd1 f i k) i k = g at *
    have h4 : IH (upd g (74 + 21 * i + 8) (g (74 + 21 * i + 2) + nI 1)) := IH_c h3 (fun j hj => Or.inl (by unfold HX at hj; exact ud_n (by omega)))
    have k4 : KR g (upd g (74 + 21 * i + 8) (g (74 + 21 * i + 2) + nI 1)) i := fun _ w hw => by unfold KW at hw; exact ud_n (by omega)
    unfold mRdE
    split
    · exact KR_t k3 (KR_st h3 hi)
    · split
      · exact KR_t k3 (KR_t k4 (KR_st h4 hi))
      · exact KR_t k3 (KR_t k4 (KR_t (KR_ab h4 hi hi) (KR_st (IH_ab h4 hi) hi)))
