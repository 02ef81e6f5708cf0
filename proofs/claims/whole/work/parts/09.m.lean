/-! WHAT THE CLIENTS HAVE COUNTED -/
def IU (U : Nat) (f : Nat → Int32) : Prop := ∀ c, c < 5 → (∃ a, a ≤ 99 ∧ f (49 + 5 * c + 3) = nI a) ∧ ∃ b, b ≤ U ∧ f (49 + 5 * c + 4) = nI b
theorem IU_c {U : Nat} {f g : Nat → Int32} (h : IU U f) (hg : ∀ j, 49 ≤ j → j < 74 → g j = f j) : IU U g := fun c hc => by
  rw [hg _ (by omega) (by omega), hg _ (by omega) (by omega)]; exact h c hc
theorem IU_mo {U V : Nat} {f : Nat → Int32} (h : IU U f) (hV : U ≤ V) : IU V f := fun c hc => by
  obtain ⟨h1, b, hb, h2⟩ := h c hc
  exact ⟨h1, b, by omega, h2⟩
theorem IU_ab {U : Nat} {f : Nat → Int32} (h : IU U f) {i : Nat} {w : Int32} : IU U (mAbort f i w) := fun c hc => by
  have hm : ∀ j, 49 ≤ j → j < 74 → mFree (mLog f i w) i j = f j := fun j h1 h2 => by
    unfold mFree
    rw [if_neg (by omega), if_neg (by omega), mLog_n (by omega) (by omega)]
  obtain ⟨⟨a, ha, ea⟩, b, hb, eb⟩ := h c hc
  unfold mAbort
  constructor
  · by_cases e : c = wh f i
    · subst e
      rw [ud_e rfl, ea, nI_add, mn_nI (by omega) (by omega)]
      exact ⟨_, by omega, rfl⟩
    · rw [ud_n (by omega), hm _ (by omega) (by omega)]
      exact ⟨a, ha, ea⟩
  · rw [ud_n (by omega), hm _ (by omega) (by omega)]
    exact ⟨b, hb, eb⟩
theorem IU_met {U : Nat} : ∀ n (f : Nat → Int32), IU U f → IU U (mMet n f) := by
  intro n
  induction n with
  | zero => intro f h; exact h
  | succ n ih =>
    intro f h
    rw [mMet]
    cases e : sDg f with
    | none => exact h
    | some p => exact ih _ (IU_ab h)
theorem IU_st {U : Nat} {f : Nat → Int32} (h : IU U f) : IU U (mSt f) := by
  unfold mSt
  have h1 := IU_met 8 f h
  generalize mMet 8 f = g at *
  have t1 : ∀ n (g : Nat → Int32), IU U g → IU U (mTd1 n g) := by
    intro n
    induction n with
    | zero => intro g hg; exact hg
    | succ n ih =>
      intro g hg
      cases e : oOld g (sDn g) with
      | none => rw [mTd1_n e]; exact hg
      | some i => rw [mTd1_s e]; exact ih _ (IU_c hg (fun j a b => mLe_n (oOld_s e).1 (by omega) (by omega)))
  have t2 : ∀ n (g : Nat → Int32), IU U g → IU U (mTd2 n g) := by
    intro n
    induction n with
    | zero => intro g hg; exact hg
    | succ n ih =>
      intro g hg
      by_cases hq : bc (sAll g (nI 2)) ≤ g 4
      · rw [mTd2_k hq]; exact hg
      · cases e : oOld g (sF g) with
        | none => rw [mTd2, if_neg hq, e]; exact hg
        | some i =>
          rw [mTd2_s hq e]
          exact ih _ (IU_c hg (fun j a b => by unfold mSumm; rw [mLe_n (oOld_s e).1 (by omega) (by omega), mSm_n (by omega)]))
  exact t2 8 _ (t1 8 _ h1)
theorem IU_read {U : Nat} {f : Nat → Int32} (h : IU U f) {i k : Nat} : IU U (mRead f i k) := by
  have n1 : ∀ j, j < 74 → mRd1 f i k j = f j := fun j hj => ud_n (by omega)
  have n3 : ∀ j, j < 74 → mRd2 (mRd1 f i k) i k j = f j := fun j hj => by unfold mRd2; rw [mLw_n (by omega), ud_n (by omega)]; exact n1 j hj
  unfold mRead
  split
  · exact IU_c h (fun j _ hj => n1 j hj)
  · have h3 : IU U (mRd2 (mRd1 f i k) i k) := IU_c h (fun j _ hj => n3 j hj)
    generalize mRd2 (mRd1 f i k) i k = g at *
    have h4 : IU U (upd g (74 + 21 * i + 8) (g (74 + 21 * i + 2) + nI 1)) := IU_c h3 (fun j _ hj => ud_n (by omega))
    unfold mRdE
    split
    · exact IU_st h3
    · split
      · exact IU_st h4
      · exact IU_st (IU_ab h4)
theorem IU_write {U : Nat} {f : Nat → Int32} (h : IU U f) {i k : Nat} : IU U (mWrite f i k) := by
  unfold mWrite
  split
  · have h2 : IU U (mLr (mWr1 f i k) i k) := IU_c h (fun j _ hj => by rw [mLr_n (fun o ho => by omega)]; unfold mWr1; exact ud_n (by omega))
    unfold mWrE
    split
    · exact IU_st h2
    · exact IU_st (IU_c h2 (fun j _ hj => ud_n (by omega)))
  · exact IU_st (IU_ab h)
theorem IU_beg {U : Nat} {f : Nat → Int32} (h : IU U f) {i c : Nat} : IU U (mBeg f i c) := IU_c h (fun j _ hj => mBeg_n (by omega) (by omega))
theorem IU_com {U : Nat} {f : Nat → Int32} (h : IU U f) {i : Nat} (hn : hN f ≤ 12) : IU (U + 1) (mCom f i) := by
  unfold mCom
  apply IU_st
  have e1 : ∀ j, 49 ≤ j → j < 74 → mCo1 f i j = f j := fun j a b => mCo1_n (by omega) (by omega) (by omega) (fun k hk => by omega)
  have e7 : mCo3 f i 7 = f 7 := by
    unfold mCo3 mCo2
    rw [ud_n (by omega), ud_n (by omega), ud_n (by omega), mCo1_n (by omega) (by omega) (by omega) (fun k hk => by omega)]
  have h3 : IU (U + 1) (mCo3 f i) := fun c hc => by
    obtain ⟨⟨a, ha, ea⟩, b, hb, eb⟩ := h c hc
    unfold mCo3 mCo2
    constructor
    · rw [ud_n (by omega)]
      by_cases e : c = wh f i
      · subst e; rw [ud_e rfl]; exact ⟨0, by omega, rfl⟩
      · rw [ud_n (by omega), ud_n (by omega), e1 _ (by omega) (by omega)]; exact ⟨a, ha, ea⟩
    · rw [ud_n (by omega), ud_n (by omega)]
      by_cases e : c = wh f i
      · subst e; rw [ud_e rfl, e1 _ (by omega) (by omega), eb, nI_add]; exact ⟨b + 1, by omega, rfl⟩
      · rw [ud_n (by omega), e1 _ (by omega) (by omega)]; exact ⟨b, by omega, eb⟩
  refine IU_c h3 (fun j a b => ?_)
  rw [mSpo_n (fun o ho => by omega)]
  unfold mCo4
  rw [mLog_n (by omega) (by omega), mHis_n (by unfold hN; rw [e7]; exact hn) (by omega) (by omega)]
theorem IU_tick {T U : Nat} {f : Nat → Int32} (hA : IA T f) (h : IU U f) : IU (U + 1) (mTick f) := by
  unfold mTick
  split
  · exact IU_mo h (by omega)
  · have h8 : IU U (upd f 8 (dS f)) := IU_c h (fun j a b => ud_n (by omega))
    have hn8 : hN (upd f 8 (dS f)) ≤ 12 := by unfold hN; rw [ud_n (by omega)]; exact hA.2.2.1
    generalize upd f 8 (dS f) = g at *
    unfold mTk
    split
    · split
      · exact IU_mo h8 (by omega)
      · exact IU_mo (IU_beg h8) (by omega)
    · split
      · split
        · exact IU_com h8 hn8
        · split
          · exact IU_mo h8 (by omega)
          · exact IU_mo (IU_write h8) (by omega)
      · exact IU_mo (IU_read h8) (by omega)
theorem IU_run : ∀ n (f : Nat → Int32) T U, IA T f → T + n < 1000000000 → IU U f → IU (U + n) (mRun n f) := by
  intro n
  induction n with
  | zero => intro f T U _ _ h; exact h
  | succ n ih =>
    intro f T U hA hT h
    rw [mRun]
    obtain ⟨T', hT', hA'⟩ := IA_tick hA (by omega)
    have := ih _ T' (U + 1) hA' (by omega) (IU_tick hA h)
    rw [show U + (n + 1) = U + 1 + n by omega]; exact this
theorem IU_pos {U : Nat} {f : Nat → Int32} (h : IU U f) (hU : U < 2147483648) {c : Nat} (hc : c < 5) : nI 0 ≤ f (49 + 5 * c + 3) ∧ nI 0 ≤ f (49 + 5 * c + 4) := by
  obtain ⟨⟨a, ha, ea⟩, b, hb, eb⟩ := h c hc
  rw [ea, eb, nI_lev (by omega) (by omega), nI_lev (by omega) (by omega)]
  omega
