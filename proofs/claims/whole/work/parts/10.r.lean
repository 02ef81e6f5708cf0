/-! CUT, BOTH -/
section LOOK
variable {B : Nat} {s : mS}
def cuS (f : Nat → Int32) (r v : Nat) : Bool := decide (nI v &&& (nI r ^^^ -nI 1) = nI 0) && cuV f (nI v)
theorem cuS_b {r v : Nat} (h : nI v &&& (nI r ^^^ -nI 1) = nI 0) : ∀ j, bt (nI v) j = true → bt (nI r) j = true := fun j hj => by
  have h32 : j < 32 := by
    rcases Nat.lt_or_ge j 32 with q | q
    · exact q
    · rw [b_big q] at hj; cases hj
  have := congrArg (fun x => bt x j) h
  simp only [b_and, b_xor, b_n1 j h32, hj, bt_n0, Bool.true_and] at this
  cases e : bt (nI r) j
  · rw [e] at this; cases this
  · rfl
theorem cuS_le : ∀ v, v < 256 → nI v = nI v &&& nI 255 := by decide +kernel
theorem sum8 : ∀ v, v < 256 → v = (bt (nI v) 0).toNat + 2 * (bt (nI v) 1).toNat + 4 * (bt (nI v) 2).toNat + 8 * (bt (nI v) 3).toNat + 16 * (bt (nI v) 4).toNat + 32 * (bt (nI v) 5).toNat + 64 * (bt (nI v) 6).toNat + 128 * (bt (nI v) 7).toNat := by decide +kernel
theorem sub_le {v r : Nat} (hv : v < 256) (hr : r < 256) (hs : ∀ j, bt (nI v) j = true → bt (nI r) j = true) : v ≤ r := by
  have hle : ∀ j, (bt (nI v) j).toNat ≤ (bt (nI r) j).toNat := fun j => by
    cases e : bt (nI v) j
    · exact Nat.zero_le _
    · rw [hs j e]; exact Nat.le_refl _
  have e1 := sum8 v hv
  have e2 := sum8 r hr
  have h0 := hle 0; have h1 := hle 1; have h2 := hle 2; have h3 := hle 3; have h4 := hle 4; have h5 := hle 5; have h6 := hle 6; have h7 := hle 7
  omega
theorem z_cut (hG : G B s) : ZN B q148 q293 s := by
  have hG0 := hG
  obtain ⟨⟨hR, hL, T, hT, hA⟩, -⟩ := hG0
  have hr := hR.1
  have eR := w_run hG
  obtain ⟨r, hr8, er⟩ := w_of (w := sAll (s.1 513) (nI 1)) (m := 8) (by omega) (fun j hj => by rw [bt_sAll, decide_eq_false (by omega), Bool.false_and])
  have hr8 : r < 256 := hr8
  rw [er] at eR
  have hc := cu_eq (P := cuS (s.1 513) r) hr8 (fun v hv hp he => by
    unfold cuS at hp
    rw [Bool.and_eq_true] at hp
    exact sub_eq hv hr8 (cuS_b (of_decide_eq_true hp.1)) he) (fun v hv hp => by
    unfold cuS at hp
    rw [Bool.and_eq_true] at hp
    exact sub_le hv hr8 (cuS_b (of_decide_eq_true hp.1)))
  have k90 := fun v => p90 (s := s) hr v
  simp only [Nat.reduceAdd] at eR
  refine ZN_0 (v := nI (fo (cuU (cuS (s.1 513) r)) 256 0 r)) hG ?_ (fun t ht => ?_)
  · unfold q148 q89
    simp only [Nat.reduceAdd, bx_e, eR]
    rw [nI_lit]
    have := (lp_inv (Q := fun k b v => q89_7 32 k (nI b) v s) (g := cuU (cuS (s.1 513) r)) (J := fun _ b => b < 256) (e := 256) (out := fun b => rv (nI b) s) (fun k b _ => by
      simp (disch := omega) only [q89_7, nI_lit, nI_add, pk_mul, nI_clp, nI_eqv, nI_lev, nI_ltv, nI_neg, nI_neg', nI_subv, Nat.add_zero, Nat.zero_add, Nat.mul_zero, Nat.reduceAdd, bN_rv, bM_ru, bV_rv, bV_rx, bU_ru, bU_rx, bN_ite, bM_ite, bV_ite, bU_ite, ↓bx_e, ↓sp_e, gA_ok, gZ_n, gB_0, gB_1, gB_i, and_true, and_false, true_and, false_and, decide_true, decide_false, ↓reduceIte, not_true_eq_false, not_false_eq_true, Bool.false_eq_true, Bool.true_eq_false, Bool.and_true, Bool.and_false, Bool.true_and, Bool.false_and, Bool.or_true, Bool.or_false, Bool.true_or, Bool.false_or, Bool.not_true, Bool.not_false, le_f, le_t, lt_f, lt_t, eq_f, ↓reduceIte, not_true_eq_false, not_false_eq_true, ite_10, bt_0, bt_1]) (fun k v b hv hb => ⟨by
      have ev := pc_e v hv
      have eb := pc_e b hb
      unfold cuU cuS
      simp (disch := omega) only [q89_7, q89_46, eR, q343_e, k90, ev.1, eb.1, b2_0, nI_lit, nI_add, pk_mul, nI_clp, nI_eqv, nI_lev, nI_ltv, nI_neg, nI_neg', nI_subv, Nat.add_zero, Nat.zero_add, Nat.mul_zero, Nat.reduceAdd, bN_rv, bM_ru, bV_rv, bV_rx, bU_ru, bU_rx, bN_ite, bM_ite, bV_ite, bU_ite, ↓bx_e, ↓sp_e, gA_ok, gZ_n, gB_0, gB_1, gB_i, and_true, and_false, true_and, false_and, decide_true, decide_false, ↓reduceIte, not_true_eq_false, not_false_eq_true, Bool.false_eq_true, Bool.true_eq_false, Bool.and_true, Bool.and_false, Bool.true_and, Bool.false_and, Bool.or_true, Bool.or_false, Bool.true_or, Bool.false_or, Bool.not_true, Bool.not_false, le_f, le_t, lt_f, lt_t, eq_f, ↓reduceIte, not_true_eq_false, not_false_eq_true, ite_10, bt_0, bt_1]
      by_cases q : nI v &&& (nI r ^^^ -nI 1) = nI 0
      · by_cases q2 : pc b ≤ pc v
        · have q3 : ¬ pc v < pc b := by omega
          simp only [q, q2, q3, and_true, and_false, true_and, false_and, decide_true, decide_false, ↓reduceIte, not_true_eq_false, not_false_eq_true, Bool.false_eq_true, Bool.true_eq_false, Bool.and_true, Bool.and_false, Bool.true_and, Bool.false_and, Bool.or_true, Bool.or_false, Bool.true_or, Bool.false_or, Bool.not_true, Bool.not_false]
        · have q3 : pc v < pc b := by omega
          simp only [q, q2, q3, and_true, and_false, true_and, false_and, decide_true, decide_false, ↓reduceIte, not_true_eq_false, not_false_eq_true, Bool.false_eq_true, Bool.true_eq_false, Bool.and_true, Bool.and_false, Bool.true_and, Bool.false_and, Bool.or_true, Bool.or_false, Bool.true_or, Bool.false_or, Bool.not_true, Bool.not_false]
          cases cuV (s.1 513) (nI v) <;> simp only [and_true, and_false, true_and, false_and, decide_true, decide_false, ↓reduceIte, not_true_eq_false, not_false_eq_true, Bool.false_eq_true, Bool.true_eq_false, Bool.and_true, Bool.and_false, Bool.true_and, Bool.false_and, Bool.or_true, Bool.or_false, Bool.true_or, Bool.false_or, Bool.not_true, Bool.not_false]
      · simp only [q, and_true, and_false, true_and, false_and, decide_true, decide_false, ↓reduceIte, not_true_eq_false, not_false_eq_true, Bool.false_eq_true, Bool.true_eq_false, Bool.and_true, Bool.and_false, Bool.true_and, Bool.false_and, Bool.or_true, Bool.or_false, Bool.true_or, Bool.false_or, Bool.not_true, Bool.not_false], by
      unfold cuU
      split
      · exact hv
      · exact hb⟩) 256 0 r 10000 (by omega) hr8 (by omega)).1
    rw [this, bN_rv]
  · have e5 : (sI t 512 0 (nI 0)).1 513 = s.1 513 := by rw [t0_513, ht]
    unfold q293
    rw [nI_lit]; simp only [sp_e]
    rw [nI_lit, m208, bN_rv, e5, er, hc.1]
    generalize sI t 512 0 (nI 0) = u at *
    have k292 := fun v => m292 (t := u) v
    rw [e5] at k292
    have step : ∀ k v b, v < 256 → b < 256 → q293_15 (k + 1) (nI r) (nI b) (nI v) u = q293_15 k (nI r) (nI (cuD (cuS (s.1 513) r) v b)) (nI v + -nI 1) u := fun k v b hv hb => by
      have ev := pc_e v hv
      have eb := pc_e b hb
      unfold cuD cuS
      simp (disch := omega) only [q293_15, q293_50, q293_51, q343_e, k292, ev.1, eb.1, b2_0, nI_lit, nI_add, pk_mul, nI_clp, nI_eqv, nI_lev, nI_ltv, nI_neg, nI_neg', nI_subv, Nat.add_zero, Nat.zero_add, Nat.mul_zero, Nat.reduceAdd, bN_rv, bM_ru, bV_rv, bV_rx, bU_ru, bU_rx, bN_ite, bM_ite, bV_ite, bU_ite, ↓bx_e, ↓sp_e, gA_ok, gZ_n, gB_0, gB_1, gB_i, and_true, and_false, true_and, false_and, decide_true, decide_false, ↓reduceIte, not_true_eq_false, not_false_eq_true, Bool.false_eq_true, Bool.true_eq_false, Bool.and_true, Bool.and_false, Bool.true_and, Bool.false_and, Bool.or_true, Bool.or_false, Bool.true_or, Bool.false_or, Bool.not_true, Bool.not_false, le_f, le_t, lt_f, lt_t, eq_f, ↓reduceIte, not_true_eq_false, not_false_eq_true, ite_10, bt_0, bt_1]
      by_cases q : nI v &&& (nI r ^^^ -nI 1) = nI 0
      · by_cases q2 : pc b < pc v
        · have q3 : ¬ pc v ≤ pc b := by omega
          simp only [q, q2, q3, and_true, and_false, true_and, false_and, decide_true, decide_false, ↓reduceIte, not_true_eq_false, not_false_eq_true, Bool.false_eq_true, Bool.true_eq_false, Bool.and_true, Bool.and_false, Bool.true_and, Bool.false_and, Bool.or_true, Bool.or_false, Bool.true_or, Bool.false_or, Bool.not_true, Bool.not_false]
        · have q3 : pc v ≤ pc b := by omega
          simp only [q, q2, q3, and_true, and_false, true_and, false_and, decide_true, decide_false, ↓reduceIte, not_true_eq_false, not_false_eq_true, Bool.false_eq_true, Bool.true_eq_false, Bool.and_true, Bool.and_false, Bool.true_and, Bool.false_and, Bool.or_true, Bool.or_false, Bool.true_or, Bool.false_or, Bool.not_true, Bool.not_false]
          cases cuV (s.1 513) (nI v) <;> simp only [and_true, and_false, true_and, false_and, decide_true, decide_false, ↓reduceIte, not_true_eq_false, not_false_eq_true, Bool.false_eq_true, Bool.true_eq_false, Bool.and_true, Bool.and_false, Bool.true_and, Bool.false_and, Bool.or_true, Bool.or_false, Bool.true_or, Bool.false_or, Bool.not_true, Bool.not_false]
      · simp only [q, and_true, and_false, true_and, false_and, decide_true, decide_false, ↓reduceIte, not_true_eq_false, not_false_eq_true, Bool.false_eq_true, Bool.true_eq_false, Bool.and_true, Bool.and_false, Bool.true_and, Bool.false_and, Bool.or_true, Bool.or_false, Bool.true_or, Bool.false_or, Bool.not_true, Bool.not_false]
    have loop : ∀ m b k, m < 256 → b < 256 → m + 1 < k → q293_15 k (nI r) (nI b) (nI m) u = rv (nI (fd (cuD (cuS (s.1 513) r)) (m + 1) b)) u := by
      intro m
      induction m with
      | zero =>
        intro b k hm hb hk
        cases k with
        | zero => omega
        | succ k =>
          rw [step k 0 b hm hb, show nI 0 + -nI 1 = -nI 1 by decide]
          cases k with
          | zero => omega
          | succ k =>
            rw [q293_15]
            have hneg : -nI 1 < nI 0 := by decide
            simp only [nI_lit, hneg, ↓reduceIte]
            rfl
      | succ m ih =>
        intro b k hm hb hk
        cases k with
        | zero => omega
        | succ k =>
          rw [step k (m + 1) b hm hb, nI_dec, fd]
          refine ih _ k (by omega) ?_ (by omega)
          unfold cuD
          split
          · exact hm
          · exact hb
    exact loop r r 10000 hr8 hr8 (by omega)
end LOOK
