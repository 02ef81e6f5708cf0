/-! DOOMS -/
section DOOM
theorem m290_ok {i : Nat} (hi : i < 8) {v2 v3 : Int32} (h : v2 = nI 2 ∨ ∃ k, k < 10 ∧ v3 = nI k) (t : mS) : q290 (nI i) v2 v3 t = q290_30 (nI i) v2 v3 (nI 0) (sI t 512 0 (nI 0)) := by
  unfold q290 q290_25 q290_29
  simp only [nI_lit, sp_e]
  rw [m273_t hi, bN_rv, if_neg (not_not_intro rfl)]
  rcases ix_of v3 10 (by omega) with q | q | ⟨k, hk, e⟩
  · have e2 : v2 = nI 2 := h.elim id (fun ⟨k, hk, e⟩ => by subst e; exact absurd q (nI_pos (by omega)))
    rw [m274_f (Or.inl q), bN_rv, if_neg (by decide), if_pos e2]
  · have e2 : v2 = nI 2 := h.elim id (fun ⟨k, hk, e⟩ => by subst e; rw [nI_lev (by omega) (by omega)] at q; omega)
    rw [m274_f (Or.inr q), bN_rv, if_neg (by decide), if_pos e2]
  · subst e
    rw [m274_t hk, bN_rv, if_pos rfl]
theorem m290_f1 {v1 v2 v3 : Int32} (h : (v1 < nI 0 ∨ nI 8 ≤ v1) ∨ ((∃ i, i < 8 ∧ v1 = nI i) ∧ ¬ v2 = nI 2 ∧ (v3 < nI 0 ∨ nI 10 ≤ v3))) (t : mS) : q290 v1 v2 v3 t = rv (nI 0) (sI (sI t 512 0 (nI 0)) 512 0 (nI 1)) := by
  unfold q290 q290_25 q290_29 q290_30
  simp only [nI_lit, sp_e]
  rcases h with h | ⟨⟨i, hi, e⟩, h2, h3⟩
  · rw [m273_f h, bN_rv, if_pos (by decide), m188_1, bN_rv, if_pos (by decide)]
  · subst e
    rw [m273_t hi, bN_rv, if_neg (not_not_intro rfl), m274_f h3, bN_rv, if_neg (by decide), if_neg h2, m188_1, bN_rv, if_pos (by decide)]
theorem m290_f2 {v1 v2 v3 : Int32} (h : v2 < nI 0 ∨ nI 3 ≤ v2) (t : mS) : q290_30 v1 v2 v3 (nI 0) t = rv (nI 0) (sI t 512 0 (nI 2)) := by
  unfold q290_30 q290_52
  simp only [nI_lit]
  rw [m188_0, bN_rv, if_neg (not_not_intro rfl), in_f (by omega) h, bN_rv, if_neg (not_not_intro rfl), m188_1, bN_rv, if_pos (by decide)]
theorem m290_r {i w : Nat} (hi : i < 8) (hw : w < 3) {v3 : Int32} (t : mS) : q290_30 (nI i) (nI w) v3 (nI 0) t = q290_73 (nI i) (nI w) v3 (if sR (t.1 513) i = true then nI 0 else nI 1) t := by
  unfold q290_30 q290_52
  simp only [nI_lit]
  rw [m188_0, bN_rv, if_neg (not_not_intro rfl), in_t (by omega) (by omega), bN_rv, if_pos (by decide), m188_0, bN_rv, if_neg (not_not_intro rfl), m205 hi, bN_rv]
  cases sR (t.1 513) i
  · rw [b2_f, if_neg (not_not_intro rfl)]; rfl
  · rw [b2_t, if_pos (by decide), if_pos rfl]
/-- what is left of it, once the act is done -/
theorem m290_141 {u u2 : mS} {f f' : Nat → Int32} (hq : QT u u2) (h6 : ∀ j, j < 770 → u2.1 516 j = f j) (h5 : u2.1 513 = f') (hl : ∀ j, 770 ≤ j → f' j = f j) : ∃ u3, q290_141 u2 = rv (u2.1 512 18) u3 ∧ QT u u3 ∧ u3.1 513 = f := by
  obtain ⟨u3, r1, r2, r3⟩ := mBack h5 h6 hl
  refine ⟨u3, ?_, QT_t hq (QT_F (Or.inl rfl) r3), r2⟩
  unfold q290_141
  rw [r1, bM_ru, r3.1 512 (by omega)]
theorem dm_bits {s s2 : mS} {u : mS} {f f' : Nat → Int32} {e : Int32} (h1 : RS s 32 f) (h2 : RS s2 64 f') (hu : ∀ j, bt (u.1 512 18) j = (decide (j < 8) && ((sR f j && !(sR f' j)) && !(bt e j)))) : s.1 32 0 &&& (s2.1 64 0 ^^^ -nI 1) &&& (e ^^^ -nI 1) = u.1 512 18 := by
  apply b_ext
  intro j hj
  rw [hu j, b_and, b_and, bt_no hj, bt_no hj, h1.1 j, h2.1 j]
  by_cases h8 : j < 8
  · cases bt e j <;> cases sR f j <;> cases sR f' j <;> simp only [h8, and_true, and_false, true_and, false_and, decide_true, decide_false, ↓reduceIte, not_true_eq_false, not_false_eq_true, Bool.false_eq_true, Bool.true_eq_false, Bool.and_true, Bool.and_false, Bool.true_and, Bool.false_and, Bool.or_true, Bool.or_false, Bool.true_or, Bool.false_or, Bool.not_true, Bool.not_false]
  · simp only [h8, and_true, and_false, true_and, false_and, decide_true, decide_false, ↓reduceIte, not_true_eq_false, not_false_eq_true, Bool.false_eq_true, Bool.true_eq_false, Bool.and_true, Bool.and_false, Bool.true_and, Bool.false_and, Bool.or_true, Bool.or_false, Bool.true_or, Bool.false_or, Bool.not_true, Bool.not_false]
end DOOM
section ACT
variable {B : Nat} {s : mS}
theorem z_dooms (hG : G B s) (hB : B + 60 < 1000000000) (v1 v2 v3 : Int32) : ZT B [(2, 15, 1), (0, 19, 2), (4, 23, 3)] (q146 v1 v2 v3) (q290 v1 v2 v3) s := by
  have hG0 := hG
  obtain ⟨⟨hR, hL, T, hT, hA⟩, -, -, -, -, hU0, -⟩ := hG0
  have bad1 : (v1 < nI 0 ∨ nI 8 ≤ v1) ∨ ((∃ i, i < 8 ∧ v1 = nI i) ∧ ¬ v2 = nI 2 ∧ (v3 < nI 0 ∨ nI 10 ≤ v3)) → ZT B [(2, 15, 1), (0, 19, 2), (4, 23, 3)] (q146 v1 v2 v3) (q290 v1 v2 v3) s := fun h => by
    refine ZX_t (x := 2) (u := 2) (w := 15) (c := 1) (v := nI 0) hG ?_ rfl (by omega) (by omega) (fun t ht => m290_f1 h t)
    unfold q146
    rcases h with h | ⟨⟨i, hi, e⟩, h2, h3⟩
    · rw [p179_f h]; rfl
    · subst e
      rw [p179_t hi, bU_ru, nI_lit, if_neg h2, p180_f h3]; rfl
  rcases ix_of v1 8 (by omega) with h | h | ⟨i, hi, e⟩
  · exact bad1 (Or.inl (Or.inl h))
  · exact bad1 (Or.inl (Or.inr h))
  · subst e
    have main : (v2 = nI 2 ∨ ∃ k, k < 10 ∧ v3 = nI k) → ZT B [(2, 15, 1), (0, 19, 2), (4, 23, 3)] (q146 (nI i) v2 v3) (q290 (nI i) v2 v3) s := fun h => by
      have hm := m290_ok hi h
      have hc : q146 (nI i) v2 v3 s = q146_13 (nI i) v2 v3 s := by
        unfold q146
        rw [p179_t hi, bU_ru, nI_lit]
        by_cases e : v2 = nI 2
        · rw [if_pos e]
        · obtain ⟨k, hk, e3⟩ := h.resolve_left e
          subst e3
          rw [if_neg e, p180_t hk, bU_ru]
      have bad2 : (v2 < nI 0 ∨ nI 3 ≤ v2) → ZT B [(2, 15, 1), (0, 19, 2), (4, 23, 3)] (q146 (nI i) v2 v3) (q290 (nI i) v2 v3) s := fun h2 => by
        refine ZX_t (x := 0) (u := 0) (w := 19) (c := 2) (v := nI 0) hG ?_ rfl (by omega) (by omega) (fun t ht => by rw [hm t, m290_f2 h2])
        rw [hc]
        unfold q146_13 q146_22
        simp only [nI_lit]
        by_cases h0 : v2 < nI 0
        · rw [if_pos h0]
        · rw [if_neg h0, if_neg (Int32.not_le.mpr (Int32.lt_of_lt_of_le (by decide) (h2.resolve_left h0)))]
      rcases ix_of v2 3 (by omega) with h2 | h2 | ⟨w, hw, e2⟩
      · exact bad2 (Or.inl h2)
      · exact bad2 (Or.inr h2)
      · subst e2
        have k183 := p183 (s := s) hR.1 hi
        have hc2 : q146 (nI i) (nI w) v3 s = bU (q183 (nI i) s) fun s7 => if ¬ nI w = nI 1 then (q146_73 (nI i) (nI w) v3 s7) else (bN (q66 (26 + 6) (nI i) s7) fun x9 s8 => if ¬ x9 = nI 0 then (rv (nI 0) s8) else (bN (q73 (26 + 6) (nI i) v3 s8) fun x11 s10 => if x11 = nI 0 then (q146_73 (nI i) (nI w) v3 s10) else (rv (nI 0) s10))) := by
          rw [hc]
          unfold q146_13
          simp only [nI_lit]
          rw [if_neg (show ¬ (nI w < nI 0) from by rw [lt0 (by omega)]; exact id), if_pos (by rw [nI_lev (by omega) (by omega)]; omega)]
        cases hr : sR (s.1 513) i
        · rw [hr] at k183
          refine ZX_t (x := 4) (u := 4) (w := 23) (c := 3) (v := nI 0) hG (by rw [hc2, k183]; rfl) rfl (by omega) (by omega) (fun t ht => ?_)
          rw [hm t, m290_r hi hw, t0_513, ht, hr]
          unfold q290_73
          simp only [Bool.false_eq_true, ↓reduceIte, nI_lit]
          rw [m188_1, bN_rv, if_neg (by decide)]
        · rw [hr] at k183
          have hu := sR_U hr
          -- the reference, up to the act
          have pre : ∀ t : mS, t.1 513 = s.1 513 → ∃ u, QT (sI t 512 0 (nI 0)) u ∧ u.1 513 = s.1 513 ∧ (∀ j, j < 770 → u.1 516 j = s.1 513 j) ∧ u.1 512 18 = nI 0 ∧ q290 (nI i) (nI w) v3 t = (if ¬ nI w = nI 0 then (if ¬ nI w = nI 2 then (bN (q207 (nI i) u) fun x7 s6 => if ¬ x7 = nI 0 then (q290_141 s6) else (bN (q264 (nI i) v3 s6) fun x9 s8 => if ¬ x9 = nI 0 then (q290_141 s8) else (bM (q265 (nI i) v3 s8) fun s10 => q290_141 s10))) else (bN (q268 (nI i) u) fun x12 s11 => q290_141 s11)) else (bM (q263 (nI i) v3 u) fun s13 => q290_141 s13)) := fun t ht => by
            obtain ⟨t1, l1, l2, l3⟩ := m196 (t := sI t 512 0 (nI 0))
            have e1 : (sI t 512 0 (nI 0)).1 513 = s.1 513 := by rw [t0_513]; exact ht
            refine ⟨sI t1 512 18 (nI 0), ?_, ?_, ?_, ?_, ?_⟩
            · exact QT_t (QT_F (Or.inr rfl) l2) ⟨fun b x _ _ _ => sI_fn x, fun j hj => by rw [sI_sm, ud_n hj], Eq.trans rfl rfl⟩
            · rw [sI_fn (by omega), l2.1 513 (by omega)]; exact e1
            · intro j hj; rw [sI_fn (by omega), l3 j hj, e1]
            · rw [sI_sm, ud_e rfl]
            · rw [hm t, m290_r hi hw, e1, hr]
              unfold q290_73
              simp only [↓reduceIte, nI_lit]
              rw [m188_0, bN_rv, if_pos rfl, l1, bM_ru, sp_e]
          have fin : ∀ s2 f' (e : Int32), Fw 58 s s2 → RS s2 64 f' → q146 (nI i) (nI w) v3 s = q146_134 e s2 → (∀ j, 770 ≤ j → f' j = s.1 513 j) → (∀ t : mS, t.1 513 = s.1 513 → ∃ u u2, QT (sI t 512 0 (nI 0)) u ∧ QT u u2 ∧ u2.1 513 = f' ∧ (∀ j, j < 770 → u2.1 516 j = s.1 513 j) ∧ (∀ j, bt (u2.1 512 18) j = (decide (j < 8) && ((sR (s.1 513) j && !(sR f' j)) && !(bt e j)))) ∧ q290 (nI i) (nI w) v3 t = q290_141 u2) → ZT B [(2, 15, 1), (0, 19, 2), (4, 23, 3)] (q146 (nI i) (nI w) v3) (q290 (nI i) (nI w) v3) s := fun s2 f' e hF hS hcl hl href => by
            have e32 : s2.1 32 0 = s.1 32 0 := by rw [hF.1 32 (by omega) (by omega) (by omega)]
            have hS1 : RS s2 32 (s.1 513) := (RW_s hR hA.1.1.1 (fun b x y => hF.1 b (by omega) (by omega) (by omega))).1
            refine ZV_look (v := s2.1 32 0 &&& (s2.1 64 0 ^^^ -nI 1) &&& (e ^^^ -nI 1)) (s1 := s2) hG ?_ hF.2 (Gq_58 hF) (fun t ht => ?_)
            · rw [hcl]
              unfold q146_134
              simp only [nI_lit, Nat.reduceAdd]
            · have e5 : t.1 513 = s.1 513 := by rw [ht]; exact hF.1 513 (by omega) (by omega) (by omega)
              obtain ⟨u, u2, a1, a2, a3, a4, a5, a6⟩ := href t e5
              obtain ⟨u3, r1, r2, r3⟩ := m290_141 (u := u) a2 a4 a3 hl
              have q1 := QT_t a1 r2
              refine ⟨u3, ?_, q1.2.2.trans (Eq.trans rfl rfl), by rw [q1.2.1 0 (by omega)]; exact t0_0, Gq_t Gq_0 (QT_G q1 (by rw [r3, t0_513, e5]))⟩
              rw [a6, r1, dm_bits hS1 hS a5]
          obtain ⟨s1, k1, k2, k3, k4⟩ := cTry hR hL hA (N := 0) (by omega) (by omega)
          have n0 : bt (nI 0) = fun _ => false := funext fun j => bt_n0
          by_cases w0 : w = 0
          · subst w0
            obtain ⟨k, hk, e3⟩ := h.resolve_left (by decide)
            subst e3
            obtain ⟨s2, j1, j2, j3, j4, j5⟩ := p116 k3 k4 hA.1 (by omega) hi hk hr
            refine fin s2 (mRead (s.1 513) i k) (nI 0) (Fw_t k2 j5) j2.1 ?_ (fun j hj => LJ_read hU0.2 hi (Or.inr hj)) (fun t ht => ?_)
            · rw [hc2, k183, if_pos rfl, bU_ru, if_pos (by decide)]
              unfold q146_73
              rw [k1, bM_ru]
              simp only [nI_lit]
              rw [if_neg (not_not_intro trivial), j1, bM_ru]
            · obtain ⟨u, a1, a2, a3, a4, a5⟩ := pre t ht
              obtain ⟨u2, o1, o2⟩ := m263 (t := u) a2 hA.1 hi hk hr
              refine ⟨u, u2, a1, QT_M (MT_m o2), o2.1, fun j hj => by rw [o2.2.1 516 (by omega) (by omega) (by omega)]; exact a3 j hj, fun j => ?_, ?_⟩
              · rw [o2.2.2.2.2.1 j, a4, bt_n0, Bool.false_or, Bool.not_false, Bool.and_true]
              · rw [a5, if_neg (not_not_intro rfl), o1, bM_ru]
          · by_cases w2 : w = 2
            · subst w2
              obtain ⟨s2, j1, j2, j3, j4, j5⟩ := p118 k3 k4 hA.1 hA.2.1 (by omega) (by omega) hi hr
              have hR0 : ∀ j, j < 8 → sR (mCo0 (s.1 513) i) j = (sR (s.1 513) j && !(decide (j = i))) := fun j hj => by
                unfold mCo0 mClose sR
                by_cases e : j = i
                · subst e; rw [ud_e rfl]; simp only [decide_true, Bool.not_true, Bool.and_false]; decide
                · rw [ud_n (by omega), ud_n (by omega), ud_n (by omega), decide_eq_false e, Bool.not_false, Bool.and_true]
              refine fin s2 (mCom (s.1 513) i) (shlI (nI 1) (nI i)) (Fw_t k2 j5) j2.1 ?_ (fun j hj => LJ_com hU0.2 hA.2.1 hi hA.2.2.1 (Or.inr hj)) (fun t ht => ?_)
              · rw [hc2, k183, if_pos rfl, bU_ru, if_pos (by decide)]
                unfold q146_73
                rw [k1, bM_ru]
                simp only [nI_lit]
                rw [if_pos (by decide), if_pos (by decide), j1, bN_rv, bx_e]
              · obtain ⟨u, a1, a2, a3, a4, a5⟩ := pre t ht
                obtain ⟨u2, o1, o2⟩ := m268 (t := u) a2 hA.1 (by omega) hi hr hA.2.2.1 hA.2.2.2
                have o3 := MT_t (MT_w (t := u) (f' := mCo0 (s.1 513) i)) (MT_m o2)
                refine ⟨u, u2, a1, QT_M o3, o2.1, fun j hj => by rw [o3.2.1 516 (by omega) (by omega) (by omega)]; exact a3 j hj, fun j => ?_, ?_⟩
                · rw [o2.2.2.2.2.1 j, wr_n (by omega), a4, bt_n0, Bool.false_or, bt_sh (by omega)]
                  by_cases h8 : j < 8
                  · rw [hR0 j h8]
                    cases decide (j = i) <;> cases sR (s.1 513) j <;> cases sR (mCom (s.1 513) i) j <;> simp only [h8, and_true, and_false, true_and, false_and, decide_true, decide_false, ↓reduceIte, not_true_eq_false, not_false_eq_true, Bool.false_eq_true, Bool.true_eq_false, Bool.and_true, Bool.and_false, Bool.true_and, Bool.false_and, Bool.or_true, Bool.or_false, Bool.true_or, Bool.false_or, Bool.not_true, Bool.not_false]
                  · simp only [h8, and_true, and_false, true_and, false_and, decide_true, decide_false, ↓reduceIte, not_true_eq_false, not_false_eq_true, Bool.false_eq_true, Bool.true_eq_false, Bool.and_true, Bool.and_false, Bool.true_and, Bool.false_and, Bool.or_true, Bool.or_false, Bool.true_or, Bool.false_or, Bool.not_true, Bool.not_false]
                · rw [a5, if_pos (by decide), if_neg (not_not_intro rfl), o1, bN_rv]
            · have w1 : w = 1 := by omega
              subst w1
              obtain ⟨k, hk, e3⟩ := h.resolve_left (by decide)
              subst e3
              have k66 := p66 hR.1 hi hu
              have k73 := p73 hR.1 hi hk
              have ew : (!(decide (sWri (s.1 513) k = none)) && !(decide (sWri (s.1 513) k = some i))) = wts (s.1 513) i k := rfl
              rw [ew] at k73
              have hc3 : q146 (nI i) (nI 1) (nI k) s = if ¬ b2 (sOn (s.1 513) i) = nI 0 then rv (nI 0) s else if b2 (wts (s.1 513) i k) = nI 0 then q146_73 (nI i) (nI 1) (nI k) s else rv (nI 0) s := by
                rw [hc2, k183, if_pos rfl, bU_ru, if_neg (not_not_intro rfl), k66, bN_rv, k73, bN_rv]
              have hm3 : ∀ u : mS, u.1 513 = s.1 513 → (bN (q207 (nI i) u) fun x7 s6 => if ¬ x7 = nI 0 then (q290_141 s6) else (bN (q264 (nI i) (nI k) s6) fun x9 s8 => if ¬ x9 = nI 0 then (q290_141 s8) else (bM (q265 (nI i) (nI k) s8) fun s10 => q290_141 s10))) = if ¬ b2 (sOn (s.1 513) i) = nI 0 then q290_141 u else if ¬ b2 (wts (s.1 513) i k) = nI 0 then q290_141 u else bM (q265 (nI i) (nI k) u) fun s10 => q290_141 s10 := fun u hu5 => by
                rw [m207 (by rw [hu5]; exact hA.1.1.1) hi, bN_rv, hu5, m264 (by rw [hu5]; exact hA.1.1) hi hk, bN_rv, hu5]
                rfl
              have nothing : (q146 (nI i) (nI 1) (nI k) s = rv (nI 0) s) → (∀ u : mS, u.1 513 = s.1 513 → (if ¬ b2 (sOn (s.1 513) i) = nI 0 then q290_141 u else if ¬ b2 (wts (s.1 513) i k) = nI 0 then q290_141 u else bM (q265 (nI i) (nI k) u) fun s10 => q290_141 s10) = q290_141 u) → ZT B [(2, 15, 1), (0, 19, 2), (4, 23, 3)] (q146 (nI i) (nI 1) (nI k)) (q290 (nI i) (nI 1) (nI k)) s := fun hcl href => by
                refine ZV_look (v := nI 0) (s1 := s) hG hcl rfl Gq_r (fun t ht => ?_)
                have e5 : t.1 513 = s.1 513 := by rw [ht]
                obtain ⟨u, a1, a2, a3, a4, a5⟩ := pre t e5
                obtain ⟨u3, r1, r2, r3⟩ := m290_141 (u := u) (u2 := u) QT_r a3 a2 (fun _ _ => rfl)
                have q1 := QT_t a1 r2
                refine ⟨u3, ?_, q1.2.2.trans (Eq.trans rfl rfl), by rw [q1.2.1 0 (by omega)]; exact t0_0, Gq_t Gq_0 (QT_G q1 (by rw [r3, t0_513, e5]))⟩
                rw [a5, if_pos (by decide), if_pos (by decide), hm3 u a2, href u a2, r1, a4]
              cases ho : sOn (s.1 513) i
              · cases hwt : wts (s.1 513) i k
                · obtain ⟨s2, j1, j2, j3, j4, j5⟩ := p117 k3 k4 hA.1 (by omega) hi hk hr (wts_f hwt)
                  refine fin s2 (mWrite (s.1 513) i k) (nI 0) (Fw_t k2 j5) j2.1 ?_ (fun j hj => LJ_write hU0.2 hi (Or.inr hj)) (fun t ht => ?_)
                  · rw [hc3, ho, hwt, b2_f, if_neg (not_not_intro rfl), if_pos rfl]
                    unfold q146_73
                    rw [k1, bM_ru]
                    simp only [nI_lit]
                    rw [if_pos (by decide), if_neg (not_not_intro trivial), j1, bM_ru]
                  · obtain ⟨u, a1, a2, a3, a4, a5⟩ := pre t ht
                    obtain ⟨u2, o1, o2⟩ := m265 (t := u) a2 hA.1 hi hk hr (wts_f hwt)
                    refine ⟨u, u2, a1, QT_M (MT_m o2), o2.1, fun j hj => by rw [o2.2.1 516 (by omega) (by omega) (by omega)]; exact a3 j hj, fun j => ?_, ?_⟩
                    · rw [o2.2.2.2.2.1 j, a4, bt_n0, Bool.false_or, Bool.not_false, Bool.and_true]
                    · rw [a5, if_pos (by decide), if_pos (by decide), hm3 u a2, ho, hwt, b2_f, if_neg (not_not_intro rfl), if_neg (not_not_intro rfl), o1, bM_ru]
                · exact nothing (by rw [hc3, ho, hwt, b2_f, b2_t, if_neg (not_not_intro rfl), if_neg (by decide)]) (fun u _ => by rw [ho, hwt, b2_f, b2_t, if_neg (not_not_intro rfl), if_pos (by decide)])
              · exact nothing (by rw [hc3, ho, b2_t, if_pos (by decide)]) (fun u _ => by rw [ho, b2_t, if_pos (by decide)])
    rcases ix_of v3 10 (by omega) with h | h | ⟨k, hk, e⟩
    · by_cases e2 : v2 = nI 2
      · exact main (Or.inl e2)
      · exact bad1 (Or.inr ⟨⟨i, hi, rfl⟩, e2, Or.inl h⟩)
    · by_cases e2 : v2 = nI 2
      · exact main (Or.inl e2)
      · exact bad1 (Or.inr ⟨⟨i, hi, rfl⟩, e2, Or.inr h⟩)
    · exact main (Or.inr ⟨k, hk, e⟩)
end ACT
