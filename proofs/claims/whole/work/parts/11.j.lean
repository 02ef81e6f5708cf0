/-! KEEP -/
section ACT
variable {B : Nat} {s : mS}
theorem IM_k {T : Nat} {f : Nat → Int32} (h : IM T f) {k : Nat} (hk : k ≤ 6) : IM T (upd f 4 (nI k)) := by
  obtain ⟨h1, ⟨n, hn, a0, a1, a2, a3, a4⟩, h3, ⟨t0, t3, t⟩, -⟩ := h
  have g : ∀ j, j ≠ 4 → upd f 4 (nI k) j = f j := fun j hj => ud_n hj
  refine ⟨IS_c h1 (fun j x y => g _ (by omega)), ⟨n, hn, by rw [g _ (by omega)]; exact a0, fun c hc => by rw [g _ (by omega)]; exact a1 c hc, fun c w' hc hc5 hw' => by rw [g _ (by omega)]; exact a2 c w' hc hc5 hw', fun c j hc hj => by rw [g _ (by omega), g _ (by omega)]; exact a3 c j hc hj, fun j hj hv => ?_⟩, WLw_c (g _ (by omega)) (fun j a b => g _ (by omega)) h3, ⟨t0, by rw [g _ (by omega)]; exact t3, fun l hl => by rw [g _ (by omega), g _ (by omega), g _ (by omega)]; exact t l hl⟩, k, hk, ud_e rfl⟩
  have e : sU (upd f 4 (nI k)) j = sU f j := by unfold sU; rw [g _ (by omega)]
  rw [e] at hv
  rw [wh_c (g _ (by omega))]; exact a4 j hj hv
theorem RW_k {s : mS} {a : Nat} {f : Nat → Int32} (h : RW s a f) (hw : IW f) (v : Int32) : RW (sI s a 10 v) a (upd f 4 v) := by
  obtain ⟨h1, h2, h3, h4, h5, h6, h7, h8, h9, h10⟩ := h
  have c : ∀ b, b ≠ a → (sI s a 10 v).1 b = s.1 b := fun b hb => sI_fn hb
  have g : ∀ j, j ≠ 4 → upd f 4 v j = f j := fun j hj => ud_n hj
  refine ⟨RS_c h1 hw (fun b x y => c b (by omega)) (fun j x y => g j (by omega)) (fun j x => g _ (by omega)), RC_c h2 (fun b x y => c b (by omega)) (g 0 (by omega)) (fun j x y => g j (by omega)), RK_c h3 (fun b x y => c b (by omega)) (fun j x y => g j (by omega)), RLg_c h4 (fun b x y => c b (by omega)) (g 6 (by omega)) (fun j x y => g j (by omega)), RH_c h5 (fun b x y => c b (by omega)) (g 7 (by omega)) (fun j x y => g j (by omega)), ?_, ?_, ?_, ?_, ?_⟩
  · rw [sI_sm, ud_n (by omega), g 3 (by omega)]; exact h6
  · rw [sI_sm, ud_e rfl, ud_e rfl]
  · rw [sI_sm, ud_n (by omega), g 5 (by omega)]; exact h8
  · rw [sI_sm, ud_n (by omega), g 8 (by omega)]; exact h9
  · rw [sI_sm, ud_n (by omega), g 1 (by omega)]; exact h10
theorem z_keep (hG : G B s) (hB : B + 60 < 1000000000) (v1 : Int32) : ZT (B + 60) [(0, 12, 1)] (q144 v1) (q289 v1) s := by
  have hG60 := G_mo hG (show B ≤ B + 60 by omega)
  have hG0 := hG
  obtain ⟨⟨hR, hL, T, hT, hA⟩, -, -, -, -, hU0, -⟩ := hG0
  have bad : (v1 < nI 0 ∨ nI 7 ≤ v1) → ZT (B + 60) [(0, 12, 1)] (q144 v1) (q289 v1) s := fun h => by
    refine ZX_t (x := 0) (u := 0) (w := 12) (c := 1) (v := nI 0) hG60 ?_ rfl (by omega) (by omega) (fun t ht => ?_)
    · unfold q144 q144_10
      simp only [nI_lit]
      by_cases h0 : v1 < nI 0
      · simp only [h0, ↓reduceIte]
      · have h1 : ¬ v1 ≤ nI 6 := Int32.not_le.mpr (Int32.lt_of_lt_of_le (by decide) (h.resolve_left h0))
        simp only [h0, h1, ↓reduceIte]
    · unfold q289
      simp only [nI_lit, sp_e]
      rw [in_f (by omega) h, bN_rv, if_neg (not_not_intro rfl)]
      unfold q289_21
      rw [nI_lit, m188_1, bN_rv, nI_lit, if_neg (by decide)]
  rcases ix_of v1 7 (by omega) with h | h | ⟨k, hk, e⟩
  · exact bad (Or.inl h)
  · exact bad (Or.inr h)
  · subst e
    obtain ⟨s1, k1, k2, k0, k3, k4, k5⟩ := act_Z (B' := B + 60) hG (by omega)
    have M1 := IM_k hA.1 (show k ≤ 6 by omega)
    have e4 : s1.1 26 10 = s.1 513 4 := k3.2.2.2.2.2.2.1
    obtain ⟨s3, o1, o2, o3, o4, o5⟩ := p125 (RW_k k3 hA.1.1.1 (nI k)) (RLw_c hA.1.2.2.1 (ud_n (by omega)) (fun j a b => ud_n (by omega)) (fun b x y => sI_fn (by omega)) k4) M1 (by omega)
    have hFw : Fw 26 s1 s3 := ⟨fun b h1 h2 h3 => (o5.1 b h1 h2 h3).trans (sI_fn (by omega)), o5.2.trans (Eq.trans rfl rfl)⟩
    refine Or.inl ⟨s.1 513 4, s3, ?_, hFw.2.trans k2, fun t ht => ?_⟩
    · unfold q144
      have q0 : ¬ nI k < nI 0 := nI_pos (by omega)
      have q1 : nI k ≤ nI 6 := by rw [nI_lev (by omega) (by omega)]; omega
      simp only [nI_lit, q0, q1, ↓reduceIte]
      rw [k1, bM_ru, bx_e, sp_e, o1, bM_ru, e4]
    · obtain ⟨t1, l1, l2, l3, l4, l5⟩ := k5 s3 _ hFw o2 o3 ⟨T, by omega, IA_tidy hA M1 (fun j hj => ud_n (by omega))⟩ ⟨IU_mo (IU_tidy (IU_c hU0.1 (fun j a b => ud_n (by omega)))) (by omega), IH_tidy (IH_c hU0.2 (fun j hj => Or.inl (by unfold HX at hj; exact ud_n (by omega))))⟩ (fun j hj => by rw [LJ_tidy hj]; unfold LJ at hj; exact ud_n (by omega)) t ht
      have e8 : sI t1 513 4 (nI k) = wr t1 (upd (s.1 513) 4 (nI k)) := by rw [sI_w0, l3]
      have m61 := m261 (t := wr t1 (upd (s.1 513) 4 (nI k))) (show k ≤ 6 by omega) (by rw [wr_1, ud_e rfl])
      have o6 : MT t1 (wr (wr t1 (upd (s.1 513) 4 (nI k))) (mTidy (upd (s.1 513) 4 (nI k)))) (mTidy (upd (s.1 513) 4 (nI k))) := MT_t MT_w MT_w
      refine ⟨_, ?_, Lq_e (o6.2.2.2.trans l2), by rw [o6.2.2.1 0 (by omega)]; exact l4, l5 _ o6⟩
      unfold q289
      simp only [nI_lit, sp_e]
      rw [in_t (by omega) (by omega), bN_rv, if_pos (by decide)]
      unfold q289_21
      have hc : (nI 4).toNatClampNeg = 4 := nI_clp (by omega)
      rw [nI_lit, m188_0, bN_rv, nI_lit, if_pos rfl, l1, bM_ru]
      simp (disch := omega) only [nI_lit, gA_ok, hc, bx_e, sp_e, e8, l3]
      rw [m61, bM_ru, wr_1]
end ACT
