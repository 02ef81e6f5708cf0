/-! THE STORE'S TEXT: lines -/
theorem RS_d {s s' : mS} {z : Nat} {f g : Nat → Int32} (h : RS s z f) (hc : ∀ b, z ≤ b → b < z + 12 → s'.1 b = s.1 b) (h1 : ∀ j, 74 ≤ j → j < 242 → g j = f j) (h2 : ∀ j, j < 8 → sU f j = true → sOn g j = sOn f j) : RS s' z g := by
  obtain ⟨a0, a1, a2, a3, a4, a5, a6, a7, a8, a9, a10, a11, a12, a13, a14⟩ := h
  have hU : ∀ j, j < 8 → sU g j = sU f j := fun j hj => sU_c (h1 _ (by omega) (by omega))
  refine ⟨fun j => ?_, fun j => ?_, fun j => ?_, fun j => ?_, fun i hi hu => ?_, fun i hi hu => ?_, fun i hi hu => ?_, fun i hi hu => ?_, fun i hi hu => ?_, fun i hi hu => ?_, fun i hi hu => ?_, fun i hi hu => ?_, fun i hi => ?_, fun i hi => ?_, fun i hi hu k hk => ?_⟩
  · rw [hc z (by omega) (by omega), a0 j]
    by_cases hj : j < 8
    · rw [sR_c (h1 _ (by omega) (by omega))]
    · simp only [hj, and_true, and_false, true_and, false_and, decide_true, decide_false, ↓reduceIte, not_true_eq_false, not_false_eq_true, Bool.false_eq_true, Bool.true_eq_false, Bool.and_true, Bool.and_false, Bool.true_and, Bool.false_and, Bool.or_true, Bool.or_false, Bool.true_or, Bool.false_or, Bool.not_true, Bool.not_false]
  · rw [hc z (by omega) (by omega), a1 j]
    by_cases hj : j < 8
    · rw [sF_c (h1 _ (by omega) (by omega))]
    · simp only [hj, and_true, and_false, true_and, false_and, decide_true, decide_false, ↓reduceIte, not_true_eq_false, not_false_eq_true, Bool.false_eq_true, Bool.true_eq_false, Bool.and_true, Bool.and_false, Bool.true_and, Bool.false_and, Bool.or_true, Bool.or_false, Bool.true_or, Bool.false_or, Bool.not_true, Bool.not_false]
  · rw [hc z (by omega) (by omega), a2 j]
    by_cases hj : j < 8
    · rw [hU j hj]
      cases eu : sU f j with
      | false => rfl
      | true => rw [h2 j hj eu]
    · simp only [hj, and_true, and_false, true_and, false_and, decide_true, decide_false, ↓reduceIte, not_true_eq_false, not_false_eq_true, Bool.false_eq_true, Bool.true_eq_false, Bool.and_true, Bool.and_false, Bool.true_and, Bool.false_and, Bool.or_true, Bool.or_false, Bool.true_or, Bool.false_or, Bool.not_true, Bool.not_false]
  · rw [hc z (by omega) (by omega), a3 j]
    by_cases hj : j < 8
    · rw [h1 _ (by omega) (by omega)]
    · simp only [hj, and_true, and_false, true_and, false_and, decide_true, decide_false, ↓reduceIte, not_true_eq_false, not_false_eq_true, Bool.false_eq_true, Bool.true_eq_false, Bool.and_true, Bool.and_false, Bool.true_and, Bool.false_and, Bool.or_true, Bool.or_false, Bool.true_or, Bool.false_or, Bool.not_true, Bool.not_false]
  · rw [hc (z + 1) (by omega) (by omega), h1 _ (by omega) (by omega)]; rw [hU i hi] at hu; exact a4 i hi hu
  · rw [hc (z + 2) (by omega) (by omega), h1 _ (by omega) (by omega)]; rw [hU i hi] at hu; exact a5 i hi hu
  · rw [hc (z + 3) (by omega) (by omega), h1 _ (by omega) (by omega)]; rw [hU i hi] at hu; exact a6 i hi hu
  · rw [hc (z + 4) (by omega) (by omega), h1 _ (by omega) (by omega)]; rw [hU i hi] at hu; exact a7 i hi hu
  · rw [hc (z + 5) (by omega) (by omega), h1 _ (by omega) (by omega)]; rw [hU i hi] at hu; exact a8 i hi hu
  · rw [hc (z + 6) (by omega) (by omega), h1 _ (by omega) (by omega)]; rw [hU i hi] at hu; exact a9 i hi hu
  · rw [hc (z + 7) (by omega) (by omega), h1 _ (by omega) (by omega)]; rw [hU i hi] at hu; exact a10 i hi hu
  · rw [hc (z + 8) (by omega) (by omega), h1 _ (by omega) (by omega)]; rw [hU i hi] at hu; exact a11 i hi hu
  · rw [hc (z + 9) (by omega) (by omega), h1 _ (by omega) (by omega)]; exact a12 i hi
  · rw [hc (z + 10) (by omega) (by omega), sIn_c (fun o ho => h1 _ (by omega) (by omega))]; exact a13 i hi
  · rw [hc (z + 11) (by omega) (by omega), h1 _ (by omega) (by omega)]; rw [hU i hi] at hu; exact a14 i hi hu k hk

def adC (f : Nat → Int32) (n : Nat) (rd wr o : Int32) : Nat → Int32 := upd (upd (upd (upd (upd (upd f (49 + 5 * n) rd) (49 + 5 * n + 1) wr) (49 + 5 * n + 2) o) (49 + 5 * n + 3) (nI 0)) (49 + 5 * n + 4) (nI 0)) 0 (nI (n + 1))
theorem adC_n {f : Nat → Int32} {n j : Nat} {rd wr o : Int32} (h0 : j ≠ 0) (h : j < 49 + 5 * n ∨ 49 + 5 * n + 5 ≤ j) : adC f n rd wr o j = f j := by
  unfold adC
  rw [ud_n h0, ud_n (by omega), ud_n (by omega), ud_n (by omega), ud_n (by omega), ud_n (by omega)]
theorem adC_0 {f : Nat → Int32} {n : Nat} {rd wr o : Int32} : adC f n rd wr o 0 = nI (n + 1) := ud_e rfl
theorem adC_r {f : Nat → Int32} {n : Nat} {rd wr o : Int32} : adC f n rd wr o (49 + 5 * n) = rd := by
  unfold adC
  rw [ud_n (by omega), ud_n (by omega), ud_n (by omega), ud_n (by omega), ud_n (by omega), ud_e rfl]
theorem adC_w {f : Nat → Int32} {n : Nat} {rd wr o : Int32} : adC f n rd wr o (49 + 5 * n + 1) = wr := by
  unfold adC
  rw [ud_n (by omega), ud_n (by omega), ud_n (by omega), ud_n (by omega), ud_e rfl]
theorem adC_o {f : Nat → Int32} {n : Nat} {rd wr o : Int32} : adC f n rd wr o (49 + 5 * n + 2) = o := by
  unfold adC
  rw [ud_n (by omega), ud_n (by omega), ud_n (by omega), ud_e rfl]
theorem adC_3 {f : Nat → Int32} {n : Nat} {rd wr o : Int32} : adC f n rd wr o (49 + 5 * n + 3) = nI 0 := by
  unfold adC
  rw [ud_n (by omega), ud_n (by omega), ud_e rfl]
theorem adC_4 {f : Nat → Int32} {n : Nat} {rd wr o : Int32} : adC f n rd wr o (49 + 5 * n + 4) = nI 0 := by
  unfold adC
  rw [ud_n (by omega), ud_e rfl]
section ST2
variable (b : Nat → Nat) (L : Nat)
abbrev SR : Type := Nat ⊕ (Nat × (Nat → Int32))
def clT (n p : Nat) (f : Nat → Int32) : SR := match keysW b L 1 p with
  | .inl q => .inl q
  | .inr (p1, rd) => match keysW b L 2 p1 with
    | .inl q => .inl q
    | .inr (p2, wr) => if wd b L 3 p2 = true then (if wr = nI 0 then .inr (sk b L (p2 + tln 3), adC f n rd wr (nI 1)) else .inl p2) else .inr (p2, adC f n rd wr (nI 0))
def verT (p : Nat) (f : Nat → Int32) : SR := match nm b L 9 p with
  | none => .inl p
  | some k => if sWri f k = none then (match nm b L 999 (sk b L (dg b L p)) with
    | none => .inl (sk b L (dg b L p))
    | some v => .inr (sk b L (dg b L (sk b L (dg b L p))), upd f (9 + 4 * k) (mnI (nI 9999) (f (9 + 4 * k) + nI v)))) else .inl p
def numT (hi at_ p : Nat) (f : Nat → Int32) : SR := match nm b L hi p with
  | none => .inl p
  | some v => .inr (sk b L (dg b L p), upd f at_ (nI v))
def stL (p : Nat) (f : Nat → Int32) : SR := if wd b L 0 p = true then (if f 0 = nI 5 then .inl p else clT b L (cN f) (sk b L (p + tln 0)) f) else if wd b L 4 p = true then verT b L (sk b L (p + tln 4)) f else if wd b L 5 p = true then numT b L 6 4 (sk b L (p + tln 5)) f else if wd b L 6 p = true then numT b L 999 5 (sk b L (p + tln 6)) f else .inl p
def storeR : Nat → Nat → (Nat → Int32) → Nat ⊕ (Nat → Int32)
  | 0, p, _ => .inl p
  | m + 1, p, f => match stL b L p f with
    | .inl q => .inl q
    | .inr (p', f') => if p' = L then .inr f' else if isB b L 59 59 p' = true then storeR m (sk b L (p' + 1)) f' else .inl p'
def storeS (f : Nat → Int32) : Nat ⊕ (Nat → Int32) := if sk b L 0 = L then .inr f else storeR b L 14 (sk b L 0) f
end ST2
/-- what holds of a store, while it is read -/
def IB (T B : Nat) (f : Nat → Int32) : Prop := IA T f ∧ IUH B f
theorem IM_sto {T : Nat} {f g : Nat → Int32} (h : IM T f) (hg : ∀ j, (j < 770 ∧ j ≠ 4 ∧ j ≠ 5 ∧ ¬ (9 ≤ j ∧ j < 49)) ∨ (770 ≤ j ∧ j < 1619) → g j = f j) (h4 : ∃ k, k ≤ 6 ∧ g 4 = nI k) : IM T g := by
  obtain ⟨h1, ⟨n, hn, a0, a1, a2, a3, a4⟩, h3, ⟨t0, t3, t⟩, -⟩ := h
  refine ⟨IS_c h1 (fun j x y => hg _ (by omega)), ⟨n, hn, ?_, fun c hc => ?_, fun c w' hc hc5 hw' => ?_, fun c j hc hj => ?_, fun j hj hv => ?_⟩, WLw_c (hg _ (by omega)) (fun j a b => hg _ (by omega)) h3, ⟨t0, by rw [hg _ (by omega)]; exact t3, fun l hl => ?_⟩, h4⟩
  · rw [hg _ (by omega)]; exact a0
  · rw [hg _ (by omega)]; exact a1 c hc
  · rw [hg _ (by omega)]; exact a2 c w' hc hc5 hw'
  · rw [hg _ (by omega), hg _ (by omega)]; exact a3 c j hc hj
  · rw [wh_c (hg _ (by omega))]; exact a4 j hj (by rw [← sU_c (f := f) (hg _ (by omega))]; exact hv)
  · rw [hg _ (by omega), hg _ (by omega), hg _ (by omega)]; exact t l hl
theorem IB_num {T B : Nat} {f : Nat → Int32} {at_ v : Nat} (h : IB T B f) (ha : (at_ = 4 ∧ v ≤ 6) ∨ at_ = 5) : IB T B (upd f at_ (nI v)) := by
  obtain ⟨hA, hU, hH⟩ := h
  have hg : ∀ j, j ≠ 4 → j ≠ 5 → upd f at_ (nI v) j = f j := fun j x y => ud_n (by omega)
  refine ⟨IA_g hA (IM_sto hA.1 (fun j hj => hg j (by omega) (by omega)) ?_) (fun j hj => hg j (by omega) (by omega)), IU_c hU (fun j x y => hg j (by omega) (by omega)), IH_c hH (fun j hj => Or.inl (by unfold HX at hj; exact hg j (by omega) (by omega)))⟩
  rcases ha with ⟨e, q⟩ | e
  · subst e; exact ⟨v, q, ud_e rfl⟩
  · subst e
    obtain ⟨k, hk, h4⟩ := hA.1.2.2.2.2
    exact ⟨k, hk, by rw [ud_n (by omega)]; exact h4⟩
theorem mn_v {a v : Nat} (ha : a ≤ 9999) (hv : v ≤ 999) : ∃ k, k ≤ 9999 ∧ mnI (nI 9999) (nI a + nI v) = nI k := by
  unfold mnI
  rw [nI_add]
  split
  · rename_i q
    rw [nI_ltv (by omega) (by omega)] at q
    exact ⟨a + v, by omega, rfl⟩
  · exact ⟨9999, Nat.le_refl _, rfl⟩
theorem IB_ver {T B : Nat} {f : Nat → Int32} {k v : Nat} (h : IB T B f) (hk : k < 10) (hv : v ≤ 999) : IB T B (upd f (9 + 4 * k) (mnI (nI 9999) (f (9 + 4 * k) + nI v))) := by
  obtain ⟨⟨hM, hV, hn1, hn2⟩, hU, hH⟩ := h
  obtain ⟨a, ha, ea⟩ := hV k hk
  obtain ⟨m, hm, em⟩ := mn_v ha hv
  rw [ea, em]
  have hg : ∀ j, j ≠ 9 + 4 * k → upd f (9 + 4 * k) (nI m) j = f j := fun j x => ud_n x
  have h7 : hN (upd f (9 + 4 * k) (nI m)) = hN f := by unfold hN; rw [hg 7 (by omega)]
  refine ⟨⟨IM_sto hM (fun j hj => hg j (by omega)) ?_, fun k' hk' => ?_, by rw [h7]; exact hn1, by rw [h7, hg 7 (by omega)]; exact hn2⟩, IU_c hU (fun j x y => hg j (by omega)), IH_c hH (fun j hj => Or.inl (by unfold HX at hj; exact hg j (by omega)))⟩
  · obtain ⟨k6, hk6, h4⟩ := hM.2.2.2.2
    exact ⟨k6, hk6, by rw [hg 4 (by omega)]; exact h4⟩
  · by_cases e : k' = k
    · subst e; exact ⟨m, hm, ud_e rfl⟩
    · rw [hg _ (by omega)]; exact hV k' hk'
theorem IB_add {T B n : Nat} {f : Nat → Int32} {rd wr : Int32} {o : Nat} (h : IB T B f) (h0 : f 0 = nI n) (hn : n < 5) (hr : ∀ j, 10 ≤ j → bt rd j = false) (hw : ∀ j, 10 ≤ j → bt wr j = false) (ho : o ≤ 1) : IB T B (adC f n rd wr (nI o)) := by
  obtain ⟨⟨hM, hV, hn1, hn2⟩, hU, hH⟩ := h
  have hg : ∀ j, j ≠ 0 → (j < 49 + 5 * n ∨ 49 + 5 * n + 5 ≤ j) → adC f n rd wr (nI o) j = f j := fun j x y => adC_n x y
  have h7 : hN (adC f n rd wr (nI o)) = hN f := by unfold hN; rw [hg 7 (by omega) (by omega)]
  obtain ⟨h1, ⟨n', hn', a0, a1, a2, a3, a4⟩, h3, ⟨t0, t3, t⟩, k6, hk6, h4⟩ := hM
  have en : n' = n := by
    rw [h0] at a0
    exact ((nI_eqv (by omega) (by omega)).mp a0).symm
  subst en
  refine ⟨⟨⟨IS_c h1 (fun j x y => hg _ (by omega) (by omega)), ⟨n' + 1, by omega, adC_0, fun c hc => ?_, fun c w' hc hc5 hw' => ?_, fun c j hc hj => ?_, fun j hj hv => ?_⟩, WLw_c (hg _ (by omega) (by omega)) (fun j a b => hg _ (by omega) (by omega)) h3, ⟨t0, by rw [hg _ (by omega) (by omega)]; exact t3, fun l hl => ?_⟩, k6, hk6, by rw [hg _ (by omega) (by omega)]; exact h4⟩, fun k' hk' => by rw [hg _ (by omega) (by omega)]; exact hV k' hk', by rw [h7]; exact hn1, by rw [h7, hg 7 (by omega) (by omega)]; exact hn2⟩, fun c hc => ?_, IH_c hH (fun j hj => Or.inl (by unfold HX at hj; exact hg j (by omega) (by omega)))⟩
  · by_cases e : c = n'
    · subst e; rw [adC_o]
      have : o = 0 ∨ o = 1 := by omega
      rcases this with q | q <;> subst q
      · exact Or.inl rfl
      · exact Or.inr rfl
    · rw [hg _ (by omega) (by omega)]; exact a1 c hc
  · rw [hg _ (by omega) (by omega)]; exact a2 c w' (by omega) hc5 hw'
  · by_cases e : c = n'
    · subst e; rw [adC_r, adC_w]; exact ⟨hr j hj, hw j hj⟩
    · rw [hg _ (by omega) (by omega), hg _ (by omega) (by omega)]; exact a3 c j hc hj
  · rw [wh_c (hg _ (by omega) (by omega))]
    have := a4 j hj (by rw [← sU_c (f := f) (hg _ (by omega) (by omega))]; exact hv)
    omega
  · rw [hg _ (by omega) (by omega), hg _ (by omega) (by omega), hg _ (by omega) (by omega)]; exact t l hl
  · by_cases e : c = n'
    · subst e; rw [adC_3, adC_4]; exact ⟨⟨0, by omega, rfl⟩, 0, by omega, rfl⟩
    · rw [hg _ (by omega) (by omega), hg _ (by omega) (by omega)]; exact hU c hc
