/-! THE LAW'S TEXT: the class's conditions -/
section CL
variable {b : Nat → Nat} {L : Nat} {K : mS → Option mQ}
/-- all that is joined by and was read; the last and may wait -/
def AL (b : Nat → Nat) (L : Nat) (K : mS → Option mQ) (s0 : mS) (c d : Nat) (Q : List Nat) (q : Option mQ) (r : LR) : Prop := match r with
  | .inl f => ∃ s', q = rv (nI 0) s' ∧ FE s0 s' ∧ s'.1 1 2 = nI f
  | .inr (p', l) => ∃ s' i' N' M l', q = q30_14 K N' (nI 0) (nI i') s' ∧ i' ≤ p' ∧ L < N' + p' ∧ (M = [] ∨ M = [2001]) ∧ l = l' ++ List.map dq M ∧ ST b L s0 s' c l' p' d (M ++ Q) ∧ c + l'.length + (M ++ Q).length < p' ∧ wd b L 20 p' = false
theorem AL_loop {k : Nat} (hA : AC b L K k) {s0 : mS} {c d : Nat} {Q : List Nat} (hd : d + k = 6) (hQ : ∀ x r, Q = x :: r → x ≠ 2000 ∧ x ≠ 2001) (hQl : Q.length ≤ 3 * d + 1) (hL : L ≤ 400) : ∀ m p s i N M l', (M = [] ∨ M = [2001]) → ST b L s0 s c l' p d (M ++ Q) → c + l'.length + (M ++ Q).length < p → p ≤ L → sk b L p = p → i ≤ p → L < N + p → L ≤ p + m → AL b L K s0 c d Q (q30_14 K N (nI 0) (nI i) s) (allR b L (atomS b L k) m p (l' ++ List.map dq M)) := by
  intro m
  induction m with
  | zero =>
    intro p s i N M l' hM hS hc hpL hs hi hN hm
    rw [allR]
    refine ⟨s, i, N, M, l', rfl, hi, hN, hM, rfl, hS, hc, ?_⟩
    cases e : wd b L 20 p with
    | false => rfl
    | true => have := wd_p hpL e; rw [tl_20] at this; omega
  | succ m ih =>
    intro p s i N M l' hM hS hc hpL hs hi hN hm
    rw [allR]
    cases e : wd b L 20 p with
    | false =>
      rw [if_neg (show ¬ (false = true) by decide)]
      exact ⟨s, i, N, M, l', rfl, hi, hN, hM, rfl, hS, hc, e⟩
    | true =>
      have hq := wd_p hpL e
      rw [tl_20] at hq
      rw [if_pos rfl, tl_20]
      obtain ⟨N, rfl⟩ : ∃ N', N = N' + 1 := ⟨N - 1, by omega⟩
      obtain ⟨s1, s2, -, s4⟩ := sk_p (b := b) (show p + 3 ≤ L by omega)
      have hMl : M.length ≤ 1 := by rcases hM with e | e <;> subst e <;> decide
      rw [List.length_append] at hc
      have hlm : (l' ++ List.map dq M).length = l'.length + M.length := by rw [List.length_append, List.length_map]
      obtain ⟨-, -, -, H⟩ := jn (q := sk b L (p + 3)) hS (Or.inl rfl) (fun x hx => by rcases hM with e | e <;> subst e <;> simp at hx; subst hx; omega) (fun x r hx => by have := hQ x r hx; omega) (by omega)
      obtain ⟨s'', a1, a2⟩ := H (by omega) 2001 (by omega)
      have hk := hA s'' (sk b L (p + 3)) (c + (l' ++ List.map dq M).length) d (2001 :: Q) 0 (i + 1) N a2.2.1 (fun x r hx => by injection hx with hx _; omega) hd (by omega) (by show (2001 :: Q).length ≤ _; rw [List.length_cons]; omega) (by show _ + (2001 :: Q).length < _; rw [List.length_cons, hlm]; omega) s2 s4 (by omega) (by omega)
      have kk := atom_k (b := b) (L := L) k _ s2 s4
      have ej : q30_14 K (N + 1) (nI 0) (nI i) s = q30_14 K N (nI 1) (nI (i + 1)) s'' := by
        rw [it_and hS.2.1 hpL (by omega) e]
        have a1' : q34 (nI 2001) (nI 2001) (cAt s (sk b L (p + 3))) = ru s'' := a1
        rw [a1', bM_ru]
      rw [ej]
      cases e2 : atomS b L k (sk b L (p + 3)) with
      | inl f =>
        rw [e2] at hk
        obtain ⟨s3, f1, f2, f3⟩ := hk
        exact ⟨s3, f1, FE_t a2.1 f2, f3⟩
      | inr x =>
        rw [e2] at hk kk
        obtain ⟨s3, i3, N3, f1, f2, f3, f4⟩ := hk
        obtain ⟨o1, o2, o3, o4, o5⟩ := kk
        rw [show List.replicate 0 ((14, 0) : Nat × Nat) = [] from rfl, List.append_nil, Nat.sub_zero] at f4
        have f5 := ST_t a2 f4
        have i1 := ih x.1 s3 i3 N3 [2001] ((l' ++ List.map dq M) ++ x.2) (Or.inr rfl) f5 (by rw [List.length_append, hlm]; show _ + (2001 :: Q).length < _; rw [List.length_cons]; omega) o2 o3 f2 f3 (by omega)
        rw [f1]
        rw [List.append_assoc, show List.map dq [2001] = [(15, 0)] from rfl] at i1
        exact i1
theorem AL_all {k : Nat} (hA : AC b L K k) {s : mS} {p c d i N : Nat} {Q : List Nat} (h : CS b L s p c d Q) (hd : d + k = 6) (hQ : ∀ x r, Q = x :: r → x ≠ 2000 ∧ x ≠ 2001) (hQl : Q.length ≤ 3 * d + 1) (hc : c + Q.length < p) (hpL : p ≤ L) (hs : sk b L p = p) (hi : i ≤ p) (hN : L < N + p) : AL b L K s c d Q (q30_14 K N (nI 1) (nI i) s) (allF b L (atomS b L k) p) := by
  have hL := h.1.1
  have hk := hA s p c d Q 0 i N h (fun x r hx => (hQ x r hx).1) hd (by omega) (by show Q.length ≤ _; omega) (by show c + Q.length < p; omega) hpL hs hi hN
  have kk := atom_k (b := b) (L := L) k p hpL hs
  unfold allF
  cases e2 : atomS b L k p with
  | inl f =>
    rw [e2] at hk
    exact hk
  | inr x =>
    rw [e2] at hk kk
    obtain ⟨s3, i3, N3, f1, f2, f3, f4⟩ := hk
    obtain ⟨o1, o2, o3, o4, o5⟩ := kk
    rw [show List.replicate 0 ((14, 0) : Nat × Nat) = [] from rfl, List.append_nil, Nat.sub_zero] at f4
    have i1 := AL_loop hA hd hQ hQl hL L x.1 s3 i3 N3 [] x.2 (Or.inl rfl) f4 (by show c + x.2.length + Q.length < _; omega) o2 o3 f2 f3 (by omega)
    rw [show List.map dq [] = [] from rfl, List.append_nil] at i1
    rw [f1]
    exact i1
/-- a condition was read; what joins may wait -/
def CR (b : Nat → Nat) (L : Nat) (K : mS → Option mQ) (s0 : mS) (c d : Nat) (Q : List Nat) (q : Option mQ) (r : LR) : Prop := match r with
  | .inl f => ∃ s', q = rv (nI 0) s' ∧ FE s0 s' ∧ s'.1 1 2 = nI f
  | .inr (p', l) => ∃ s' i' N' M l', q = q30_14 K N' (nI 0) (nI i') s' ∧ i' ≤ p' ∧ L < N' + p' ∧ (∀ x, x ∈ M → x = 2001 ∨ x = 2002) ∧ M.length ≤ 2 ∧ l = l' ++ List.map dq M ∧ ST b L s0 s' c l' p' d (M ++ Q) ∧ c + l'.length + (M ++ Q).length < p' ∧ wd b L 20 p' = false ∧ wd b L 21 p' = false
theorem CR_loop {k : Nat} (hA : AC b L K k) {s0 : mS} {c d : Nat} {Q : List Nat} (hd : d + k = 6) (hQ : ∀ x r, Q = x :: r → x = 3000) (hQl : Q.length ≤ 3 * d) (hL : L ≤ 400) : ∀ m p s i N M l', (∀ x, x ∈ M → x = 2001 ∨ x = 2002) → M.length ≤ 2 → ST b L s0 s c l' p d (M ++ Q) → c + l'.length + (M ++ Q).length < p → p ≤ L → sk b L p = p → i ≤ p → L < N + p → L ≤ p + m → wd b L 20 p = false → CR b L K s0 c d Q (q30_14 K N (nI 0) (nI i) s) (condR b L (atomS b L k) m p (l' ++ List.map dq M)) := by
  intro m
  induction m with
  | zero =>
    intro p s i N M l' hM hMl hS hc hpL hs hi hN hm h20
    rw [condR]
    refine ⟨s, i, N, M, l', rfl, hi, hN, hM, hMl, rfl, hS, hc, h20, ?_⟩
    cases e : wd b L 21 p with
    | false => rfl
    | true => have := wd_p hpL e; rw [tl_21] at this; omega
  | succ m ih =>
    intro p s i N M l' hM hMl hS hc hpL hs hi hN hm h20
    rw [condR]
    cases e : wd b L 21 p with
    | false =>
      rw [if_neg (show ¬ (false = true) by decide)]
      exact ⟨s, i, N, M, l', rfl, hi, hN, hM, hMl, rfl, hS, hc, h20, e⟩
    | true =>
      have hq := wd_p hpL e
      rw [tl_21] at hq
      rw [if_pos rfl, tl_21]
      obtain ⟨N, rfl⟩ : ∃ N', N = N' + 1 := ⟨N - 1, by omega⟩
      obtain ⟨s1, s2, -, s4⟩ := sk_p (b := b) (show p + 2 ≤ L by omega)
      rw [List.length_append] at hc
      have hlm : (l' ++ List.map dq M).length = l'.length + M.length := by rw [List.length_append, List.length_map]
      obtain ⟨-, -, -, H⟩ := jn (q := sk b L (p + 2)) hS (Or.inr rfl) (fun x hx => ⟨hM x hx, by have := hM x hx; omega⟩) (fun x r hx => by have := hQ x r hx; omega) (by omega)
      obtain ⟨s'', a1, a2⟩ := H (by omega) 2002 (by omega)
      have hk := AL_all hA (i := i + 1) (N := N) a2.2.1 hd (fun x r hx => by injection hx with hx _; omega) (by rw [List.length_cons]; omega) (by rw [List.length_cons, hlm]; omega) s2 s4 (by omega) (by omega)
      have kk := all_k (b := b) (L := L) (fun p x y => atom_k k p x y) s2 s4
      have ej : q30_14 K (N + 1) (nI 0) (nI i) s = q30_14 K N (nI 1) (nI (i + 1)) s'' := by
        rw [it_or hS.2.1 hpL (by omega) h20 e]
        have a1' : q34 (nI 2002) (nI 2002) (cAt s (sk b L (p + 2))) = ru s'' := a1
        rw [a1', bM_ru]
      rw [ej]
      cases e2 : allF b L (atomS b L k) (sk b L (p + 2)) with
      | inl f =>
        rw [e2] at hk
        obtain ⟨s3, f1, f2, f3⟩ := hk
        exact ⟨s3, f1, FE_t a2.1 f2, f3⟩
      | inr x =>
        rw [e2] at hk kk
        obtain ⟨s3, i3, N3, M', la', f1, f2, f3, f4, f5, f6, f7, f8⟩ := hk
        obtain ⟨o1, o2, o3, o4, o5⟩ := kk
        have f9 := ST_t a2 f6
        rw [show M' ++ 2002 :: Q = (M' ++ [2002]) ++ Q by rw [List.append_assoc]; rfl] at f9 f7
        have hM' : ∀ x, x ∈ M' ++ [2002] → x = 2001 ∨ x = 2002 := fun x hx => by
          rcases List.mem_append.mp hx with q | q
          · rcases f4 with r | r <;> subst r <;> simp at q; exact Or.inl q
          · simp at q; exact Or.inr q
        have hMl' : (M' ++ [2002]).length ≤ 2 := by
          rw [List.length_append]
          rcases f4 with r | r <;> subst r <;> simp
        have i1 := ih x.1 s3 i3 N3 (M' ++ [2002]) ((l' ++ List.map dq M) ++ la') hM' hMl' f9 (by rw [List.length_append]; omega) o2 o3 f2 f3 (by omega) f8
        rw [f1]
        have el : (l' ++ List.map dq M) ++ la' ++ List.map dq (M' ++ [2002]) = l' ++ List.map dq M ++ (x.2 ++ [(16, 0)]) := by
          rw [f5, List.map_append, show List.map dq [2002] = [(16, 0)] from rfl]
          simp only [List.append_assoc]
        rw [el] at i1
        exact i1
theorem CR_cond {k : Nat} (hA : AC b L K k) {s : mS} {p c d i N : Nat} {Q : List Nat} (h : CS b L s p c d Q) (hd : d + k = 6) (hQ : ∀ x r, Q = x :: r → x = 3000) (hQl : Q.length ≤ 3 * d) (hc : c + Q.length < p) (hpL : p ≤ L) (hs : sk b L p = p) (hi : i ≤ p) (hN : L < N + p) : CR b L K s c d Q (q30_14 K N (nI 1) (nI i) s) (condF b L (atomS b L k) p) := by
  have hL := h.1.1
  have hk := AL_all hA (i := i) (N := N) h hd (fun x r hx => by have := hQ x r hx; omega) (by omega) hc hpL hs hi hN
  have kk := all_k (b := b) (L := L) (fun p x y => atom_k k p x y) hpL hs
  unfold condF
  cases e2 : allF b L (atomS b L k) p with
  | inl f =>
    rw [e2] at hk
    exact hk
  | inr x =>
    rw [e2] at hk kk
    obtain ⟨s3, i3, N3, M', la', f1, f2, f3, f4, f5, f6, f7, f8⟩ := hk
    obtain ⟨o1, o2, o3, o4, o5⟩ := kk
    have i1 := CR_loop hA hd hQ hQl hL L x.1 s3 i3 N3 M' la' (fun x hx => by rcases f4 with r | r <;> subst r <;> simp at hx; exact Or.inl hx) (by rcases f4 with r | r <;> subst r <;> simp) f6 f7 o2 o3 f2 f3 (by omega) f8
    rw [← f5] at i1
    rw [f1]
    exact i1
theorem w13_no {p : Nat} (hpL : p ≤ L) (h : wd b L 13 p = true) : leafS b L p = .inl p := by
  have h1 := wd_p hpL h
  have h3 : lw b L p = p + 3 := by rw [h1.2, tl_13]
  have hb : b p = 110 := by
    unfold wd at h
    rw [Bool.and_eq_true] at h
    have := al_iff.mp h.2 0 (by omega) (by rw [tl_13]; omega)
    have := of_decide_eq_true this
    rw [Nat.add_zero, show tc 13 0 = 110 by decide] at this
    exact this
  have ne : ∀ tx, tln tx ≠ 3 → wd b L tx p = false := fun tx ht => by
    cases e : wd b L tx p with
    | false => rfl
    | true => have := wd_l e; omega
  have n17 : wd b L 17 p = false := by
    cases e : wd b L 17 p with
    | false => rfl
    | true =>
      unfold wd at e
      rw [Bool.and_eq_true] at e
      have := al_iff.mp e.2 0 (by omega) (by rw [show tln 17 = 3 by decide]; omega)
      have := of_decide_eq_true this
      rw [Nat.add_zero, show tc 17 0 = 97 by decide] at this
      omega
  have ht : tagS b L p = none := by
    unfold tagS
    rw [ne 3 (by decide), ne 14 (by decide), ne 15 (by decide)]; rfl
  have hf : factS b L p = none := by
    unfold factS
    rw [ne 16 (by decide), ne 0 (by decide), n17, ne 1 (by decide), ne 2 (by decide), ne 18 (by decide), ne 19 (by decide)]; rfl
  have hp : partS b L p = .inl p := by
    unfold partS
    rw [if_neg (by omega), hf]
  unfold leafS
  rw [ht]
  show cmpS b L p = _
  unfold cmpS sumS
  rw [hp]
theorem w40_no {p : Nat} (hpL : p ≤ L) (h : isB b L 40 40 p = true) : leafS b L p = .inl p := by
  have hl := lw_40 hpL (by omega) h
  have hq := isB_t h
  have hd : dg b L p = p := by
    refine rB_u (Nat.le_refl _) hpL (fun i a c => by omega) ?_
    cases e : isB b L 48 57 p with
    | false => rfl
    | true => have := isB_t e; omega
  have ht : tagS b L p = none := by
    unfold tagS
    rw [wd_x hl (by omega) (by omega) (by omega), wd_x hl (by omega) (by omega) (by omega), wd_x hl (by omega) (by omega) (by omega)]; rfl
  have hp : partS b L p = .inl p := by
    unfold partS nm
    rw [if_pos hl, if_pos (Or.inl hd)]
  unfold leafS
  rw [ht]
  show cmpS b L p = _
  unfold cmpS sumS
  rw [hp]
/-- the condition ends, or a bracket wants its end -/
def KE (K : mS → Option mQ) : Prop := ∀ (b : Nat → Nat) (L : Nat) (s0 s : mS) c l p d M Q, ST b L s0 s c l p d (M ++ Q) → (∀ x, x ∈ M → x = 2001 ∨ x = 2002) → (∀ x r, Q = x :: r → x = 3000) → c + l.length + M.length ≤ 400 → d < 100 → ∃ s', K s = rv (b2 (decide (d = 0))) s' ∧ ST b L s0 s' c (l ++ List.map dq M) p d Q
theorem AC_all (hK : KE K) : ∀ k, AC b L K k := by
  intro k
  induction k with
  | zero =>
    intro s p c d P j i N h hP hdk hj hl hc hpL hs hi hN
    have := AC_leaf (K := K) h hP (by omega) hj hc hpL hs hi hN (Or.inl (by omega))
    rw [atomS]
    cases e40 : isB b L 40 40 p with
    | true => rw [if_pos rfl]; rw [w40_no hpL e40] at this; exact this
    | false =>
      rw [if_neg (show ¬ (false = true) by decide)]
      cases e13 : wd b L 13 p with
      | true => rw [if_pos rfl]; rw [w13_no hpL e13] at this; exact this
      | false => rw [if_neg (show ¬ (false = true) by decide)]; exact this
  | succ k ih =>
    intro s p c d P j i N h hP hdk hj hl hc hpL hs hi hN
    have hL := h.1.1
    rw [atomS]
    cases e40 : isB b L 40 40 p with
    | true =>
      have hq := isB_t e40
      obtain ⟨N, rfl⟩ : ∃ N', N = N' + 1 := ⟨N - 1, by omega⟩
      obtain ⟨s1, s2, -, s4⟩ := sk_p (b := b) (show p + 1 ≤ L by omega)
      rw [if_pos rfl]
      obtain ⟨sa, a1, a2⟩ := it_open (K := K) (N := N) (i := i) h hpL (by omega) (by omega) (by omega) e40
      rw [a1]
      have hk := CR_cond ih (i := i + 1) (N := N) a2.2.1 (by omega) (fun x r hx => by injection hx with hx _; omega) (by rw [List.length_cons]; omega) (by rw [List.length_cons]; show c + 0 + _ < _; omega) s2 s4 (by omega) (by omega)
      have kk := cond_k (b := b) (L := L) (fun p x y => atom_k k p x y) s2 s4
      unfold brkS
      cases e2 : condF b L (atomS b L k) (sk b L (p + 1)) with
      | inl f =>
        rw [e2] at hk
        obtain ⟨s3, f1, f2, f3⟩ := hk
        exact ⟨s3, f1, FE_t a2.1 f2, f3⟩
      | inr x =>
        rw [e2] at hk kk
        obtain ⟨s3, i3, N3, M, l', f1, f2, f3, f4, f5, f6, f7, f8, f9, f10⟩ := hk
        obtain ⟨o1, o2, o3, o4, o5⟩ := kk
        rw [f1]
        obtain ⟨N3, rfl⟩ : ∃ N', N3 = N' + 1 := ⟨N3 - 1, by omega⟩
        have hS := ST_t a2 f7
        rw [List.nil_append] at hS
        rw [List.length_append, List.length_cons, List.length_append, List.length_replicate] at f8
        rw [List.length_append, List.length_replicate] at hl hc
        have f8' : c + 0 + l'.length + (M.length + (j + P.length + 1)) < x.1 := f8
        dsimp only
        cases e41 : isB b L 41 41 x.1 with
        | true =>
          have hq2 := isB_t e41
          rw [if_pos rfl]
          obtain ⟨sj, j1, j2, -⟩ := jn (q := sk b L (x.1 + 1)) hS (Or.inr rfl) (fun x hx => ⟨f4 x hx, by have := f4 x hx; omega⟩) (fun x r hx => by injection hx with hx _; omega) (by omega)
          rw [← f6] at j2
          obtain ⟨r1, r2, -, r4⟩ := sk_p (b := b) (show x.1 + 1 ≤ L by omega)
          rw [it_close hS.2.1 o2 (by omega) f9 f10 (by omega) (by omega) e41]
          have j1' : q34 (nI 2002) (-nI 1) (cAt s3 (sk b L (x.1 + 1))) = ru sj := j1
          have hN := j2.2.1.2.2.2.2
          have h4 := j2.2.1.2.2.2.1
          have k33 := p33_c (lo := 3000) (hi := 3000) hN (by omega) (by omega)
          rw [decide_eq_true (Nat.le_refl _), Bool.true_and, b2_t] at k33
          have hlen := hN.1
          have hlen2 := hN.2.2.2
          rw [List.length_cons] at hlen hlen2
          generalize hR : List.replicate j 2000 ++ P = R at *
          have es : nI (R.length + 1) - nI 1 = nI R.length := by rw [nI_subv (by omega), Nat.add_sub_cancel]
          have ed : nI (d + 1) - nI 1 = nI d := by rw [nI_subv (by omega), Nat.add_sub_cancel]
          have e4 : (sI sj 17 3 (nI R.length)).1 17 4 = nI (d + 1) := by rw [sI_sm, ud_n (by omega)]; exact h4
          have hxl : x.2.length = l'.length + M.length := by rw [f6, List.length_append, List.length_map]
          have hNz : PN (sI (sI sj 17 3 (nI R.length)) 17 4 (nI d)) (List.replicate j 2000 ++ P) := by rw [hR]; exact d4_N (po_N hN)
          obtain ⟨sz, z1, z2, z3⟩ := p35_0 j P (c + x.2.length) d (sI (sI sj 17 3 (nI R.length)) 17 4 (nI d)) 10000 hP hNz (by rw [sI_fn (by omega), sI_fn (by omega)]; exact j2.2.1.2.2.1) (by rw [sI_sm, ud_e rfl]) hj (by omega) (by omega) (by omega)
          have z1' : q35 (sI (sI sj 17 3 (nI R.length)) 17 4 (nI d)) = ru sz := z1
          have hFE : FE sj (sI (sI sj 17 3 (nI R.length)) 17 4 (nI d)) := FE_t (FE_po (n := R.length)) FE_d4
          have k36 : q36 sj = ru sz := by
            unfold q36 q36_33
            simp (disch := omega) only [k33, hlen, nI_lit, es, e4, ed, z1', nI_lit, nI_add, pk_mul, nI_clp, nI_eqv, nI_lev, nI_ltv, nI_neg, nI_neg', nI_subv, Nat.add_zero, Nat.zero_add, Nat.mul_zero, Nat.reduceAdd, bN_rv, bM_ru, bV_rv, bV_rx, bU_ru, bU_rx, bN_ite, bM_ite, bV_ite, bU_ite, ↓bx_e, ↓sp_e, gA_ok, gZ_n, gB_0, gB_1, gB_i, and_true, and_false, true_and, false_and, decide_true, decide_false, ↓reduceIte, not_true_eq_false, not_false_eq_true, Bool.false_eq_true, Bool.true_eq_false, Bool.and_true, Bool.and_false, Bool.true_and, Bool.false_and, Bool.or_true, Bool.or_false, Bool.true_or, Bool.false_or, Bool.not_true, Bool.not_false, le_f, le_t, lt_f, lt_t, eq_f, ↓reduceIte, not_true_eq_false, not_false_eq_true, ite_10, bt_0, bt_1]
          rw [j1', bM_ru, k36, bM_ru]
          refine ⟨sz, i3 + 1, N3, rfl, by omega, by omega, ?_⟩
          refine ⟨FE_t j2.1 (FE_t hFE z3.1), ⟨CP_E j2.2.1.1 (FE_t hFE z3.1), by rw [z3.2.1, sI_fn (by omega), sI_fn (by omega)]; exact j2.2.1.2.1, by rw [z3.2.2.1, List.length_append, Nat.add_assoc], z3.2.2.2.2.2, z2⟩, DC_a (DC_c j2.2.2.1 (fun y hy => by rw [z3.2.2.2.2.1 y hy, sI_fn (by omega), sI_fn (by omega)])) z3.2.2.2.1, fun y hy => by rw [z3.2.2.2.2.1 y (by omega), sI_fn (by omega), sI_fn (by omega)]; exact j2.2.2.2 y hy⟩
        | false =>
          rw [if_neg (show ¬ (false = true) by decide)]
          rw [it_end hS.2.1 o2 (by omega) f9 f10 (by omega) (Or.inr e41)]
          obtain ⟨sk', q1, q2⟩ := hK b L s s3 c l' x.1 (d + 1) M _ hS f4 (fun x r hx => by injection hx with hx _; omega) (by omega) (by omega)
          rw [decide_eq_false (by omega), b2_f] at q1
          exact ⟨sk', q1, q2.1, q2.2.1.2.1⟩
    | false =>
      rw [if_neg (show ¬ (false = true) by decide)]
      cases e13 : wd b L 13 p with
      | true =>
        have hq := wd_p hpL e13
        rw [tl_13] at hq
        obtain ⟨N, rfl⟩ : ∃ N', N = N' + 1 := ⟨N - 1, by omega⟩
        obtain ⟨s1, s2, -, s4⟩ := sk_p (b := b) (show p + 3 ≤ L by omega)
        rw [if_pos rfl, tl_13]
        obtain ⟨sa, a1, a2⟩ := it_not (K := K) (N := N) (i := i) h hpL (by omega) (by omega) (by omega) e13
        rw [a1]
        rw [show 2000 :: (List.replicate j 2000 ++ P) = List.replicate (j + 1) 2000 ++ P from rfl] at a2
        rw [List.length_append, List.length_replicate] at hl hc
        have hk := ih sa (sk b L (p + 3)) c (d + 1) P (j + 1) (i + 1) N a2.2.1 hP (by omega) (by omega) (by rw [List.length_append, List.length_replicate]; omega) (by rw [List.length_append, List.length_replicate]; omega) s2 s4 (by omega) (by omega)
        unfold notS
        cases e2 : atomS b L k (sk b L (p + 3)) with
        | inl f =>
          rw [e2] at hk
          obtain ⟨s3, f1, f2, f3⟩ := hk
          exact ⟨s3, f1, FE_t a2.1 f2, f3⟩
        | inr x =>
          rw [e2] at hk
          obtain ⟨s3, i3, N3, f1, f2, f3, f4⟩ := hk
          refine ⟨s3, i3, N3, f1, f2, f3, ?_⟩
          have := ST_t a2 f4
          rw [List.nil_append, show d + 1 - (j + 1) = d - j by omega, List.replicate_succ] at this
          rw [List.append_assoc]
          exact this
      | false =>
        rw [if_neg (show ¬ (false = true) by decide)]
        exact AC_leaf (K := K) h hP (by omega) hj hc hpL hs hi hN (Or.inr ⟨e13, e40⟩)
theorem KE_201 : KE q30_201 := by
  intro b L s0 s c l p d M Q hS hM hQ hc hd
  obtain ⟨s', a1, a2, -⟩ := jn (q := p) hS (Or.inr rfl) (fun x hx => ⟨hM x hx, by have := hM x hx; omega⟩) (fun x r hx => by have := hQ x r hx; omega) hc
  rw [cAt_i hS.2.1.2.1] at a1
  have a1' : q34 (nI 2002) (-nI 1) s = ru s' := a1
  have h4 := a2.2.1.2.2.2.1
  refine ⟨s', ?_, a2⟩
  unfold q30_201
  by_cases e : d = 0
  · subst e
    rw [decide_eq_true rfl, b2_t]
    simp (disch := omega) only [a1', h4, nI_lit, nI_add, pk_mul, nI_clp, nI_eqv, nI_lev, nI_ltv, nI_neg, nI_neg', nI_subv, Nat.add_zero, Nat.zero_add, Nat.mul_zero, Nat.reduceAdd, bN_rv, bM_ru, bV_rv, bV_rx, bU_ru, bU_rx, bN_ite, bM_ite, bV_ite, bU_ite, ↓bx_e, ↓sp_e, gA_ok, gZ_n, gB_0, gB_1, gB_i, and_true, and_false, true_and, false_and, decide_true, decide_false, ↓reduceIte, not_true_eq_false, not_false_eq_true, Bool.false_eq_true, Bool.true_eq_false, Bool.and_true, Bool.and_false, Bool.true_and, Bool.false_and, Bool.or_true, Bool.or_false, Bool.true_or, Bool.false_or, Bool.not_true, Bool.not_false, le_f, le_t, lt_f, lt_t, eq_f, ↓reduceIte, not_true_eq_false, not_false_eq_true, ite_10, bt_0, bt_1]
  · rw [decide_eq_false e, b2_f]
    simp (disch := omega) only [a1', h4, nI_lit, nI_add, pk_mul, nI_clp, nI_eqv, nI_lev, nI_ltv, nI_neg, nI_neg', nI_subv, Nat.add_zero, Nat.zero_add, Nat.mul_zero, Nat.reduceAdd, bN_rv, bM_ru, bV_rv, bV_rx, bU_ru, bU_rx, bN_ite, bM_ite, bV_ite, bU_ite, ↓bx_e, ↓sp_e, gA_ok, gZ_n, gB_0, gB_1, gB_i, and_true, and_false, true_and, false_and, decide_true, decide_false, ↓reduceIte, not_true_eq_false, not_false_eq_true, Bool.false_eq_true, Bool.true_eq_false, Bool.and_true, Bool.and_false, Bool.true_and, Bool.false_and, Bool.or_true, Bool.or_false, Bool.true_or, Bool.false_or, Bool.not_true, Bool.not_false, le_f, le_t, lt_f, lt_t, eq_f, ↓reduceIte, not_true_eq_false, not_false_eq_true, ite_10, bt_0, bt_1]
/-- the class reads a condition -/
theorem p30 {s : mS} {p c : Nat} (h : CP b L s) (hp : s.1 1 2 = nI p) (hpL : p ≤ L) (hs : sk b L p = p) (h18 : s.1 18 1 = nI c) (hc : c < p) : match condF b L (atomS b L 6) p with
    | .inl f => ∃ s', q30 s = rv (nI 0) s' ∧ FE s s' ∧ s'.1 1 2 = nI f
    | .inr (p', l) => ∃ s', q30 s = rv (nI 1) s' ∧ FE s s' ∧ s'.1 1 2 = nI p' ∧ s'.1 18 1 = nI (c + l.length) ∧ DC s' c l ∧ ∀ x, x < c → s'.1 22 x = s.1 22 x := by
  have hL := h.1
  have hF : FE s (sI (sI s 17 3 (nI 0)) 17 4 (nI 0)) := FE_t (FE_po (n := 0)) FE_d4
  have hCS : CS b L (sI (sI s 17 3 (nI 0)) 17 4 (nI 0)) p c 0 [] := ⟨CP_E h hF, by rw [sI_fn (by omega), sI_fn (by omega)]; exact hp, by rw [sI_fn (by omega), sI_fn (by omega)]; exact h18, by rw [sI_sm, ud_e rfl], by rw [sI_sm, ud_n (by omega), sI_sm, ud_e rfl]; rfl, trivial, fun x hx => by (cases hx), by show 0 ≤ 24; omega⟩
  have hk := CR_cond (K := q30_201) (AC_all KE_201 6) (i := 0) (N := 10000) hCS (by omega) (fun x r hx => by cases hx) (by show 0 ≤ 3 * 0; omega) (by show c + 0 < p; omega) hpL hs (by omega) (by omega)
  have eq : q30 s = q30_14 q30_201 10000 (nI 1) (nI 0) (sI (sI s 17 3 (nI 0)) 17 4 (nI 0)) := by
    unfold q30
    simp only [nI_lit, sp_e]
  have kk := cond_k (b := b) (L := L) (fun p x y => atom_k 6 p x y) hpL hs
  rw [eq]
  cases e2 : condF b L (atomS b L 6) p with
  | inl f =>
    rw [e2] at hk
    obtain ⟨s3, f1, f2, f3⟩ := hk
    exact ⟨s3, f1, FE_t hF f2, f3⟩
  | inr x =>
    rw [e2] at hk kk
    obtain ⟨s3, i3, N3, M, l', f1, f2, f3, f4, f5, f6, f7, f8, f9, f10⟩ := hk
    obtain ⟨o1, o2, o3, o4, o5⟩ := kk
    obtain ⟨N3, rfl⟩ : ∃ N', N3 = N' + 1 := ⟨N3 - 1, by omega⟩
    rw [List.append_nil] at f8
    obtain ⟨s4, q1, q2⟩ := KE_201 b L _ s3 c l' x.1 0 M [] f7 f4 (fun x r hx => by cases hx) (by omega) (by omega)
    rw [← f6] at q2
    refine ⟨s4, ?_, FE_t hF q2.1, q2.2.1.2.1, q2.2.1.2.2.1, q2.2.2.1, fun y hy => by rw [q2.2.2.2 y hy, sI_fn (by omega), sI_fn (by omega)]⟩
    rw [f1, it_end f7.2.1 o2 (by omega) f9 f10 (by omega) (Or.inl rfl), q1]
    rfl
end CL
