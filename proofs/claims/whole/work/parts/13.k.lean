/-! THE LAW'S TEXT: its code is such as the law's run wants -/
def tyO : List (Nat × Nat) → List Bool → Option (List Bool)
  | [], ts => some ts
  | x :: l, ts => if 40 ≤ ts.length then none else match ty1 x.1 ts with
    | none => none
    | some ts' => tyO l ts'
theorem tyO_a : ∀ {l r : List (Nat × Nat)} {ts ts' : List Bool}, tyO l ts = some ts' → tyO (l ++ r) ts = tyO r ts' := by
  intro l
  induction l with
  | nil => intro r ts ts' h; injection h with h; subst h; rfl
  | cons x l ih =>
    intro r ts ts' h
    rw [tyO] at h
    show tyO (x :: (l ++ r)) ts = _
    rw [tyO]
    split
    · rename_i q; rw [if_pos q] at h; cases h
    · rename_i q
      rw [if_neg q] at h
      cases e : ty1 x.1 ts with
      | none => rw [e] at h; cases h
      | some t2 => rw [e] at h; exact ih h
theorem tyO_1 {x : Nat × Nat} {ts ts' : List Bool} (h : ts.length < 40) (h1 : ty1 x.1 ts = some ts') : tyO [x] ts = some ts' := by
  rw [tyO, if_neg (by omega), h1]; rfl
def OKl (l : List (Nat × Nat)) : Prop := ∀ x, x ∈ l → x.1 ≤ 16 ∧ x.2 < 1000
theorem OKl_a {l r : List (Nat × Nat)} (h : OKl l) (h2 : OKl r) : OKl (l ++ r) := fun x hx => by
  rcases List.mem_append.mp hx with q | q
  · exact h x q
  · exact h2 x q
theorem OKl_1 {o v : Nat} (h : o ≤ 16) (h2 : v < 1000) : OKl [(o, v)] := fun x hx => by
  simp only [List.mem_singleton] at hx
  subst hx; exact ⟨h, h2⟩
def TY (m : Nat) (t : Bool) (r : LR) : Prop := match r with
  | .inl _ => True
  | .inr (_, l) => OKl l ∧ ∀ ts : List Bool, ts.length + m < 40 → tyO l ts = some (t :: ts)
section TYP
variable {b : Nat → Nat} {L : Nat}
theorem ty_p {o : Nat} {ts : List Bool} (h : o ≤ 10) : ty1 o ts = some (decide (7 ≤ o ∧ o ≤ 9) :: ts) := by unfold ty1; rw [if_pos h]
theorem part_ty {p : Nat} (hpL : p ≤ L) : TY 0 false (partS b L p) := by
  unfold partS
  split
  · split
    · trivial
    · rename_i v hv
      have := nm_p hv
      exact ⟨OKl_1 (by omega) (by omega), fun ts h => tyO_1 (by omega) (ty_p (by omega))⟩
  · split
    · trivial
    · rename_i k hk
      have := fact_l hpL hk
      exact ⟨OKl_1 (by omega) (by omega), fun ts h => tyO_1 (by omega) (by rw [ty_p (show (k, 0).1 ≤ 10 by show k ≤ 10; omega), decide_eq_false (by show ¬ (7 ≤ k ∧ k ≤ 9); omega)])⟩
theorem sumR_ty : ∀ m p l, p ≤ L → OKl l → (∀ ts : List Bool, ts.length + 2 < 40 → tyO l ts = some (false :: ts)) → TY 2 false (sumR b L m p l) := by
  intro m
  induction m with
  | zero => intro p l _ h1 h2; exact ⟨h1, h2⟩
  | succ m ih =>
    intro p l hpL h1 h2
    rw [sumR]
    split
    · rename_i q
      have hq := isB_t q
      obtain ⟨s1, s2, -, s4⟩ := sk_p (b := b) (show p + 1 ≤ L by omega)
      have k := part_ty (b := b) s2
      have kk := part_k (b := b) s2 s4
      cases e : partS b L (sk b L (p + 1)) with
      | inl f => trivial
      | inr x =>
        rw [e] at k kk
        refine ih x.1 _ kk.2.1 (OKl_a h1 (OKl_a k.1 (OKl_1 (by omega) (by omega)))) (fun ts ht => ?_)
        rw [tyO_a (h2 ts ht), tyO_a (k.2 (false :: ts) (by rw [List.length_cons]; omega))]
        exact tyO_1 (by simp only [List.length_cons]; omega) rfl
    · exact ⟨h1, h2⟩
theorem sum_ty {p : Nat} (hpL : p ≤ L) (hs : sk b L p = p) : TY 2 false (sumS b L p) := by
  have k := part_ty (b := b) hpL
  have kk := part_k (b := b) hpL hs
  unfold sumS
  cases e : partS b L p with
  | inl f => trivial
  | inr x =>
    rw [e] at k kk
    exact sumR_ty L x.1 x.2 kk.2.1 k.1 (fun ts h => k.2 ts (by omega))
theorem cmp_ty {p : Nat} (hpL : p ≤ L) (hs : sk b L p = p) : TY 3 true (cmpS b L p) := by
  have k := sum_ty (b := b) hpL hs
  have kk := sum_k (b := b) hpL hs
  unfold cmpS
  cases e : sumS b L p with
  | inl f => trivial
  | inr x =>
    rw [e] at k kk
    have two : ∀ o, isB b L o o x.1 = true → ∀ q, (q = 12 ∨ q = 13) → TY 3 true (match sumS b L (sk b L (x.1 + 1)) with
      | .inl f => .inl f
      | .inr (p2, c2) => .inr (p2, x.2 ++ (c2 ++ [(q, 0)]))) := fun o ho q hq2 => by
      have hq := isB_t ho
      obtain ⟨s1, s2, -, s4⟩ := sk_p (b := b) (show x.1 + 1 ≤ L by omega)
      have j := sum_ty (b := b) s2 s4
      cases e2 : sumS b L (sk b L (x.1 + 1)) with
      | inl f => trivial
      | inr y =>
        rw [e2] at j
        refine ⟨OKl_a k.1 (OKl_a j.1 (OKl_1 (by omega) (by omega))), fun ts ht => ?_⟩
        rw [tyO_a (k.2 ts (by omega)), tyO_a (j.2 (false :: ts) (by rw [List.length_cons]; omega))]
        exact tyO_1 (by simp only [List.length_cons]; omega) (by rcases hq2 with r | r <;> subst r <;> rfl)
    dsimp only
    split
    · rename_i q; exact two 60 q 12 (Or.inl rfl)
    split
    · rename_i q; exact two 62 q 13 (Or.inr rfl)
    · trivial
theorem leaf_ty {p : Nat} (hpL : p ≤ L) (hs : sk b L p = p) : TY 3 true (leafS b L p) := by
  unfold leafS
  split
  · rename_i j hj
    have := tag_l hpL hj
    exact ⟨OKl_1 (by omega) (by omega), fun ts h => tyO_1 (by omega) (by rw [ty_p (show (j, 0).1 ≤ 10 by show j ≤ 10; omega), decide_eq_true (by show (7 ≤ j ∧ j ≤ 9); omega)])⟩
  · exact cmp_ty hpL hs
theorem TY_w {m m' : Nat} {t : Bool} {r : LR} (h : TY m t r) (hm : m ≤ m') : TY m' t r := by
  cases r with
  | inl f => trivial
  | inr x => exact ⟨h.1, fun ts ht => h.2 ts (by omega)⟩
theorem all_ty {A : Nat → LR} {m : Nat} (hA : ∀ p, p ≤ L → sk b L p = p → LRk L b p (A p) ∧ TY m true (A p)) {p : Nat} (hpL : p ≤ L) (hs : sk b L p = p) (hm : 1 ≤ m) : TY (m + 1) true (allF b L A p) := by
  have loop : ∀ n p l, p ≤ L → OKl l → (∀ ts : List Bool, ts.length + (m + 1) < 40 → tyO l ts = some (true :: ts)) → TY (m + 1) true (allR b L A n p l) := by
    intro n
    induction n with
    | zero => intro p l _ h1 h2; exact ⟨h1, h2⟩
    | succ n ih =>
      intro p l hpL h1 h2
      rw [allR]
      split
      · rename_i q
        have hq := wd_p hpL q
        rw [tl_20] at hq ⊢
        obtain ⟨s1, s2, -, s4⟩ := sk_p (b := b) (show p + 3 ≤ L by omega)
        obtain ⟨kk, k⟩ := hA _ s2 s4
        cases e : A (sk b L (p + 3)) with
        | inl f => trivial
        | inr x =>
          rw [e] at k kk
          refine ih x.1 _ kk.2.1 (OKl_a h1 (OKl_a k.1 (OKl_1 (by omega) (by omega)))) (fun ts ht => ?_)
          rw [tyO_a (h2 ts ht), tyO_a (k.2 (true :: ts) (by rw [List.length_cons]; omega))]
          exact tyO_1 (by simp only [List.length_cons]; omega) rfl
      · exact ⟨h1, h2⟩
  obtain ⟨kk, k⟩ := hA p hpL hs
  unfold allF
  cases e : A p with
  | inl f => trivial
  | inr x =>
    rw [e] at k kk
    exact loop L x.1 x.2 kk.2.1 k.1 (fun ts h => k.2 ts (by omega))
theorem cond_ty {A : Nat → LR} {m : Nat} (hA : ∀ p, p ≤ L → sk b L p = p → LRk L b p (A p) ∧ TY m true (A p)) {p : Nat} (hpL : p ≤ L) (hs : sk b L p = p) (hm : 1 ≤ m) : TY (m + 2) true (condF b L A p) := by
  have hA1 : ∀ p, p ≤ L → sk b L p = p → LRk L b p (allF b L A p) ∧ TY (m + 1) true (allF b L A p) := fun p x y => ⟨all_k (fun p x y => (hA p x y).1) x y, all_ty hA x y hm⟩
  have loop : ∀ n p l, p ≤ L → OKl l → (∀ ts : List Bool, ts.length + (m + 2) < 40 → tyO l ts = some (true :: ts)) → TY (m + 2) true (condR b L A n p l) := by
    intro n
    induction n with
    | zero => intro p l _ h1 h2; exact ⟨h1, h2⟩
    | succ n ih =>
      intro p l hpL h1 h2
      rw [condR]
      split
      · rename_i q
        have hq := wd_p hpL q
        rw [tl_21] at hq ⊢
        obtain ⟨s1, s2, -, s4⟩ := sk_p (b := b) (show p + 2 ≤ L by omega)
        obtain ⟨kk, k⟩ := hA1 _ s2 s4
        cases e : allF b L A (sk b L (p + 2)) with
        | inl f => trivial
        | inr x =>
          rw [e] at k kk
          refine ih x.1 _ kk.2.1 (OKl_a h1 (OKl_a k.1 (OKl_1 (by omega) (by omega)))) (fun ts ht => ?_)
          rw [tyO_a (h2 ts ht), tyO_a (k.2 (true :: ts) (by rw [List.length_cons]; omega))]
          exact tyO_1 (by simp only [List.length_cons]; omega) rfl
      · exact ⟨h1, h2⟩
  obtain ⟨kk, k⟩ := hA1 p hpL hs
  unfold condF
  cases e : allF b L A p with
  | inl f => trivial
  | inr x =>
    rw [e] at k kk
    exact loop L x.1 x.2 kk.2.1 k.1 (fun ts h => k.2 ts (by omega))
theorem atom_ty : ∀ k p, p ≤ L → sk b L p = p → TY (2 * k + 3) true (atomS b L k p) := by
  intro k
  induction k with
  | zero =>
    intro p hpL hs
    rw [atomS]
    split
    · trivial
    split
    · trivial
    · exact leaf_ty hpL hs
  | succ k ih =>
    intro p hpL hs
    rw [atomS]
    split
    · rename_i q
      have hq := isB_t q
      obtain ⟨s1, s2, -, s4⟩ := sk_p (b := b) (show p + 1 ≤ L by omega)
      have j := cond_ty (b := b) (L := L) (A := atomS b L k) (m := 2 * k + 3) (fun p x y => ⟨atom_k k p x y, ih p x y⟩) s2 s4 (by omega)
      unfold brkS
      cases e : condF b L (atomS b L k) (sk b L (p + 1)) with
      | inl f => trivial
      | inr x =>
        rw [e] at j
        dsimp only
        split
        · exact ⟨j.1, fun ts h => j.2 ts (by omega)⟩
        · trivial
    split
    · rename_i q
      have hq := wd_p hpL q
      rw [tl_13] at hq ⊢
      obtain ⟨s1, s2, -, s4⟩ := sk_p (b := b) (show p + 3 ≤ L by omega)
      have j := ih _ s2 s4
      unfold notS
      cases e : atomS b L k (sk b L (p + 3)) with
      | inl f => trivial
      | inr x =>
        rw [e] at j
        refine ⟨OKl_a j.1 (OKl_1 (by omega) (by omega)), fun ts h => ?_⟩
        rw [tyO_a (j.2 ts (by omega))]
        exact tyO_1 (by rw [List.length_cons]; omega) rfl
    · exact TY_w (leaf_ty hpL hs) (by omega)
end TYP
/-! LINES -/
abbrev Ln : Type := Nat × Nat × List (Nat × Nat)
def tot : List Ln → Nat
  | [] => 0
  | x :: r => x.2.2.length + tot r
def OKn (x : Ln) : Prop := OKl x.2.2 ∧ (x.2.2 = [] ∨ tyO x.2.2 [] = some [true])
def DF (f : Nat → Int32) : Nat → List (Nat × Nat) → Prop
  | _, [] => True
  | c, x :: l => f (819 + 2 * c) = nI x.1 ∧ f (819 + 2 * c + 1) = nI x.2 ∧ DF f (c + 1) l
def LF (f : Nat → Int32) : Nat → Nat → List Ln → Prop
  | _, _, [] => True
  | i, c, x :: r => f (771 + 4 * i) = nI x.1 ∧ f (771 + 4 * i + 1) = nI x.2.1 ∧ f (771 + 4 * i + 2) = nI c ∧ f (771 + 4 * i + 3) = nI (c + x.2.2.length) ∧ DF f c x.2.2 ∧ LF f (i + 1) (c + x.2.2.length) r
def LC (s : mS) : Nat → Nat → List Ln → Prop
  | _, _, [] => True
  | i, c, x :: r => s.1 19 i = nI x.1 ∧ s.1 20 i = nI x.2.1 ∧ s.1 21 i = nI (c + x.2.2.length) ∧ DC s c x.2.2 ∧ LC s (i + 1) (c + x.2.2.length) r
theorem DF_ty {f : Nat → Int32} : ∀ {l : List (Nat × Nat)} {c : Nat} {ts : List Bool}, DF f c l → OKl l → tyL f l.length c ts = tyO l ts := by
  intro l
  induction l with
  | nil => intro c ts _ _; rfl
  | cons x l ih =>
    intro c ts h ho
    obtain ⟨h1, h2, h3⟩ := h
    have hx := ho x List.mem_cons_self
    have e : lOp f c = x.1 := by unfold lOp; rw [h1, nI_clp (by omega)]
    rw [List.length_cons, tyL, tyO, e]
    split
    · rfl
    · cases ty1 x.1 ts with
      | none => rfl
      | some t2 => exact ih h3 (fun y hy => ho y (List.mem_cons_of_mem _ hy))
theorem DF_wo {f : Nat → Int32} : ∀ {l : List (Nat × Nat)} {c : Nat}, DF f c l → OKl l → ∀ j, c ≤ j → j < c + l.length → WO f j := by
  intro l
  induction l with
  | nil => intro c _ _ j h1 h2; rw [List.length_nil] at h2; omega
  | cons x l ih =>
    intro c h ho j j1 j2
    obtain ⟨h1, h2, h3⟩ := h
    have hx := ho x List.mem_cons_self
    rw [List.length_cons] at j2
    by_cases e : j = c
    · subst e
      have eo : lOp f j = x.1 := by unfold lOp; rw [h1, nI_clp (by omega)]
      exact ⟨by rw [eo]; exact h1, by rw [eo]; exact hx.1, fun _ => ⟨x.2, hx.2, h2⟩⟩
    · exact ih h3 (fun y hy => ho y (List.mem_cons_of_mem _ hy)) j (by omega) (by omega)
theorem LF_w {f : Nat → Int32} : ∀ (ls : List Ln) i c, LF f i c ls → (∀ x, x ∈ ls → OKn x) → c + tot ls ≤ 400 → (∀ j, j < c → WO f j) → ∀ k, k < ls.length → WLn f (i + k) ∧ (k = 0 → lB f (i + k) = c) ∧ (0 < k → lB f (i + k) = lE f (i + k - 1)) := by
  intro ls
  induction ls with
  | nil => intro i c _ _ _ _ k hk; rw [List.length_nil] at hk; omega
  | cons x r ih =>
    intro i c h ho ht hw k hk
    obtain ⟨h1, h2, h3, h4, h5, h6⟩ := h
    have hx := ho x List.mem_cons_self
    have ht' : c + (x.2.2.length + tot r) ≤ 400 := ht
    have eB : lB f i = c := by unfold lB; rw [h3, nI_clp (by omega)]
    have eE : lE f i = c + x.2.2.length := by unfold lE; rw [h4, nI_clp (by omega)]
    have hw2 : ∀ j, j < c + x.2.2.length → WO f j := fun j hj => by
      by_cases e : j < c
      · exact hw j e
      · exact DF_wo h5 hx.1 j (by omega) hj
    cases k with
    | zero =>
      refine ⟨⟨by show f (771 + 4 * i + 2) = nI (lB f i); rw [eB]; exact h3, by show f (771 + 4 * i + 3) = nI (lE f i); rw [eE]; exact h4, by rw [Nat.add_zero, eB, eE]; omega, by rw [Nat.add_zero, eE]; omega, by rw [Nat.add_zero, eE]; exact hw2, ?_⟩, fun _ => eB, fun q => by omega⟩
      rw [Nat.add_zero, eB, eE, show c + x.2.2.length - c = x.2.2.length by omega, DF_ty h5 hx.1]
      rcases hx.2 with q | q
      · left; rw [q]; rfl
      · right; exact q
    | succ k =>
      rw [List.length_cons] at hk
      obtain ⟨g1, g2, g3⟩ := ih (i + 1) (c + x.2.2.length) h6 (fun y hy => ho y (List.mem_cons_of_mem _ hy)) (by omega) hw2 k (by omega)
      rw [show i + 1 + k = i + (k + 1) by omega] at g1 g2 g3
      refine ⟨g1, fun q => by omega, fun _ => ?_⟩
      by_cases e : k = 0
      · subst e; rw [g2 rfl, show i + (0 + 1) - 1 = i by omega, eE]
      · exact g3 (by omega)
theorem LF_r {f : Nat → Int32} {s : mS} : ∀ (ls : List Ln) i c, LF f i c ls → LC s i c ls → (∀ x, x ∈ ls → OKn x) → c + tot ls ≤ 400 → (∀ j, j < c → s.1 22 j = cEnc (lOp f j) (f (819 + 2 * j + 1))) → ∀ k, k < ls.length → s.1 19 (i + k) = f (771 + 4 * (i + k)) ∧ s.1 20 (i + k) = f (771 + 4 * (i + k) + 1) ∧ s.1 21 (i + k) = f (771 + 4 * (i + k) + 3) ∧ ∀ j, j < lE f (i + k) → s.1 22 j = cEnc (lOp f j) (f (819 + 2 * j + 1)) := by
  have dc : ∀ (l : List (Nat × Nat)) c, DF f c l → DC s c l → OKl l → ∀ j, c ≤ j → j < c + l.length → s.1 22 j = cEnc (lOp f j) (f (819 + 2 * j + 1)) := by
    intro l
    induction l with
    | nil => intro c _ _ _ j h1 h2; rw [List.length_nil] at h2; omega
    | cons x l ih =>
      intro c h hc ho j j1 j2
      obtain ⟨h1, h2, h3⟩ := h
      have hx := ho x List.mem_cons_self
      rw [List.length_cons] at j2
      by_cases e : j = c
      · subst e
        have eo : lOp f j = x.1 := by unfold lOp; rw [h1, nI_clp (by omega)]
        rw [eo, h2]; exact hc.1
      · exact ih (c + 1) h3 hc.2 (fun y hy => ho y (List.mem_cons_of_mem _ hy)) j (by omega) (by omega)
  intro ls
  induction ls with
  | nil => intro i c _ _ _ _ _ k hk; rw [List.length_nil] at hk; omega
  | cons x r ih =>
    intro i c h hC ho ht hw k hk
    obtain ⟨h1, h2, h3, h4, h5, h6⟩ := h
    obtain ⟨c1, c2, c3, c4, c5⟩ := hC
    have hx := ho x List.mem_cons_self
    have ht' : c + (x.2.2.length + tot r) ≤ 400 := ht
    have eE : lE f i = c + x.2.2.length := by unfold lE; rw [h4, nI_clp (by omega)]
    have hw2 : ∀ j, j < c + x.2.2.length → s.1 22 j = cEnc (lOp f j) (f (819 + 2 * j + 1)) := fun j hj => by
      by_cases e : j < c
      · exact hw j e
      · exact dc x.2.2 c h5 c4 hx.1 j (by omega) hj
    cases k with
    | zero => exact ⟨by rw [Nat.add_zero, h1]; exact c1, by rw [Nat.add_zero, h2]; exact c2, by rw [Nat.add_zero, h4]; exact c3, by rw [Nat.add_zero, eE]; exact hw2⟩
    | succ k =>
      rw [List.length_cons] at hk
      have := ih (i + 1) (c + x.2.2.length) h6 c5 (fun y hy => ho y (List.mem_cons_of_mem _ hy)) (by omega) hw2 k (by omega)
      rw [show i + 1 + k = i + (k + 1) by omega] at this
      exact this
theorem tot_a {ls : List Ln} {x : Ln} : tot (ls ++ [x]) = tot ls + x.2.2.length := by
  induction ls with
  | nil => show x.2.2.length + 0 = 0 + x.2.2.length; omega
  | cons y r ih => show y.2.2.length + tot (r ++ [x]) = y.2.2.length + tot r + x.2.2.length; omega
theorem DF_c {f g : Nat → Int32} : ∀ {l : List (Nat × Nat)} {c : Nat}, DF f c l → (∀ j, 819 ≤ j → j < 819 + 2 * (c + l.length) → g j = f j) → DF g c l := by
  intro l
  induction l with
  | nil => intro c _ _; trivial
  | cons x l ih =>
    intro c h hc
    rw [List.length_cons] at hc
    exact ⟨by rw [hc _ (by omega) (by omega)]; exact h.1, by rw [hc _ (by omega) (by omega)]; exact h.2.1, ih h.2.2 (fun j a b => hc j a (by omega))⟩
theorem LF_c {f g : Nat → Int32} : ∀ (ls : List Ln) i c, LF f i c ls → i + ls.length ≤ 12 → (∀ j, 771 ≤ j → j < 771 + 4 * (i + ls.length) → g j = f j) → (∀ j, 819 ≤ j → j < 819 + 2 * (c + tot ls) → g j = f j) → LF g i c ls := by
  intro ls
  induction ls with
  | nil => intro i c _ _ _ _; trivial
  | cons x r ih =>
    intro i c h hi h1 h2
    rw [List.length_cons] at hi h1
    have h2' : ∀ j, 819 ≤ j → j < 819 + 2 * (c + (x.2.2.length + tot r)) → g j = f j := h2
    obtain ⟨a1, a2, a3, a4, a5, a6⟩ := h
    exact ⟨by rw [h1 _ (by omega) (by omega)]; exact a1, by rw [h1 _ (by omega) (by omega)]; exact a2, by rw [h1 _ (by omega) (by omega)]; exact a3, by rw [h1 _ (by omega) (by omega)]; exact a4, DF_c a5 (fun j u v => h2' j u (by omega)), ih (i + 1) _ a6 (by omega) (fun j u v => h1 j u (by omega)) (fun j u v => h2' j u (by omega))⟩
theorem LF_a {f : Nat → Int32} {x : Ln} : ∀ (ls : List Ln) i c, LF f i c ls → LF f (i + ls.length) (c + tot ls) [x] → LF f i c (ls ++ [x]) := by
  intro ls
  induction ls with
  | nil => intro i c _ h; exact h
  | cons y r ih =>
    intro i c h hx
    obtain ⟨a1, a2, a3, a4, a5, a6⟩ := h
    rw [List.length_cons] at hx
    have hx' : LF f (i + (r.length + 1)) (c + (y.2.2.length + tot r)) [x] := hx
    exact ⟨a1, a2, a3, a4, a5, ih (i + 1) _ a6 (by rw [show i + 1 + r.length = i + (r.length + 1) by omega, Nat.add_assoc]; exact hx')⟩
theorem LC_c {s s' : mS} : ∀ (ls : List Ln) i c, LC s i c ls → (∀ j, j < i + ls.length → s'.1 19 j = s.1 19 j ∧ s'.1 20 j = s.1 20 j ∧ s'.1 21 j = s.1 21 j) → (∀ j, j < c + tot ls → s'.1 22 j = s.1 22 j) → LC s' i c ls := by
  intro ls
  induction ls with
  | nil => intro i c _ _ _; trivial
  | cons x r ih =>
    intro i c h h1 h2
    rw [List.length_cons] at h1
    have h2' : ∀ j, j < c + (x.2.2.length + tot r) → s'.1 22 j = s.1 22 j := h2
    obtain ⟨a1, a2, a3, a4, a5⟩ := h
    exact ⟨by rw [(h1 i (by omega)).1]; exact a1, by rw [(h1 i (by omega)).2.1]; exact a2, by rw [(h1 i (by omega)).2.2]; exact a3, DC_c a4 (fun j hj => h2' j (by omega)), ih (i + 1) _ a5 (fun j hj => h1 j (by omega)) (fun j hj => h2' j (by omega))⟩
theorem LC_a {s : mS} {x : Ln} : ∀ (ls : List Ln) i c, LC s i c ls → LC s (i + ls.length) (c + tot ls) [x] → LC s i c (ls ++ [x]) := by
  intro ls
  induction ls with
  | nil => intro i c _ h; exact h
  | cons y r ih =>
    intro i c h hx
    obtain ⟨a1, a2, a3, a4, a5⟩ := h
    rw [List.length_cons] at hx
    have hx' : LC s (i + (r.length + 1)) (c + (y.2.2.length + tot r)) [x] := hx
    exact ⟨a1, a2, a3, a4, ih (i + 1) _ a5 (by rw [show i + 1 + r.length = i + (r.length + 1) by omega, Nat.add_assoc]; exact hx')⟩
