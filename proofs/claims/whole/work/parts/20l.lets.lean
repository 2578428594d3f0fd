/-! the lets: each is told by its group, and asked behind it -/
def lts : List GP → Nat → List MN
  | [], _ => []
  | g :: r, k => if g.2.1 = 6 then (g.2.2 + 1, 1, k) :: lts r (k + 1) else lts r k
theorem lts_app (g : GP) : ∀ (gs : List GP) (k : Nat), lts (gs ++ [g]) k = lts gs k ++ if g.2.1 = 6 then [(g.2.2 + 1, 1, k + n6 gs)] else []
  | [], k => by
    rw [List.nil_append, lts, lts, n6]
    split <;> rfl
  | x :: r, k => by
    rw [List.cons_append, lts, lts, n6]
    by_cases c : x.2.1 = 6
    · rw [if_pos c, if_pos c, if_pos c, lts_app g r, List.cons_append, Nat.add_assoc]
    · rw [if_neg c, if_neg c, if_neg c, lts_app g r, Nat.zero_add]
theorem lts_in : ∀ (gs : List GP) (k : Nat) (y : MN), y ∈ lts gs k → k ≤ y.2.2 ∧ y.2.2 < k + n6 gs ∧ y.2.1 = 1
  | [], k, y, h => absurd h List.not_mem_nil
  | x :: r, k, y, h => by
    rw [lts] at h
    rw [n6]
    by_cases c : x.2.1 = 6
    · rw [if_pos c] at h ⊢
      rcases List.mem_cons.mp h with q | q
      · rw [q]
        exact ⟨Nat.le_refl _, by show k < _; omega, rfl⟩
      · have := lts_in r (k + 1) y q
        exact ⟨by omega, by omega, this.2.2⟩
    · rw [if_neg c] at h ⊢
      have := lts_in r k y h
      exact ⟨this.1, by omega, this.2.2⟩
theorem lts_one : ∀ (gs : List GP) (k : Nat) (y z : MN), y ∈ lts gs k → z ∈ lts gs k → y.2.2 = z.2.2 → y.1 = z.1
  | [], k, y, z, h, _, _ => absurd h List.not_mem_nil
  | x :: r, k, y, z, h, h2, e => by
    rw [lts] at h h2
    by_cases c : x.2.1 = 6
    · rw [if_pos c] at h h2
      rcases List.mem_cons.mp h with q | q <;> rcases List.mem_cons.mp h2 with p | p
      · rw [q, p]
      · have := (lts_in r (k + 1) z p).1
        rw [q] at e
        have e2 : k = z.2.2 := e
        omega
      · have := (lts_in r (k + 1) y q).1
        rw [p] at e
        have e2 : y.2.2 = k := e
        omega
      · exact lts_one r (k + 1) y z q p e
    · rw [if_neg c] at h h2
      exact lts_one r k y z h h2 e
section LETS
variable {K P V W : Nat → Nat} {bs : Nat}
/-- a name that is asked stands for an in, or for a let done -/
def uX (W : Nat → Nat) (Nt : List MN) (n : Nat) (x : Nat × Nat) : Prop := x.1 = 2 → lk qV (W x.2) (nmL W Nt) < Nt.length ∧ ((Nt.getD (lk qV (W x.2) (nmL W Nt)) (0, 0, 0)).2.1 = 1 → (Nt.getD (lk qV (W x.2) (nmL W Nt)) (0, 0, 0)).2.2 < n)
def uG (W : Nat → Nat) (Nt : List MN) : List GP → Nat → Prop
  | [], _ => True
  | g :: r, n => (∀ x ∈ g.1, uX W Nt n x) ∧ uG W Nt r (n + if g.2.1 = 6 then 1 else 0)
theorem getD_l {Nt : List MN} {e : MN} {j : Nat} (h : j < Nt.length) : (Nt ++ [e]).getD j (0, 0, 0) = Nt.getD j (0, 0, 0) := by
  rw [List.getD_eq_getElem?_getD, List.getElem?_append_left h, ← List.getD_eq_getElem?_getD]
theorem uX_ext {Nt : List MN} {n : Nat} {x : Nat × Nat} (e : MN) (h : uX W Nt n x) : uX W (Nt ++ [e]) n x := by
  intro k
  obtain ⟨h1, h2⟩ := h k
  have e1 : lk qV (W x.2) (nmL W (Nt ++ [e])) = lk qV (W x.2) (nmL W Nt) := by
    rw [nmL_app]
    exact lk_ext _ (by rw [nmL_len]; exact h1)
  rw [e1, getD_l h1, List.length_append]
  exact ⟨by omega, h2⟩
theorem uG_ext {Nt : List MN} (e : MN) : ∀ (gs : List GP) (n : Nat), uG W Nt gs n → uG W (Nt ++ [e]) gs n
  | [], _, _ => True.intro
  | g :: r, n, h => ⟨fun x hx => uX_ext e (h.1 x hx), uG_ext e r _ h.2⟩
theorem uG_app {Nt : List MN} (g : GP) : ∀ (gs : List GP) (n : Nat), uG W Nt gs n → (∀ x ∈ g.1, uX W Nt (n + n6 gs) x) → uG W Nt (gs ++ [g]) n
  | [], n, _, h => ⟨h, True.intro⟩
  | x :: r, n, h, h2 => ⟨h.1, uG_app g r _ h.2 (fun y hy => by rw [Nat.add_assoc]; exact h2 y hy)⟩
def uIv (W : Nat → Nat) (p : PM) (gs : List GP) : Prop := p.2.2.1 = n6 gs ∧ (∀ y : MN, y.2.1 = 1 → (y ∈ p.1 ↔ y ∈ lts gs 0)) ∧ (∀ y ∈ p.1, y.2.1 = 0 → y.2.2 < p.2.1) ∧ (p.2.2.2.2.1 = 0 → uG W p.1 gs 0)
theorem mem_getD {Nt : List MN} {j : Nat} (h : j < Nt.length) : Nt.getD j (0, 0, 0) ∈ Nt := by
  rw [List.getD_eq_getElem?_getD, List.getElem?_eq_getElem h]
  exact List.getElem_mem h
theorem uIv_use {p : PM} {gs : List GP} (h : uIv W p gs) {es xs : List (Nat × Nat)} {w : Nat × Nat} (hx : ∀ x ∈ xs, x.1 = 2 → (5, x.2) ∈ es) (hw : (es.foldl (evW (nmL W p.1) P W) w).1 = 0) : w.1 = 0 ∧ ∀ x ∈ xs, uX W p.1 (n6 gs) x := by
  obtain ⟨h0, h1⟩ := evW_0 es w hw
  refine ⟨h0, fun x hx2 k => ?_⟩
  have q := (h1 _ (hx x hx2 k)).1 rfl
  rw [nmL_len] at q
  refine ⟨q, fun k1 => ?_⟩
  have := lts_in gs 0 _ ((h.2.1 _ k1).mp (mem_getD q))
  omega
theorem uIv_n {p : PM} {gs : List GP} (h : uIv W p gs) {g a : Nat} (hg : g = 0 ∨ g = 1) : uIv W (evM K P W bs p (g, a)) gs := by
  obtain ⟨h1, h2, h3, h4⟩ := h
  have mem1 : ∀ (y e : MN), e.2.1 ≠ 1 → y.2.1 = 1 → (y ∈ p.1 ++ [e] ↔ y ∈ lts gs 0) := fun y e he hy => by
    rw [List.mem_append, ← h2 y hy]
    constructor
    · rintro (q | q)
      · exact q
      · rw [List.mem_singleton.mp q] at hy
        exact absurd hy he
    · exact fun q => Or.inl q
  rcases hg with rfl | rfl
  · refine ⟨h1, fun y hy => mem1 y _ (by show (0 : Nat) ≠ 1; decide) hy, fun y hy k => ?_, fun hw => uG_ext _ gs 0 (h4 (w3F_0 hw).1)⟩
    have hy2 : y ∈ p.1 ++ [(a, 0, p.2.1)] := hy
    show y.2.2 < p.2.1 + 1
    rcases List.mem_append.mp hy2 with q | q
    · have := h3 y q k
      omega
    · rw [List.mem_singleton.mp q]
      exact Nat.lt_succ_self _
  · refine ⟨h1, fun y hy => mem1 y _ (by show (2 : Nat) ≠ 1; decide) hy, fun y hy k => ?_, fun hw => uG_ext _ gs 0 (h4 ?_)⟩
    · have hy2 : y ∈ p.1 ++ [(a, 2, p.2.2.2.1.length)] := hy
      rcases List.mem_append.mp hy2 with q | q
      · exact h3 y q k
      · rw [List.mem_singleton.mp q] at k
        exact absurd k (by show ¬ (2 : Nat) = 0; decide)
    · have q2 : (if mnyF K a ≠ bs ∨ ¬ prm bs then wrg (w3F P W p.1 p.2.2.2.2 a) 5 (P a) else w3F P W p.1 p.2.2.2.2 a).1 = 0 := hw
      split at q2
      · exact absurd q2 (wrg_ne (by decide))
      · exact (w3F_0 q2).1
theorem uIv_7 {E : List (Nat × Nat)} {gs : List GP} (h : uIv W (pmF K P W bs E) gs) {es xs : List (Nat × Nat)} (he : ∀ e ∈ es, e.1 = 4 ∨ e.1 = 5) (hx : ∀ x ∈ xs, x.1 = 2 → (5, x.2) ∈ es) (a : Nat) : uIv W (pmF K P W bs (E ++ es)) (gs ++ [(xs, 7, a)]) := by
  rw [pmF_use E es he]
  generalize pmF K P W bs E = p at h
  have h9 := h
  obtain ⟨h1, h2, h3, h4⟩ := h
  refine ⟨?_, fun y hy => ?_, h3, fun hw => ?_⟩
  · rw [n6_app]
    exact h1
  · rw [lts_app, if_neg (by show ¬ (7 : Nat) = 6; decide), List.append_nil]
    exact h2 y hy
  · obtain ⟨q1, q2⟩ := uIv_use h9 hx hw
    exact uG_app _ gs 0 (h4 q1) (by rw [Nat.zero_add]; exact q2)
theorem uIv_6 {E : List (Nat × Nat)} {gs : List GP} (h : uIv W (pmF K P W bs E) gs) {es xs : List (Nat × Nat)} (he : ∀ e ∈ es, e.1 = 4 ∨ e.1 = 5) (hx : ∀ x ∈ xs, x.1 = 2 → (5, x.2) ∈ es) (a b : Nat) : uIv W (pmF K P W bs (E ++ [(2, b)] ++ es ++ [(3, a + 1)])) (gs ++ [(xs, 6, a)]) := by
  rw [pmF_app, pmF_use _ es he, pmF_app]
  generalize pmF K P W bs E = p at h
  have h9 := h
  obtain ⟨h1, h2, h3, h4⟩ := h
  refine ⟨?_, fun y hy => ?_, fun y hy k => ?_, fun hw => ?_⟩
  · rw [n6_app, if_pos rfl, ← h1]
    rfl
  · rw [lts_app, if_pos rfl, List.mem_append, ← h2 y hy, Nat.zero_add, ← h1]
    show y ∈ p.1 ++ [(a + 1, 1, p.2.2.1)] ↔ _
    rw [List.mem_append]
  · have hy2 : y ∈ p.1 ++ [(a + 1, 1, p.2.2.1)] := hy
    rcases List.mem_append.mp hy2 with q | q
    · exact h3 y q k
    · rw [List.mem_singleton.mp q] at k
      exact absurd k (by show ¬ (1 : Nat) = 0; decide)
  · have hw2 : (es.foldl (evW (nmL W p.1) P W) (w3F P W p.1 p.2.2.2.2 b)).1 = 0 := hw
    obtain ⟨q1, q2⟩ := uIv_use h9 hx hw2
    show uG W (p.1 ++ [(a + 1, 1, p.2.2.1)]) _ 0
    exact uG_ext _ _ 0 (uG_app _ gs 0 (h4 (w3F_0 q1).1) (by rw [Nat.zero_add]; exact q2))
def grp (gs : List GP) : Prop := ∀ g ∈ gs, (g.2.1 = 6 ∨ g.2.1 = 7) ∧ ∀ x ∈ g.1, x.1 ∈ [2, 3, 8, 9, 42, 43, 45]
def uS (K P W : Nat → Nat) (bs : Nat) (s : GS) : Prop := ∃ gs, s.2.1 = flG gs ∧ grp gs ∧ uIv W (pmF K P W bs s.2.2) gs
theorem grp_app {gs : List GP} (h : grp gs) {xs : List (Nat × Nat)} {o a : Nat} (ho : o = 6 ∨ o = 7) (hx : ∀ x ∈ xs, x.1 ∈ [2, 3, 8, 9, 42, 43, 45]) : grp (gs ++ [(xs, o, a)]) := fun g hg => by
  rcases List.mem_append.mp hg with q | q
  · exact h g q
  · rw [List.mem_singleton.mp q]
    exact ⟨ho, hx⟩
theorem gU_tell (c : CT) (s : GS) (hs : uS K P W bs s) : gev2 (tellF K c s) (fun s2 => uS K P W bs s2) := by
  obtain ⟨gs, g1, g2, g3⟩ := hs
  have pre : ∀ (p : Prop) [Decidable p], gev2 (if p then Sum.inl (2, s.1) else psF s : GR) (fun s1 => s1.1 = s.1 + 1 ∧ s1.2 = s.2) := by
    intro p _
    split
    · intro s2 e; cases e
    · exact fun s2 e => ⟨(psF_ok e).1, (psF_ok e).2.2⟩
  have tn : ∀ (g : Nat) (s1 : GS), gev2 (tkF K 2 (gvF g s1.1 s1)) (fun s2 => s2.2.1 = s1.2.1 ∧ s2.2.2 = s1.2.2 ++ [(g, s1.1)]) := fun g s1 s2 e => by
    have := (gx_tk 2 _ s2 e).2.2
    exact ⟨by rw [this]; rfl, by rw [this]; rfl⟩
  unfold tellF
  by_cases k4 : K s.1 = 4
  · rw [if_pos k4]
    refine gev2_gb (pre _) (fun s1 h1 => gev2_gb (tn 0 s1) (fun s2 h2 => gev2_gb (gx_tk 59 s2) (fun s3 h3 s4 e => ?_)))
    cases e
    refine ⟨gs, by rw [h3.2.2, h2.1, h1.2]; exact g1, g2, ?_⟩
    rw [h3.2.2, h2.2, h1.2, pmF_app]
    exact uIv_n g3 (Or.inl rfl)
  by_cases k5 : K s.1 = 5
  · rw [if_neg k4, if_pos k5]
    refine gev2_gb (pre _) (fun s1 h1 => gev2_gb (tn 1 s1) (fun s2 h2 => gev2_gb (gx_tk 58 s2) (fun s3 h3 => gev2_gb (gN_numsF s3) (fun s4 h4 => gev2_gb (gx_tk 59 s4) (fun s5 h5 s6 e => ?_)))))
    cases e
    refine ⟨gs, by rw [h5.2.2, h4, h3.2.2, h2.1, h1.2]; exact g1, g2, ?_⟩
    rw [h5.2.2, h4, h3.2.2, h2.2, h1.2, pmF_app]
    exact uIv_n g3 (Or.inr rfl)
  by_cases k6 : K s.1 = 6
  · rw [if_neg k4, if_neg k5, if_pos k6]
    refine gev2_gb (Q := fun s1 => s1.1 = s.1 + 1 ∧ s1.2 = s.2) (fun s1 e1 => ⟨(psF_ok e1).1, (psF_ok e1).2.2⟩) (fun s1 h1 => gev2_gb (tn 2 s1) (fun s2 h2 => gev2_gb (gx_tk 61 s2) (fun s3 h3 => gev2_gb (gO_expr s3) (fun s4 h4 => gev2_gb (gx_tk 59 s4) (fun s5 h5 s6 e => ?_)))))
    cases e
    obtain ⟨xs, es, x1, x2, x3, x4⟩ := h4
    refine ⟨gs ++ [(xs, 6, s.1)], ?_, grp_app g2 (Or.inl rfl) (fun x hx => (x3 x hx).1), ?_⟩
    · show s5.2.1 ++ [(6, s.1)] = _
      rw [h5.2.2, x1, h3.2.2, h2.1, h1.2, g1, flG_app, List.append_assoc]
    · show uIv W (pmF K P W bs (s5.2.2 ++ [(3, s.1 + 1)])) _
      rw [h5.2.2, x2, h3.2.2, h2.2, h1.2]
      exact uIv_6 g3 x4 (fun x hx => (x3 x hx).2.1) s.1 s1.1
  by_cases k7 : K s.1 = 7
  · rw [if_neg k4, if_neg k5, if_neg k6, if_pos k7]
    refine gev2_gb (pre _) (fun s1 h1 => gev2_gb (gO_expr s1) (fun s2 h2 => gev2_gb (gx_tk 59 s2) (fun s3 h3 s4 e => ?_)))
    cases e
    obtain ⟨xs, es, x1, x2, x3, x4⟩ := h2
    refine ⟨gs ++ [(xs, 7, s.1)], ?_, grp_app g2 (Or.inr rfl) (fun x hx => (x3 x hx).1), ?_⟩
    · show s3.2.1 ++ [(7, s.1)] = _
      rw [h3.2.2, x1, h1.2, g1, flG_app, List.append_assoc]
    · show uIv W (pmF K P W bs s3.2.2) _
      rw [h3.2.2, x2, h1.2]
      exact uIv_7 g3 x4 (fun x hx => (x3 x hx).2.1) s.1
  · rw [if_neg k4, if_neg k5, if_neg k6, if_neg k7]
    intro s2 e; cases e
theorem gU_tells : ∀ (f : Nat) (c : CT) (s : GS), uS K P W bs s → gev2 (tellsL K f c s) (fun s2 => uS K P W bs s2)
  | 0, c, s, hs => fun s2 e => by cases e; exact hs
  | f + 1, c, s, hs => by
    rw [tellsL]
    split
    · intro s2 e; cases e; exact hs
    · exact gev2_gb (gU_tell c s hs) (fun s1 h1 s2 e => gU_tells f _ s1 h1 s2 e)
theorem uS_gram {s : GS} (h : gramF K = .inr s) : uS K P W bs s := by
  refine gU_tells 301 (0, 0, 0) (0, [], []) ⟨[], rfl, fun g hg => absurd hg List.not_mem_nil, ?_⟩ s h
  exact ⟨rfl, fun y _ => ⟨fun q => absurd q List.not_mem_nil, fun q => absurd q List.not_mem_nil⟩, fun y hy => absurd hy List.not_mem_nil, fun _ => True.intro⟩
end LETS
