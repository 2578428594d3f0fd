/-! the events come in the order of the tokens -/
section EVO
variable {K : Nat → Nat} {N : Nat}
def ge1 (K : Nat → Nat) (N : Nat) (s s2 : GS) : Prop := s.1 ≤ s2.1 ∧ ∃ es, s2.2.2 = s.2.2 ++ es ∧ (s2.1 ≤ N → ∀ r z x, x < s.1 → (∀ x2, x2 < s2.1 → evw K N r z x2) → evw K N (es ++ r) z x)
theorem ge1.trans {a b c : GS} (h : ge1 K N a b) (h2 : ge1 K N b c) : ge1 K N a c := by
  obtain ⟨l1, e1, p1, q1⟩ := h
  obtain ⟨l2, e2, p2, q2⟩ := h2
  refine ⟨by omega, e1 ++ e2, by rw [p2, p1, List.append_assoc], fun hN r z x hx hr => ?_⟩
  rw [List.append_assoc]
  exact q1 (by omega) _ z x hx (fun x2 hx2 => q2 hN r z x2 hx2 hr)
theorem ge1.refl (s : GS) : ge1 K N s s := ⟨Nat.le_refl _, [], by simp, fun _ r z x hx hr => hr x hx⟩
theorem ge1_ps (s : GS) : gev2 (psF s) (fun s2 => ge1 K N s s2 ∧ s2.1 = s.1 + 1) := fun s2 e => by
  have h := psF_ok e
  exact ⟨⟨by omega, [], by rw [h.2.2]; simp, fun _ r z x hx hr => hr x (by omega)⟩, h.1⟩
theorem ge1_nm (s : GS) {g : Nat} (h2 : K s.1 = 2) (hg : g = 4 ∨ g = 5) : gev2 (psF (gvF g s.1 s)) (fun s2 => ge1 K N s s2 ∧ s2.1 = s.1 + 1) := fun s2 e => by
  have h := psF_ok e
  have h1 : s2.1 = s.1 + 1 := h.1
  refine ⟨⟨by omega, [(g, s.1)], by rw [h.2.2]; rfl, fun hN r z x hx hr => ?_⟩, h1⟩
  show evw K N ((g, s.1) :: r) z x
  rw [evw, if_neg (by dsimp only; omega), if_neg (by dsimp only; omega), if_pos hg]
  exact ⟨h2, by dsimp only; omega, hx, hr _ (by dsimp only; omega)⟩
def gEp (K : Nat → Nat) (N : Nat) (F : GS → GR) : Prop := ∀ s : GS, gev2 (F s) (fun s2 => ge1 K N s s2)
theorem gE_prodL {u : GS → GR} (hu : gEp K N u) : ∀ (f : Nat) (s : GS), gev2 (prodL K u f s) (fun s2 => ge1 K N s s2)
  | 0, s => fun s2 e => by cases e; exact ge1.refl s
  | f + 1, s => by
    rw [prodL]
    split
    · exact gev2_gb (ge1_ps (K := K) (N := N) s) (fun s1 h1 => gev2_gb (hu s1) (fun s2 h2 s3 e => (h1.1.trans h2).trans (gE_prodL hu f (wrF 42 s2.1 s2) s3 e)))
    · intro s2 e; cases e; exact ge1.refl s
theorem gE_prodF {u : GS → GR} (hu : gEp K N u) : gEp K N (prodF K u) := fun s => gev2_gb (hu s) (fun s1 h1 s2 e => h1.trans (gE_prodL hu 300 s1 s2 e))
theorem gE_sumL {u : GS → GR} (hu : gEp K N u) : ∀ (f : Nat) (s : GS), gev2 (sumL K u f s) (fun s2 => ge1 K N s s2)
  | 0, s => fun s2 e => by cases e; exact ge1.refl s
  | f + 1, s => by
    rw [sumL]
    split
    · exact gev2_gb (ge1_ps (K := K) (N := N) s) (fun s1 h1 => gev2_gb (hu s1) (fun s2 h2 s3 e => (h1.1.trans h2).trans (gE_sumL hu f (wrF (K s.1) s2.1 s2) s3 e)))
    · intro s2 e; cases e; exact ge1.refl s
theorem gE_sumF {u : GS → GR} (hu : gEp K N u) : gEp K N (sumF K u) := fun s => gev2_gb (hu s) (fun s1 h1 s2 e => h1.trans (gE_sumL hu 300 s1 s2 e))
theorem gE_tk {k : Nat} (s : GS) : gev2 (tkF K k s) (fun s2 => ge1 K N s s2 ∧ s2.1 = s.1 + 1) := fun s2 e => ge1_ps s s2 (tkF_ok e).2
theorem gE_unit : ∀ d, gEp K N (unitF K d)
  | d => fun s => by
    by_cases k2 : K s.1 = 2
    · rw [unitF_v k2]
      exact fun s2 e => (ge1_nm (K := K) (N := N) (g := 5) (wrF 2 s.1 s) k2 (Or.inr rfl) s2 e).1
    by_cases k3 : K s.1 = 3
    · rw [unitF_i k3]
      exact fun s2 e => (ge1_ps (K := K) (N := N) (wrF 3 s.1 s) s2 e).1
    have pre : gev2 (if d = 0 then Sum.inl (2, s.1) else psF s : GR) (fun s1 => (ge1 K N s s1 ∧ s1.1 = s.1 + 1) ∧ d ≠ 0) := by
      by_cases hd : d = 0
      · rw [if_pos hd]; intro s2 e; cases e
      · rw [if_neg hd]; exact fun s2 e => ⟨ge1_ps s s2 e, hd⟩
    by_cases k40 : K s.1 = 40
    · rw [unitF_p k40]
      refine gev2_gb pre (fun s1 h1 => ?_)
      have hd := h1.2
      exact gev2_gb (gE_sumF (gE_prodF (gE_unit (d - 1))) s1) (fun s2 h2 => gev2_gb (gE_tk (K := K) (N := N) s2) (fun s3 h3 s4 e => by cases e; exact (h1.1.1.trans h2).trans h3.1))
    by_cases k8 : K s.1 = 8
    · rw [unitF_c k8]
      refine gev2_gb pre (fun s1 h1 => ?_)
      have hd := h1.2
      exact gev2_gb (gE_unit (d - 1) s1) (fun s2 h2 => gev2_gb (gE_unit (d - 1) s2) (fun s3 h3 => gev2_gb (gE_unit (d - 1) s3) (fun s4 h4 s5 e => by
        cases e
        exact ((h1.1.1.trans h2).trans h3).trans h4)))
    by_cases k9 : K s.1 = 9
    · rw [unitF_a k9]
      refine gev2_gb pre (fun s1 h1 => ?_)
      have hd := h1.2
      refine gev2_gb (Q := fun s2 => ge1 K N s1 s2) (fun s2 e2 => (ge1_nm (K := K) (N := N) (g := 4) s1 (tkF_ok e2).1 (Or.inl rfl) s2 (tkF_ok e2).2).1) (fun s2 h2 => gev2_gb (gE_unit (d - 1) s2) (fun s3 h3 s5 e => ?_))
      cases e
      exact (h1.1.1.trans h2).trans h3
    · rw [unitF_n (by omega)]
      intro s2 e; cases e
  termination_by d => d
  decreasing_by all_goals omega
theorem gE_expr : gEp K N (exprF K) := gE_sumF (gE_prodF (gE_unit 6))
/-- behind a tell -/
def ge2 (K : Nat → Nat) (N : Nat) (s s2 : GS) : Prop := s.1 ≤ s2.1 ∧ ∃ es, s2.2.2 = s.2.2 ++ es ∧ (s2.1 ≤ N → ∀ r x, x ≤ s.1 → (∀ x2, x2 ≤ s2.1 → evw K N r 0 x2) → evw K N (es ++ r) 0 x)
theorem ge2.refl (s : GS) : ge2 K N s s := ⟨Nat.le_refl _, [], by simp, fun _ r x hx hr => hr x hx⟩
theorem ge2.trans {a b c : GS} (h : ge2 K N a b) (h2 : ge2 K N b c) : ge2 K N a c := by
  obtain ⟨l1, e1, p1, q1⟩ := h
  obtain ⟨l2, e2, p2, q2⟩ := h2
  refine ⟨by omega, e1 ++ e2, by rw [p2, p1, List.append_assoc], fun hN r x hx hr => ?_⟩
  rw [List.append_assoc]
  exact q1 (by omega) _ x hx (fun x2 hx2 => q2 hN r x2 hx2 hr)
/-- an in, a table -/
theorem ge2_nm {s s2 : GS} {g a : Nat} (hg : g ≤ 1) (hK : K a = 2) (ha : a = s.1 + 1) (h : s2.2.2 = s.2.2 ++ [(g, a)]) (hl : a < s2.1) : ge2 K N s s2 := by
  refine ⟨by omega, [(g, a)], h, fun hN r x hx hr => ?_⟩
  show evw K N ((g, a) :: r) 0 x
  rw [evw, if_neg (by dsimp only; omega), if_neg (by dsimp only; omega), if_neg (by dsimp only; omega)]
  exact ⟨hK, by dsimp only; omega, hg, rfl, by dsimp only; omega, hr _ (by dsimp only; omega)⟩
theorem ge2_out {s s1 s2 s3 : GS} (h1 : s1.1 = s.1 + 1 ∧ s1.2 = s.2) (h : ge1 K N s1 s2) (h3 : s2.1 ≤ s3.1 ∧ s3.2.2 = s2.2.2) : ge2 K N s s3 := by
  obtain ⟨l2, e2, p2, q2⟩ := h
  refine ⟨by omega, e2, by rw [h3.2, p2, h1.2], fun hN r x hx hr => q2 (by omega) r 0 x (by omega) (fun x2 hx2 => hr x2 (by omega))⟩
theorem ge2_let {s s1 s2 s3 : GS} {a : Nat} (ha : a = s.1 + 1) (hK : K a = 2) (hl : a < s1.1) (hn : s1.2.2 = s.2.2 ++ [(2, a)]) (h : ge1 K N s1 s2) (h3 : s2.1 ≤ s3.1) (h4 : s3.2.2 = s2.2.2 ++ [(3, a)]) : ge2 K N s s3 := by
  obtain ⟨l2, e2, p2, q2⟩ := h
  refine ⟨by omega, [(2, a)] ++ (e2 ++ [(3, a)]), by rw [h4, p2, hn]; simp, fun hN r x hx hr => ?_⟩
  show evw K N ((2, a) :: ((e2 ++ [(3, a)]) ++ r)) 0 x
  rw [evw, if_pos rfl, List.append_assoc]
  refine ⟨hK, by dsimp only; omega, rfl, by dsimp only; omega, q2 (by omega) _ _ _ (by dsimp only; omega) (fun x2 hx2 => ?_)⟩
  show evw K N ((3, a) :: r) a x2
  rw [evw, if_neg (by dsimp only; omega), if_pos rfl]
  exact ⟨hK, by dsimp only; omega, rfl, by omega, hr _ (by omega)⟩
theorem gE_tell (c : CT) (s : GS) : gev2 (tellF K c s) (fun s2 => ge2 K N s s2) := by
  have pre : ∀ (p : Prop) [Decidable p], gev2 (if p then Sum.inl (2, s.1) else psF s : GR) (fun s1 => s1.1 = s.1 + 1 ∧ s1.2 = s.2) := by
    intro p _
    split
    · intro s2 e; cases e
    · exact fun s2 e => ⟨(psF_ok e).1, (psF_ok e).2.2⟩
  have tn : ∀ (g : Nat) (s1 : GS), gev2 (tkF K 2 (gvF g s1.1 s1)) (fun s2 => K s1.1 = 2 ∧ s2.1 = s1.1 + 1 ∧ s2.2.2 = s1.2.2 ++ [(g, s1.1)]) := fun g s1 s2 e => ⟨(tkF_ok e).1, (gx_tk 2 _ s2 e).2.1, by rw [(gx_tk 2 _ s2 e).2.2]; rfl⟩
  unfold tellF
  by_cases k4 : K s.1 = 4
  · rw [if_pos k4]
    refine gev2_gb (pre _) (fun s1 h1 => gev2_gb (tn 0 s1) (fun s2 h2 => gev2_gb (gx_tk 59 s2) (fun s3 h3 s4 e => ?_)))
    cases e
    exact ge2_nm (g := 0) (a := s1.1) (by decide) h2.1 h1.1 (by rw [h3.2.2, h2.2.2, h1.2]) (by omega)
  by_cases k5 : K s.1 = 5
  · rw [if_neg k4, if_pos k5]
    refine gev2_gb (pre _) (fun s1 h1 => gev2_gb (tn 1 s1) (fun s2 h2 => gev2_gb (gx_tk 58 s2) (fun s3 h3 => gev2_gb (Q := fun s4 => s3.1 ≤ s4.1 ∧ s4.2 = s3.2) (fun s4 e4 => ⟨(gS_numsF (t := 2) (V := K) (cnt := 0) s3 s4 e4).1, gN_numsF s3 s4 e4⟩) (fun s4 h4 => gev2_gb (gx_tk 59 s4) (fun s5 h5 s6 e => ?_)))))
    cases e
    exact ge2_nm (g := 1) (a := s1.1) (by decide) h2.1 h1.1 (by rw [h5.2.2, h4.2, h3.2.2, h2.2.2, h1.2]) (by omega)
  by_cases k6 : K s.1 = 6
  · rw [if_neg k4, if_neg k5, if_pos k6]
    refine gev2_gb (Q := fun s1 => s1.1 = s.1 + 1 ∧ s1.2 = s.2) (fun s1 e1 => ⟨(psF_ok e1).1, (psF_ok e1).2.2⟩) (fun s1 h1 => gev2_gb (tn 2 s1) (fun s2 h2 => gev2_gb (gx_tk 61 s2) (fun s3 h3 => gev2_gb (gE_expr (N := N) s3) (fun s4 h4 => gev2_gb (gx_tk 59 s4) (fun s5 h5 s6 e => ?_)))))
    cases e
    refine ge2_let (a := s.1 + 1) (s1 := s3) (s2 := s4) rfl (by rw [← h1.1]; exact h2.1) (by omega) (by rw [h3.2.2, h2.2.2, h1.2, h1.1]) h4 (by show s4.1 ≤ s5.1; omega) ?_
    show s5.2.2 ++ [(3, s.1 + 1)] = _
    rw [h5.2.2]
  by_cases k7 : K s.1 = 7
  · rw [if_neg k4, if_neg k5, if_neg k6, if_pos k7]
    refine gev2_gb (pre _) (fun s1 h1 => gev2_gb (gE_expr (N := N) s1) (fun s2 h2 => gev2_gb (gx_tk 59 s2) (fun s3 h3 s4 e => ?_)))
    cases e
    exact ge2_out (s3 := wrF 7 s.1 s3) h1 h2 ⟨by show s2.1 ≤ s3.1; omega, by show s3.2.2 = _; rw [h3.2.2]⟩
  · rw [if_neg k4, if_neg k5, if_neg k6, if_neg k7]
    intro s2 e; cases e
theorem gE_tells : ∀ (f : Nat) (c : CT) (s : GS), gev2 (tellsL K f c s) (fun s2 => ge2 K N s s2)
  | 0, c, s => fun s2 e => by cases e; exact ge2.refl s
  | f + 1, c, s => by
    rw [tellsL]
    split
    · intro s2 e; cases e; exact ge2.refl s
    · exact gev2_gb (gE_tell (N := N) c s) (fun s1 h1 s2 e => h1.trans (gE_tells f _ s1 s2 e))
theorem evw_gram {s : GS} (h : gramF K = .inr s) : evw K s.1 s.2.2 0 0 := by
  obtain ⟨-, es, e1, e2⟩ := gE_tells (K := K) (N := s.1) 301 (0, 0, 0) (0, [], []) s h
  have e3 : s.2.2 = es := by rw [e1]; rfl
  have := e2 (Nat.le_refl _) [] 0 (Nat.le_refl _) (fun _ _ => rfl)
  rw [e3]
  simpa using this
end EVO
