/-! the numbers of a table, counted by both -/
def nbC (K : Nat → Nat) : Nat → Nat → Nat
  | 0, _ => 0
  | d + 1, i => if K i ≠ 59 then (if K i = 3 then 1 else 0) + nbC K d (i + 1) else 0
theorem nbL_C {K : Nat → Nat} {c : Nat} : ∀ (d i f : Nat), K (i + d) = 59 → i + d < c → d < f → nbL K c f i = nbC K d i
  | 0, i, f + 1, h, hc, hf => by
    have h0 : K i = 59 := h
    rw [nbL, if_neg (fun q => q.2 h0)]
    rfl
  | d + 1, i, f + 1, h, hc, hf => by
    rw [nbL, nbC]
    by_cases k : K i ≠ 59
    · rw [if_pos ⟨by omega, k⟩, if_pos k, nbL_C d (i + 1) f (by rw [show i + 1 + d = i + (d + 1) by omega]; exact h) (by omega) (by omega)]
    · rw [if_neg (fun q => k q.2), if_neg k]
theorem nb_mny {K : Nat → Nat} {cnt a j : Nat} (h : K j = 59) (h1 : a < j) (h2 : j < cnt) (h3 : cnt ≤ 300) : nbF K cnt a = mnyF K a := by
  unfold nbF mnyF
  rw [nbL_C (c := cnt) (j - (a + 1)) (a + 1) _ (by rw [show a + 1 + (j - (a + 1)) = j by omega]; exact h) (by omega) (by omega), nbL_C (c := 400) (j - (a + 1)) (a + 1) _ (by rw [show a + 1 + (j - (a + 1)) = j by omega]; exact h) (by omega) (by omega)]
section EVN
variable {K : Nat → Nat}
def gn (K : Nat → Nat) (s s2 : GS) : Prop := s.1 ≤ s2.1 ∧ ∃ es, s2.2.2 = s.2.2 ++ es ∧ ∀ e ∈ es, e.1 = 1 → ∃ j, e.2 < j ∧ j < s2.1 ∧ K j = 59
theorem gn.refl (s : GS) : gn K s s := ⟨Nat.le_refl _, [], by simp, fun e he => absurd he List.not_mem_nil⟩
theorem gn.trans {a b c : GS} (h : gn K a b) (h2 : gn K b c) : gn K a c := by
  obtain ⟨l1, e1, p1, q1⟩ := h
  obtain ⟨l2, e2, p2, q2⟩ := h2
  refine ⟨by omega, e1 ++ e2, by rw [p2, p1, List.append_assoc], fun e he k => ?_⟩
  rcases List.mem_append.mp he with q | q
  · obtain ⟨j, j1, j2, j3⟩ := q1 e q k
    exact ⟨j, j1, by omega, j3⟩
  · exact q2 e q k
theorem gN_tell (c : CT) (s : GS) : gev2 (tellF K c s) (fun s2 => gn K s s2) := by
  have pre : ∀ (p : Prop) [Decidable p], gev2 (if p then Sum.inl (2, s.1) else psF s : GR) (fun s1 => s1.1 = s.1 + 1 ∧ s1.2 = s.2) := by
    intro p _
    split
    · intro s2 e; cases e
    · exact fun s2 e => ⟨(psF_ok e).1, (psF_ok e).2.2⟩
  have tn : ∀ (g : Nat) (s1 : GS), gev2 (tkF K 2 (gvF g s1.1 s1)) (fun s2 => s2.1 = s1.1 + 1 ∧ s2.2.2 = s1.2.2 ++ [(g, s1.1)]) := fun g s1 s2 e => ⟨(gx_tk 2 _ s2 e).2.1, by rw [(gx_tk 2 _ s2 e).2.2]; rfl⟩
  have ex : ∀ s1 : GS, gev2 (exprF K s1) (fun s2 => s1.1 ≤ s2.1 ∧ ∃ es, s2.2.2 = s1.2.2 ++ es ∧ ∀ e ∈ es, e.1 ≠ 1) := fun s1 s2 e => by
    refine ⟨(gE_expr (N := 0) s1 s2 e).1, ?_⟩
    obtain ⟨-, ⟨es, x1, x2⟩, -⟩ := gX_expr s1 s2 e
    exact ⟨es, x1, fun e he => by have := x2 e he; omega⟩
  unfold tellF
  by_cases k4 : K s.1 = 4
  · rw [if_pos k4]
    refine gev2_gb (pre _) (fun s1 h1 => gev2_gb (tn 0 s1) (fun s2 h2 => gev2_gb (gx_tk 59 s2) (fun s3 h3 s4 e => ?_)))
    cases e
    exact ⟨by omega, [(0, s1.1)], by rw [h3.2.2, h2.2, h1.2], fun e he k => by rw [List.mem_singleton.mp he] at k; exact absurd k (by show ¬ (0 : Nat) = 1; decide)⟩
  by_cases k5 : K s.1 = 5
  · rw [if_neg k4, if_pos k5]
    refine gev2_gb (pre _) (fun s1 h1 => gev2_gb (tn 1 s1) (fun s2 h2 => gev2_gb (gx_tk 58 s2) (fun s3 h3 => gev2_gb (Q := fun s4 => s3.1 ≤ s4.1 ∧ s4.2 = s3.2) (fun s4 e4 => ⟨(gS_numsF (t := 2) (V := K) (cnt := 0) s3 s4 e4).1, gN_numsF s3 s4 e4⟩) (fun s4 h4 => gev2_gb (gT_59 s4) (fun s5 h5 s6 e => ?_)))))
    cases e
    exact ⟨by omega, [(1, s1.1)], by rw [h5.2.2, h4.2, h3.2.2, h2.2, h1.2], fun e he k => ⟨s4.1, by rw [List.mem_singleton.mp he]; show s1.1 < s4.1; omega, by omega, h5.1⟩⟩
  by_cases k6 : K s.1 = 6
  · rw [if_neg k4, if_neg k5, if_pos k6]
    refine gev2_gb (Q := fun s1 => s1.1 = s.1 + 1 ∧ s1.2 = s.2) (fun s1 e1 => ⟨(psF_ok e1).1, (psF_ok e1).2.2⟩) (fun s1 h1 => gev2_gb (tn 2 s1) (fun s2 h2 => gev2_gb (gx_tk 61 s2) (fun s3 h3 => gev2_gb (ex s3) (fun s4 h4 => gev2_gb (gx_tk 59 s4) (fun s5 h5 s6 e => ?_)))))
    cases e
    obtain ⟨h40, es, x1, x2⟩ := h4
    refine ⟨by show s.1 ≤ s5.1; omega, [(2, s1.1)] ++ (es ++ [(3, s.1 + 1)]), ?_, fun e he k => ?_⟩
    · show s5.2.2 ++ [(3, s.1 + 1)] = _
      rw [h5.2.2, x1, h3.2.2, h2.2, h1.2]
      simp
    · rcases List.mem_append.mp he with q | q
      · rw [List.mem_singleton.mp q] at k
        exact absurd k (by show ¬ (2 : Nat) = 1; decide)
      · rcases List.mem_append.mp q with q | q
        · exact absurd k (x2 e q)
        · rw [List.mem_singleton.mp q] at k
          exact absurd k (by show ¬ (3 : Nat) = 1; decide)
  by_cases k7 : K s.1 = 7
  · rw [if_neg k4, if_neg k5, if_neg k6, if_pos k7]
    refine gev2_gb (pre _) (fun s1 h1 => gev2_gb (ex s1) (fun s2 h2 => gev2_gb (gx_tk 59 s2) (fun s3 h3 s4 e => ?_)))
    cases e
    obtain ⟨h20, es, x1, x2⟩ := h2
    exact ⟨by show s.1 ≤ s3.1; omega, es, by show s3.2.2 = _; rw [h3.2.2, x1, h1.2], fun e he k => absurd k (x2 e he)⟩
  · rw [if_neg k4, if_neg k5, if_neg k6, if_neg k7]
    intro s2 e; cases e
theorem gN_tells : ∀ (f : Nat) (c : CT) (s : GS), gev2 (tellsL K f c s) (fun s2 => gn K s s2)
  | 0, c, s => fun s2 e => by cases e; exact gn.refl s
  | f + 1, c, s => by
    rw [tellsL]
    split
    · intro s2 e; cases e; exact gn.refl s
    · exact gev2_gb (gN_tell c s) (fun s1 h1 s2 e => h1.trans (gN_tells f _ s1 s2 e))
theorem nb_gram {s : GS} (h : gramF K = .inr s) (h3 : s.1 ≤ 300) : ∀ e ∈ s.2.2, e.1 = 1 → nbF K s.1 e.2 = mnyF K e.2 := by
  obtain ⟨-, es, e1, e2⟩ := gN_tells (K := K) 301 (0, 0, 0) (0, [], []) s h
  have e3 : s.2.2 = es := by rw [e1]; rfl
  intro e he k
  rw [e3] at he
  obtain ⟨j, j1, j2, j3⟩ := e2 e he k
  exact nb_mny j3 j1 j2 h3
/-- the first fault of the class is the worst of the model -/
theorem faults_same {t : Nat} {P V W : Nat → Nat} {s : GS} (h : gramF K = .inr s) (h3 : s.1 ≤ 300) (hv : vwOK K V W) (hP : ∀ a b, a < b → b ≤ s.1 → P a < P b) : ∃ x, fr1 K P V (s.2.2.foldl (cev t K V s.1) (.inr ([], 0, 0))) (pmF K P W t s.2.2) 0 x := by
  refine fold_ev (N := s.1) hv hP s.2.2 _ _ 0 0 (evw_gram h) (nb_gram h h3) ⟨⟨rfl, fun j hj => absurd hj (Nat.not_lt_zero _), fun i j _ hj => absurd hj (Nat.not_lt_zero _)⟩, rfl, rfl, rfl, fun q => absurd rfl q⟩
end EVN
