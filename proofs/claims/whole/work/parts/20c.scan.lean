/-! the class' scan, tell by tell -/
section SCANT
variable {t : Nat} {K V : Nat → Nat} {cnt : Nat}
def l0 (S : SCS) : Prop := ∀ s, S = .inr s → s.2.2 = 0
theorem cev_r (s : List NE × Nat × Nat) {e : Nat × Nat} (h3 : e.1 ≠ 3) : cev t K V cnt (.inr s) e = if (fauE t K V cnt e s.1 s.2.1).1 = 0 then .inr ((fauE t K V cnt e s.1 s.2.1).2.1, (fauE t K V cnt e s.1 s.2.1).2.2, if e.1 = 2 then e.2 else s.2.2) else .inl ((fauE t K V cnt e s.1 s.2.1).1, e.2) := if_neg h3
theorem cev_3 (s : List NE × Nat × Nat) (a : Nat) : cev t K V cnt (.inr s) (3, a) = .inr (s.1 ++ [(V a, 6, (a : Int))], s.2.1, 0) := rfl
theorem cev_lt (S : SCS) {e : Nat × Nat} (h2 : e.1 ≠ 2) (h3 : e.1 ≠ 3) {z : Nat} (h : ∀ s, S = .inr s → s.2.2 = z) : ∀ s, cev t K V cnt S e = .inr s → s.2.2 = z := by
  intro s2 he
  cases S with
  | inl x => cases he
  | inr s =>
    rw [cev_r s h3] at he
    by_cases q : (fauE t K V cnt e s.1 s.2.1).1 = 0
    · rw [if_pos q, if_neg h2] at he
      cases he
      exact h s rfl
    · rw [if_neg q] at he
      cases he
theorem fold_lt {z : Nat} : ∀ (es : List (Nat × Nat)) (S : SCS), (∀ e ∈ es, e.1 ≠ 2 ∧ e.1 ≠ 3) → (∀ s, S = .inr s → s.2.2 = z) → ∀ s, es.foldl (cev t K V cnt) S = .inr s → s.2.2 = z
  | [], S, _, h => h
  | e :: es, S, he, h => by
    rw [List.foldl_cons]
    exact fold_lt es _ (fun x hx => he x (List.mem_cons_of_mem _ hx)) (cev_lt S (he e List.mem_cons_self).1 (he e List.mem_cons_self).2 h)
def gs2 (t : Nat) (K V : Nat → Nat) (cnt : Nat) (s s2 : GS) : Prop := s.1 ≤ s2.1 ∧ ∃ es, s2.2.2 = s.2.2 ++ es ∧ ∀ S, l0 S → scR t K V cnt (s2.1 - s.1) s.1 S = es.foldl (cev t K V cnt) S ∧ l0 (es.foldl (cev t K V cnt) S)
theorem gs2.refl (s : GS) : gs2 t K V cnt s s := ⟨Nat.le_refl _, [], by simp, fun S h => ⟨by rw [Nat.sub_self]; rfl, h⟩⟩
theorem gs2.trans {a b c : GS} (h : gs2 t K V cnt a b) (h2 : gs2 t K V cnt b c) : gs2 t K V cnt a c := by
  obtain ⟨l1, e1, p1, q1⟩ := h
  obtain ⟨l2, e2, p2, q2⟩ := h2
  refine ⟨by omega, e1 ++ e2, by rw [p2, p1, List.append_assoc], fun S hS => ?_⟩
  obtain ⟨x1, x2⟩ := q1 S hS
  obtain ⟨y1, y2⟩ := q2 _ x2
  rw [show c.1 - a.1 = (b.1 - a.1) + (c.1 - b.1) by omega, scR_add, show a.1 + (b.1 - a.1) = b.1 by omega, x1, y1, List.foldl_append]
  exact ⟨rfl, y2⟩
/-- the end of a tell that lets nothing -/
theorem gs2_semi {s s2 s3 : GS} (h : gs1 t K V cnt s s2) {es : List (Nat × Nat)} (he : s2.2.2 = s.2.2 ++ es) (hk : ∀ e ∈ es, e.1 ≠ 2 ∧ e.1 ≠ 3) (h59 : K s2.1 = 59) (h3 : s3.1 = s2.1 + 1) (h4 : s3.2.2 = s2.2.2) : gs2 t K V cnt s s3 := by
  obtain ⟨l1, e1, p1, q1⟩ := h
  have ee : e1 = es := List.append_cancel_left (p1.symm.trans he)
  subst ee
  refine ⟨by omega, e1, by rw [h4, p1], fun S hS => ?_⟩
  have hz := fold_lt (t := t) (K := K) (V := V) (cnt := cnt) e1 S hk hS
  refine ⟨?_, hz⟩
  rw [show s3.1 - s.1 = (s2.1 - s.1) + 1 by omega, scR_add, show s.1 + (s2.1 - s.1) = s2.1 by omega, q1, scR, scR]
  generalize e1.foldl (cev t K V cnt) S = T at hz
  cases T with
  | inl x => rfl
  | inr x =>
    have hx := hz x rfl
    show (if K s2.1 = 2 then _ else if K s2.1 = 59 ∧ 0 < x.2.2 then _ else _) = _
    rw [if_neg (by omega), if_neg (by omega)]
/-- the end of a let -/
theorem gs2_let {s s1 s2 s3 : GS} {a : Nat} (ha : 0 < a) (h1 : gs1 t K V cnt s s1) (hn : s1.2.2 = s.2.2 ++ [(2, a)]) (h : gs1 t K V cnt s1 s2) {es : List (Nat × Nat)} (he : s2.2.2 = s1.2.2 ++ es) (hk : ∀ e ∈ es, e.1 ≠ 2 ∧ e.1 ≠ 3) (h59 : K s2.1 = 59) (h3 : s3.1 = s2.1 + 1) (h4 : s3.2.2 = s2.2.2 ++ [(3, a)]) : gs2 t K V cnt s s3 := by
  obtain ⟨l0', e0, p0, q0⟩ := h1
  have ee0 : e0 = [(2, a)] := List.append_cancel_left (p0.symm.trans hn)
  subst ee0
  obtain ⟨l1, e1, p1, q1⟩ := h
  have ee : e1 = es := List.append_cancel_left (p1.symm.trans he)
  subst ee
  refine ⟨by omega, [(2, a)] ++ (e1 ++ [(3, a)]), by rw [h4, p1, p0]; simp, fun S hS => ?_⟩
  have hz0 : ∀ x, [(2, a)].foldl (cev t K V cnt) S = .inr x → x.2.2 = a := by
    intro x hx
    cases S with
    | inl y => cases hx
    | inr y =>
      have hx2 : cev t K V cnt (.inr y) (2, a) = .inr x := hx
      rw [cev_r y (show (2 : Nat) ≠ 3 by decide)] at hx2
      by_cases q : (fauE t K V cnt (2, a) y.1 y.2.1).1 = 0
      · rw [if_pos q] at hx2
        cases hx2
        rfl
      · rw [if_neg q] at hx2
        cases hx2
  have hz := fold_lt (t := t) (K := K) (V := V) (cnt := cnt) e1 _ hk hz0
  rw [show s3.1 - s.1 = (s1.1 - s.1) + ((s2.1 - s1.1) + 1) by omega, scR_add, show s.1 + (s1.1 - s.1) = s1.1 by omega, q0, scR_add, show s1.1 + (s2.1 - s1.1) = s2.1 by omega, q1, scR, scR, List.foldl_append, List.foldl_append]
  generalize e1.foldl (cev t K V cnt) ([(2, a)].foldl (cev t K V cnt) S) = T at hz
  cases T with
  | inl x => exact ⟨rfl, fun y hy => by cases hy⟩
  | inr x =>
    have hx := hz x rfl
    constructor
    · show (if K s2.1 = 2 then _ else if K s2.1 = 59 ∧ 0 < x.2.2 then _ else _) = cev t K V cnt (.inr x) (3, a)
      rw [cev_3, if_neg (by omega), if_pos (by omega), hx]
    · intro y hy
      have hy2 : cev t K V cnt (.inr x) (3, a) = .inr y := hy
      rw [cev_3] at hy2
      cases hy2
      rfl
theorem gS_numsL : ∀ (f : Nat) (s : GS), gev2 (numsL K f s) (fun s2 => gs1 t K V cnt s s2)
  | 0, s => fun s2 e => by cases e; exact gs1.refl s
  | f + 1, s => by
    rw [numsL]
    split
    · rename_i hk
      exact gev2_gb (gs1_ps (t := t) (K := K) (V := V) (cnt := cnt) s (by omega) (by omega)) (fun s1 h1 => gev2_gb (gS_tk (t := t) (K := K) (V := V) (cnt := cnt) s1 (by decide) (by decide)) (fun s2 h2 s3 e => (h1.1.trans h2.1).trans (gS_numsL f s2 s3 e)))
    · intro s2 e; cases e; exact gs1.refl s
theorem gS_numsF (s : GS) : gev2 (numsF K s) (fun s2 => gs1 t K V cnt s s2) := gev2_gb (gS_tk (t := t) (K := K) (V := V) (cnt := cnt) s (by decide) (by decide)) (fun s1 h1 s2 e => h1.1.trans (gS_numsL 300 s1 s2 e))
theorem gx_evs {s s2 : GS} (h : gx s s2) : ∃ es, s2.2.2 = s.2.2 ++ es ∧ ∀ e ∈ es, e.1 ≠ 2 ∧ e.1 ≠ 3 := by
  obtain ⟨-, ⟨es, e1, e2⟩, -⟩ := h
  exact ⟨es, e1, fun e he => by have := e2 e he; omega⟩
theorem gT_tn (s : GS) {g : Nat} (hg : (g = 0 ∧ K (s.1 - 1) = 4) ∨ (g = 2 ∧ K (s.1 - 1) = 6) ∨ (g = 1 ∧ K (s.1 - 1) = 5)) : gev2 (tkF K 2 (gvF g s.1 s)) (fun s2 => gs1 t K V cnt s s2 ∧ s2.1 = s.1 + 1 ∧ s2.2.2 = s.2.2 ++ [(g, s.1)]) := fun s2 e => by
  have h := gS_tn (t := t) (K := K) (V := V) (cnt := cnt) s (by rcases hg with q | q | q; exact Or.inl q; exact Or.inr (Or.inl q); exact Or.inr (Or.inr (Or.inl q))) s2 e
  exact ⟨h.1, h.2.1, by rw [(gx_tk 2 _ s2 e).2.2]; rfl⟩
theorem gT_tk {k : Nat} (s : GS) (h2 : k ≠ 2) (h59 : k ≠ 59) : gev2 (tkF K k s) (fun s2 => gs1 t K V cnt s s2 ∧ s2.1 = s.1 + 1 ∧ s2.2 = s.2 ∧ K s.1 = k) := fun s2 e => by
  have h := gS_tk (t := t) (K := K) (V := V) (cnt := cnt) s h2 h59 s2 e
  exact ⟨h.1, h.2.1, (gx_tk k s s2 e).2.2, h.2.2⟩
theorem gT_59 (s : GS) : gev2 (tkF K 59 s) (fun s2 => K s.1 = 59 ∧ s2.1 = s.1 + 1 ∧ s2.2 = s.2) := fun s2 e => ⟨(tkF_ok e).1, (gx_tk 59 s s2 e).2.1, (gx_tk 59 s s2 e).2.2⟩
theorem gT_ex (s : GS) (ho : okp K s.1) : gev2 (exprF K s) (fun s2 => gs1 t K V cnt s s2 ∧ ∃ es, s2.2.2 = s.2.2 ++ es ∧ ∀ e ∈ es, e.1 ≠ 2 ∧ e.1 ≠ 3) := fun s2 e => ⟨(gS_expr s ho s2 e).1, gx_evs (gX_expr s s2 e)⟩
theorem gS_tell (c : CT) (s : GS) : gev2 (tellF K c s) (fun s2 => gs2 t K V cnt s s2) := by
  have pre : K s.1 ≠ 2 → K s.1 ≠ 59 → ∀ (p : Prop) [Decidable p], gev2 (if p then Sum.inl (2, s.1) else psF s : GR) (fun s1 => gs1 t K V cnt s s1 ∧ s1.1 = s.1 + 1 ∧ s1.2 = s.2) := by
    intro h2 h59 p _
    split
    · intro s2 e; cases e
    · exact fun s2 e => ⟨(gs1_ps s h2 h59 s2 e).1, (psF_ok e).1, (psF_ok e).2.2⟩
  unfold tellF
  by_cases k4 : K s.1 = 4
  · rw [if_pos k4]
    refine gev2_gb (pre (by omega) (by omega) _) (fun s1 h1 => gev2_gb (gT_tn (t := t) (K := K) (V := V) (cnt := cnt) (g := 0) s1 (by rw [h1.2.1, show s.1 + 1 - 1 = s.1 by omega]; omega)) (fun s2 h2 => gev2_gb (gT_59 s2) (fun s3 h3 s4 e => ?_)))
    cases e
    exact gs2_semi (h1.1.trans h2.1) (es := [(0, s1.1)]) (by rw [h2.2.2, h1.2.2]) (fun e he => by rw [List.mem_singleton.mp he]; exact ⟨by show (0 : Nat) ≠ 2; decide, by show (0 : Nat) ≠ 3; decide⟩) h3.1 h3.2.1 (by rw [h3.2.2])
  by_cases k5 : K s.1 = 5
  · rw [if_neg k4, if_pos k5]
    refine gev2_gb (pre (by omega) (by omega) _) (fun s1 h1 => gev2_gb (gT_tn (t := t) (K := K) (V := V) (cnt := cnt) (g := 1) s1 (by rw [h1.2.1, show s.1 + 1 - 1 = s.1 by omega]; omega)) (fun s2 h2 => gev2_gb (gT_tk (t := t) (K := K) (V := V) (cnt := cnt) s2 (by decide) (by decide)) (fun s3 h3 => gev2_gb (Q := fun s4 => gs1 t K V cnt s3 s4 ∧ s4.2 = s3.2) (fun s4 e4 => ⟨gS_numsF s3 s4 e4, gN_numsF s3 s4 e4⟩) (fun s4 h4 => gev2_gb (gT_59 s4) (fun s5 h5 s6 e => ?_)))))
    cases e
    exact gs2_semi (((h1.1.trans h2.1).trans h3.1).trans h4.1) (es := [(1, s1.1)]) (by rw [h4.2, h3.2.2.1, h2.2.2, h1.2.2]) (fun e he => by rw [List.mem_singleton.mp he]; exact ⟨by show (1 : Nat) ≠ 2; decide, by show (1 : Nat) ≠ 3; decide⟩) h5.1 h5.2.1 (by rw [h5.2.2])
  by_cases k6 : K s.1 = 6
  · rw [if_neg k4, if_neg k5, if_pos k6]
    refine gev2_gb (Q := fun s1 => gs1 t K V cnt s s1 ∧ s1.1 = s.1 + 1 ∧ s1.2 = s.2) (fun s1 e1 => ⟨(gs1_ps s (by omega) (by omega) s1 e1).1, (psF_ok e1).1, (psF_ok e1).2.2⟩) (fun s1 h1 => gev2_gb (gT_tn (t := t) (K := K) (V := V) (cnt := cnt) (g := 2) s1 (by rw [h1.2.1, show s.1 + 1 - 1 = s.1 by omega]; omega)) (fun s2 h2 => gev2_gb (gT_tk (t := t) (K := K) (V := V) (cnt := cnt) s2 (by decide) (by decide)) (fun s3 h3 => gev2_gb (gT_ex (t := t) (V := V) (cnt := cnt) s3 (okp_of (i := s2.1) (by omega) h3.2.1)) (fun s4 h4 => gev2_gb (gT_59 s4) (fun s5 h5 s6 e => ?_)))))
    cases e
    obtain ⟨es, x1, x2⟩ := h4.2
    refine gs2_let (a := s.1 + 1) (by omega) ((h1.1.trans h2.1).trans h3.1) (by rw [h3.2.2.1, h2.2.2, h1.2.2, h1.2.1]) h4.1 x1 x2 h5.1 (by show s5.1 = _; exact h5.2.1) ?_
    show s5.2.2 ++ [(3, s.1 + 1)] = _
    rw [h5.2.2]
  by_cases k7 : K s.1 = 7
  · rw [if_neg k4, if_neg k5, if_neg k6, if_pos k7]
    refine gev2_gb (pre (by omega) (by omega) _) (fun s1 h1 => gev2_gb (gT_ex (t := t) (V := V) (cnt := cnt) s1 (okp_of (i := s.1) (by omega) h1.2.1)) (fun s2 h2 => gev2_gb (gT_59 s2) (fun s3 h3 s4 e => ?_)))
    cases e
    obtain ⟨es, x1, x2⟩ := h2.2
    exact gs2_semi (s3 := wrF 7 s.1 s3) (h1.1.trans h2.1) (es := es) (by rw [x1, h1.2.2]) x2 h3.1 h3.2.1 (by show s3.2.2 = _; rw [h3.2.2])
  · rw [if_neg k4, if_neg k5, if_neg k6, if_neg k7]
    intro s2 e; cases e
theorem gS_tells : ∀ (f : Nat) (c : CT) (s : GS), gev2 (tellsL K f c s) (fun s2 => gs2 t K V cnt s s2)
  | 0, c, s => fun s2 e => by cases e; exact gs2.refl s
  | f + 1, c, s => by
    rw [tellsL]
    split
    · intro s2 e; cases e; exact gs2.refl s
    · exact gev2_gb (gS_tell (t := t) (V := V) (cnt := cnt) c s) (fun s1 h1 s2 e => h1.trans (gS_tells f _ s1 s2 e))
/-- a first token is no name and no ';' -/
theorem gram_0 {s : GS} (h : gramF K = .inr s) (h1 : 0 < s.1) : K 0 ≠ 2 ∧ K 0 ≠ 59 := by
  unfold gramF at h
  rw [tellsL] at h
  by_cases k0 : K 0 = 0
  · omega
  · have h2 : gb (tellF K (0, 0, 0) (0, [], [])) (tellsL K 300 (ctF (K 0) (0, 0, 0))) = .inr s := by
      rw [if_neg k0] at h
      exact h
    refine Decidable.byContradiction (fun q => ?_)
    have e : tellF K (0, 0, 0) (0, [], []) = .inl (1, 0) := by
      unfold tellF
      show (if K 0 = 4 then _ else if K 0 = 5 then _ else if K 0 = 6 then _ else if K 0 = 7 then _ else _) = _
      rw [if_neg (by omega), if_neg (by omega), if_neg (by omega), if_neg (by omega)]
    rw [gb_no e] at h2
    cases h2
theorem scn_ev {s : GS} (h : gramF K = .inr s) : scnF t K V s.1 = scE (s.2.2.foldl (cev t K V s.1) (.inr ([], 0, 0))) := by
  obtain ⟨-, es, e1, e2⟩ := gS_tells (t := t) (K := K) (V := V) (cnt := s.1) 301 (0, 0, 0) (0, [], []) s h
  have e3 : s.2.2 = es := by rw [e1]; rfl
  obtain ⟨x, -⟩ := e2 (.inr ([], 0, 0)) (fun y hy => by cases hy; rfl)
  rw [e3, ← x, scnF, scnL_R]
  show _ = scE (scR t K V s.1 (s.1 - 0) 0 (.inr ([], 0, 0)))
  by_cases q : s.1 = 0
  · generalize s.1 = n at q
    subst q
    rfl
  · have h0 := gram_0 h (by omega)
    rw [show s.1 - 0 = s.1 - 1 + 1 by omega, scR, sct_no _ h0.1 h0.2]
end SCANT
