/-! the class' scan over the tokens is a fold over the events -/
abbrev SCS : Type := (Nat × Nat) ⊕ (List NE × Nat × Nat)
def sct (t : Nat) (K V : Nat → Nat) (cnt : Nat) (S : SCS) (i : Nat) : SCS := match S with
  | .inl e => .inl e
  | .inr s => if K i = 2 then (if (fauF t K V cnt i s.1 s.2.1).1 = 0 then .inr ((fauF t K V cnt i s.1 s.2.1).2.1, (fauF t K V cnt i s.1 s.2.1).2.2, if K (i - 1) = 6 then i else s.2.2) else .inl ((fauF t K V cnt i s.1 s.2.1).1, i)) else if K i = 59 ∧ 0 < s.2.2 then .inr (s.1 ++ [(V s.2.2, 6, (s.2.2 : Int))], s.2.1, 0) else .inr s
def scR (t : Nat) (K V : Nat → Nat) (cnt : Nat) : Nat → Nat → SCS → SCS
  | 0, _, S => S
  | f + 1, i, S => scR t K V cnt f (i + 1) (sct t K V cnt S i)
def scE (S : SCS) : (Nat × Nat) ⊕ (List NE × Nat) := match S with
  | .inl e => .inl e
  | .inr s => .inr (s.1, s.2.1)
section SCAN
variable {t : Nat} {K V : Nat → Nat} {cnt : Nat}
theorem scR_inl (e : Nat × Nat) : ∀ f i, scR t K V cnt f i (.inl e) = .inl e
  | 0, _ => rfl
  | f + 1, i => by rw [scR]; exact scR_inl e f (i + 1)
theorem scnL_R : ∀ (f i : Nat) (E : List NE) (ins lt : Nat), scnL t K V cnt f i E ins lt = scE (scR t K V cnt f i (.inr (E, ins, lt)))
  | 0, i, E, ins, lt => rfl
  | f + 1, i, E, ins, lt => by
    rw [scnL, scR, sct]
    by_cases k2 : K i = 2
    · simp only [if_pos k2]
      by_cases h0 : (fauF t K V cnt i E ins).1 = 0
      · simp only [if_pos h0]
        exact scnL_R f (i + 1) _ _ _
      · simp only [if_neg h0]
        rw [scR_inl]
        rfl
    · simp only [if_neg k2]
      by_cases k : K i = 59 ∧ 0 < lt
      · simp only [if_pos k]
        exact scnL_R f (i + 1) _ _ _
      · simp only [if_neg k]
        exact scnL_R f (i + 1) _ _ _
theorem scR_add : ∀ (f g i : Nat) (S : SCS), scR t K V cnt (f + g) i S = scR t K V cnt g (i + f) (scR t K V cnt f i S)
  | 0, g, i, S => by rw [Nat.zero_add]; rfl
  | f + 1, g, i, S => by
    rw [show f + 1 + g = f + g + 1 by omega, scR, scR, scR_add f g (i + 1), show i + 1 + f = i + (f + 1) by omega]
/-- the same, of an event -/
def fauE (t : Nat) (K V : Nat → Nat) (cnt : Nat) (e : Nat × Nat) (E : List NE) (ins : Nat) : Nat × List NE × Nat :=
  if e.1 = 0 then (if fnd (V e.2) E < E.length then 3 else 0, E ++ [(V e.2, 4, ((40 + ins : Nat) : Int))], ins + 1)
  else if e.1 = 2 then (if fnd (V e.2) E < E.length then 3 else 0, E, ins)
  else if e.1 = 1 then (if fnd (V e.2) E < E.length then 3 else if prm t ∧ nbF K cnt e.2 = t then 0 else 5, E ++ [(V e.2, 5, (e.2 : Int))], ins)
  else if e.1 = 4 then (if fnd (V e.2) E < E.length ∧ (E.getD (fnd (V e.2) E) (0, 0, 0)).2.1 = 5 then 0 else 4, E, ins)
  else (if fnd (V e.2) E < E.length ∧ (E.getD (fnd (V e.2) E) (0, 0, 0)).2.1 ≠ 5 then 0 else 4, E, ins)
def cev (t : Nat) (K V : Nat → Nat) (cnt : Nat) (S : SCS) (e : Nat × Nat) : SCS := match S with
  | .inl x => .inl x
  | .inr s => if e.1 = 3 then .inr (s.1 ++ [(V e.2, 6, (e.2 : Int))], s.2.1, 0) else if (fauE t K V cnt e s.1 s.2.1).1 = 0 then .inr ((fauE t K V cnt e s.1 s.2.1).2.1, (fauE t K V cnt e s.1 s.2.1).2.2, if e.1 = 2 then e.2 else s.2.2) else .inl ((fauE t K V cnt e s.1 s.2.1).1, e.2)
def okp (K : Nat → Nat) (i : Nat) : Prop := K (i - 1) ≠ 4 ∧ K (i - 1) ≠ 5 ∧ K (i - 1) ≠ 6 ∧ K (i - 1) ≠ 9
theorem sct_ev (S : SCS) {i g : Nat} (h2 : K i = 2) (hg : (g = 0 ∧ K (i - 1) = 4) ∨ (g = 2 ∧ K (i - 1) = 6) ∨ (g = 1 ∧ K (i - 1) = 5) ∨ (g = 4 ∧ K (i - 1) = 9) ∨ (g = 5 ∧ okp K i)) : sct t K V cnt S i = cev t K V cnt S (g, i) := by
  cases S with
  | inl e => rfl
  | inr s =>
    have hf : fauF t K V cnt i s.1 s.2.1 = fauE t K V cnt (g, i) s.1 s.2.1 := by
      unfold fauF fauE okp at *
      rcases hg with ⟨h, k⟩ | ⟨h, k⟩ | ⟨h, k⟩ | ⟨h, k⟩ | ⟨h, k⟩
      · subst h; rw [if_pos k, if_pos rfl]
      · subst h; rw [if_neg (by omega), if_pos k, if_neg (show ¬ (2 : Nat) = 0 by decide), if_pos rfl]
      · subst h; rw [if_neg (by omega), if_neg (by omega), if_pos k, if_neg (show ¬ (1 : Nat) = 0 by decide), if_neg (show ¬ (1 : Nat) = 2 by decide), if_pos rfl]
      · subst h; rw [if_neg (by omega), if_neg (by omega), if_neg (by omega), if_pos k, if_neg (show ¬ (4 : Nat) = 0 by decide), if_neg (show ¬ (4 : Nat) = 2 by decide), if_neg (show ¬ (4 : Nat) = 1 by decide), if_pos rfl]
      · subst h; rw [if_neg (by omega), if_neg (by omega), if_neg (by omega), if_neg (by omega), if_neg (show ¬ (5 : Nat) = 0 by decide), if_neg (show ¬ (5 : Nat) = 2 by decide), if_neg (show ¬ (5 : Nat) = 1 by decide), if_neg (show ¬ (5 : Nat) = 4 by decide)]
    have h6 : (K (i - 1) = 6) = (g = 2) := by
      unfold okp at hg
      apply propext
      constructor <;> intro q <;> omega
    have h3 : ¬ g = 3 := by omega
    show (if K i = 2 then _ else _) = (if g = 3 then _ else _)
    rw [if_pos h2, if_neg h3, hf]
    simp only [h6]
theorem sct_no (S : SCS) {i : Nat} (h2 : K i ≠ 2) (h59 : K i ≠ 59) : sct t K V cnt S i = S := by
  cases S with
  | inl e => rfl
  | inr s =>
    show (if K i = 2 then _ else _) = _
    rw [if_neg h2, if_neg (fun q => h59 q.1)]
def gs1 (t : Nat) (K V : Nat → Nat) (cnt : Nat) (s s2 : GS) : Prop := s.1 ≤ s2.1 ∧ ∃ es, s2.2.2 = s.2.2 ++ es ∧ ∀ S, scR t K V cnt (s2.1 - s.1) s.1 S = es.foldl (cev t K V cnt) S
theorem gs1.trans {a b c : GS} (h : gs1 t K V cnt a b) (h2 : gs1 t K V cnt b c) : gs1 t K V cnt a c := by
  obtain ⟨l1, e1, p1, q1⟩ := h
  obtain ⟨l2, e2, p2, q2⟩ := h2
  refine ⟨by omega, e1 ++ e2, by rw [p2, p1, List.append_assoc], fun S => ?_⟩
  rw [show c.1 - a.1 = (b.1 - a.1) + (c.1 - b.1) by omega, scR_add, show a.1 + (b.1 - a.1) = b.1 by omega, q1, q2, List.foldl_append]
theorem gs1.refl (s : GS) : gs1 t K V cnt s s := ⟨Nat.le_refl _, [], by simp, fun S => by rw [Nat.sub_self]; rfl⟩
theorem gs1_wr {a b : GS} (h : gs1 t K V cnt a b) (o x : Nat) : gs1 t K V cnt a (wrF o x b) := h
theorem gs1_wl {a b : GS} {o x : Nat} (h : gs1 t K V cnt (wrF o x a) b) : gs1 t K V cnt a b := h
/-- a token that tells nothing of a name -/
theorem gs1_ps (s : GS) (h2 : K s.1 ≠ 2) (h59 : K s.1 ≠ 59) : gev2 (psF s) (fun s2 => gs1 t K V cnt s s2 ∧ s2.1 = s.1 + 1) := fun s2 e => by
  have h := psF_ok e
  refine ⟨⟨by omega, [], by rw [h.2.2]; simp, fun S => ?_⟩, h.1⟩
  rw [h.1, show s.1 + 1 - s.1 = 1 by omega, scR, scR, sct_no S h2 h59]
  rfl
/-- a name, with its event -/
theorem gs1_nm (s : GS) {g : Nat} (h2 : K s.1 = 2) (hg : (g = 0 ∧ K (s.1 - 1) = 4) ∨ (g = 2 ∧ K (s.1 - 1) = 6) ∨ (g = 1 ∧ K (s.1 - 1) = 5) ∨ (g = 4 ∧ K (s.1 - 1) = 9) ∨ (g = 5 ∧ okp K s.1)) : gev2 (psF (gvF g s.1 s)) (fun s2 => gs1 t K V cnt s s2 ∧ s2.1 = s.1 + 1) := fun s2 e => by
  have h := psF_ok e
  have h1 : s2.1 = s.1 + 1 := h.1
  refine ⟨⟨by omega, [(g, s.1)], by rw [h.2.2]; rfl, fun S => ?_⟩, h1⟩
  rw [h1, show s.1 + 1 - s.1 = 1 by omega, scR, scR, sct_ev S h2 hg]
  rfl
theorem okp_of {i : Nat} (h : K i ≠ 4 ∧ K i ≠ 5 ∧ K i ≠ 6 ∧ K i ≠ 9) {j : Nat} (hj : j = i + 1) : okp K j := by
  subst hj
  exact h
def gSp (t : Nat) (K V : Nat → Nat) (cnt : Nat) (F : GS → GR) : Prop := ∀ s : GS, okp K s.1 → gev2 (F s) (fun s2 => gs1 t K V cnt s s2 ∧ okp K s2.1)
theorem gS_prodL {u : GS → GR} (hu : gSp t K V cnt u) : ∀ (f : Nat) (s : GS), okp K s.1 → gev2 (prodL K u f s) (fun s2 => gs1 t K V cnt s s2 ∧ okp K s2.1)
  | 0, s, ho => fun s2 e => by cases e; exact ⟨gs1.refl s, ho⟩
  | f + 1, s, ho => by
    rw [prodL]
    split
    · rename_i hk
      refine gev2_gb (gs1_ps (t := t) (K := K) (V := V) (cnt := cnt) s (by omega) (by omega)) (fun s1 h1 => gev2_gb (hu s1 (okp_of (i := s.1) (by omega) h1.2)) (fun s2 h2 s3 e => ?_))
      have h3 := gS_prodL hu f (wrF 42 s2.1 s2) h2.2 s3 e
      exact ⟨(h1.1.trans h2.1).trans h3.1, h3.2⟩
    · intro s2 e; cases e; exact ⟨gs1.refl s, ho⟩
theorem gS_prodF {u : GS → GR} (hu : gSp t K V cnt u) : gSp t K V cnt (prodF K u) := fun s ho => gev2_gb (hu s ho) (fun s1 h1 s2 e => ⟨h1.1.trans (gS_prodL hu 300 s1 h1.2 s2 e).1, (gS_prodL hu 300 s1 h1.2 s2 e).2⟩)
theorem gS_sumL {u : GS → GR} (hu : gSp t K V cnt u) : ∀ (f : Nat) (s : GS), okp K s.1 → gev2 (sumL K u f s) (fun s2 => gs1 t K V cnt s s2 ∧ okp K s2.1)
  | 0, s, ho => fun s2 e => by cases e; exact ⟨gs1.refl s, ho⟩
  | f + 1, s, ho => by
    rw [sumL]
    split
    · rename_i hk
      refine gev2_gb (gs1_ps (t := t) (K := K) (V := V) (cnt := cnt) s (by omega) (by omega)) (fun s1 h1 => gev2_gb (hu s1 (okp_of (i := s.1) (by omega) h1.2)) (fun s2 h2 s3 e => ?_))
      have h3 := gS_sumL hu f (wrF (K s.1) s2.1 s2) h2.2 s3 e
      exact ⟨(h1.1.trans h2.1).trans h3.1, h3.2⟩
    · intro s2 e; cases e; exact ⟨gs1.refl s, ho⟩
theorem gS_sumF {u : GS → GR} (hu : gSp t K V cnt u) : gSp t K V cnt (sumF K u) := fun s ho => gev2_gb (hu s ho) (fun s1 h1 s2 e => ⟨h1.1.trans (gS_sumL hu 300 s1 h1.2 s2 e).1, (gS_sumL hu 300 s1 h1.2 s2 e).2⟩)
theorem gS_tk {k : Nat} (s : GS) (h2 : k ≠ 2) (h59 : k ≠ 59) : gev2 (tkF K k s) (fun s2 => gs1 t K V cnt s s2 ∧ s2.1 = s.1 + 1 ∧ K s.1 = k) := fun s2 e => by
  have h := tkF_ok e
  have h3 := gs1_ps (t := t) (K := K) (V := V) (cnt := cnt) s (by rw [h.1]; exact h2) (by rw [h.1]; exact h59) s2 h.2
  exact ⟨h3.1, h3.2, h.1⟩
theorem gS_tn (s : GS) {g : Nat} (hg : (g = 0 ∧ K (s.1 - 1) = 4) ∨ (g = 2 ∧ K (s.1 - 1) = 6) ∨ (g = 1 ∧ K (s.1 - 1) = 5) ∨ (g = 4 ∧ K (s.1 - 1) = 9) ∨ (g = 5 ∧ okp K s.1)) : gev2 (tkF K 2 (gvF g s.1 s)) (fun s2 => gs1 t K V cnt s s2 ∧ s2.1 = s.1 + 1 ∧ K s.1 = 2) := fun s2 e => by
  have h := tkF_ok e
  have h3 := gs1_nm (t := t) (K := K) (V := V) (cnt := cnt) s h.1 hg s2 h.2
  exact ⟨h3.1, h3.2, h.1⟩
theorem gS_unit : ∀ d, gSp t K V cnt (unitF K d)
  | d => fun s ho => by
    by_cases k2 : K s.1 = 2
    · rw [unitF_v k2]
      intro s2 e
      have h := gs1_nm (t := t) (K := K) (V := V) (cnt := cnt) (g := 5) (wrF 2 s.1 s) k2 (by right; right; right; right; exact ⟨rfl, ho⟩) s2 e
      exact ⟨h.1, okp_of (i := s.1) (by omega) h.2⟩
    by_cases k3 : K s.1 = 3
    · rw [unitF_i k3]
      intro s2 e
      have h := gs1_ps (t := t) (K := K) (V := V) (cnt := cnt) (wrF 3 s.1 s) k2 (by show K s.1 ≠ 59; omega) s2 e
      exact ⟨h.1, okp_of (i := s.1) (by omega) h.2⟩
    have pre : K s.1 ≠ 59 → gev2 (if d = 0 then Sum.inl (2, s.1) else psF s : GR) (fun s1 => (gs1 t K V cnt s s1 ∧ s1.1 = s.1 + 1) ∧ d ≠ 0) := by
      intro h59
      by_cases hd : d = 0
      · rw [if_pos hd]; intro s2 e; cases e
      · rw [if_neg hd]; exact fun s2 e => ⟨gs1_ps s k2 h59 s2 e, hd⟩
    by_cases k40 : K s.1 = 40
    · rw [unitF_p k40]
      refine gev2_gb (pre (by omega)) (fun s1 h1 => ?_)
      have hd := h1.2
      exact gev2_gb (gS_sumF (gS_prodF (gS_unit (d - 1))) s1 (okp_of (i := s.1) (by omega) h1.1.2)) (fun s2 h2 => gev2_gb (gS_tk (t := t) (K := K) (V := V) (cnt := cnt) s2 (by decide) (by decide)) (fun s3 h3 s4 e => by cases e; exact ⟨(h1.1.1.trans h2.1).trans h3.1, okp_of (i := s2.1) (by omega) h3.2.1⟩))
    by_cases k8 : K s.1 = 8
    · rw [unitF_c k8]
      refine gev2_gb (pre (by omega)) (fun s1 h1 => ?_)
      have hd := h1.2
      exact gev2_gb (gS_unit (d - 1) s1 (okp_of (i := s.1) (by omega) h1.1.2)) (fun s2 h2 => gev2_gb (gS_unit (d - 1) s2 h2.2) (fun s3 h3 => gev2_gb (gS_unit (d - 1) s3 h3.2) (fun s4 h4 s5 e => by
        cases e
        exact ⟨((h1.1.1.trans h2.1).trans h3.1).trans h4.1, h4.2⟩)))
    by_cases k9 : K s.1 = 9
    · rw [unitF_a k9]
      refine gev2_gb (pre (by omega)) (fun s1 h1 => ?_)
      have hd := h1.2
      refine gev2_gb (gS_tn (t := t) (K := K) (V := V) (cnt := cnt) (g := 4) s1 (by rw [h1.1.2, show s.1 + 1 - 1 = s.1 by omega]; omega)) (fun s2 h2 => gev2_gb (gS_unit (d - 1) s2 (okp_of (i := s1.1) (by omega) h2.2.1)) (fun s3 h3 s5 e => ?_))
      cases e
      exact ⟨(h1.1.1.trans h2.1).trans h3.1, h3.2⟩
    · rw [unitF_n (by omega)]
      intro s2 e; cases e
  termination_by d => d
  decreasing_by all_goals omega
theorem gS_expr : gSp t K V cnt (exprF K) := gS_sumF (gS_prodF (gS_unit 6))
end SCAN
