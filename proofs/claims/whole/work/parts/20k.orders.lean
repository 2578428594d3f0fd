/-! the orders of an expression, and its events -/
def go1 (s s2 : GS) : Prop := ∃ xs es, s2.2.1 = s.2.1 ++ xs ∧ s2.2.2 = s.2.2 ++ es ∧ (∀ x ∈ xs, x.1 ∈ [2, 3, 8, 9, 42, 43, 45] ∧ (x.1 = 2 → (5, x.2) ∈ es) ∧ (x.1 = 9 → (4, x.2) ∈ es)) ∧ ∀ e ∈ es, e.1 = 4 ∨ e.1 = 5
theorem go1.refl (s : GS) : go1 s s := ⟨[], [], by simp, by simp, fun x hx => absurd hx List.not_mem_nil, fun x hx => absurd hx List.not_mem_nil⟩
theorem go1_same {s s2 : GS} (h : s2.2 = s.2) : go1 s s2 := ⟨[], [], by rw [h]; simp, by rw [h]; simp, fun x hx => absurd hx List.not_mem_nil, fun x hx => absurd hx List.not_mem_nil⟩
theorem go1.trans {a b c : GS} (h1 : go1 a b) (h2 : go1 b c) : go1 a c := by
  obtain ⟨xs, es, x1, x2, x3, x4⟩ := h1
  obtain ⟨ys, fs, y1, y2, y3, y4⟩ := h2
  refine ⟨xs ++ ys, es ++ fs, by rw [y1, x1, List.append_assoc], by rw [y2, x2, List.append_assoc], fun x hx => ?_, fun x hx => ?_⟩
  · rcases List.mem_append.mp hx with q | q
    · exact ⟨(x3 x q).1, fun z => List.mem_append_left _ ((x3 x q).2.1 z), fun z => List.mem_append_left _ ((x3 x q).2.2 z)⟩
    · exact ⟨(y3 x q).1, fun z => List.mem_append_right _ ((y3 x q).2.1 z), fun z => List.mem_append_right _ ((y3 x q).2.2 z)⟩
  · rcases List.mem_append.mp hx with q | q
    · exact x4 x q
    · exact y4 x q
theorem go1_wr (s : GS) {o : Nat} (a : Nat) (h : o ∈ [3, 8, 42, 43, 45]) : go1 s (wrF o a s) := by
  refine ⟨[(o, a)], [], rfl, by show s.2.2 = _; simp, fun x hx => ?_, fun x hx => absurd hx List.not_mem_nil⟩
  rw [List.mem_singleton.mp hx]
  show o ∈ [2, 3, 8, 9, 42, 43, 45] ∧ (o = 2 → _) ∧ (o = 9 → _)
  simp only [List.mem_cons, List.not_mem_nil, or_false] at h ⊢
  exact ⟨by omega, fun z => by omega, fun z => by omega⟩
theorem go1_val (s : GS) (a : Nat) : go1 s (gvF 5 a (wrF 2 a s)) := by
  refine ⟨[(2, a)], [(5, a)], rfl, rfl, fun x hx => ?_, fun x hx => ?_⟩
  · rw [List.mem_singleton.mp hx]
    exact ⟨List.mem_cons_self, fun _ => List.mem_cons_self, fun z => absurd z (by show ¬ (2 : Nat) = 9; decide)⟩
  · rw [List.mem_singleton.mp hx]
    exact Or.inr rfl
theorem go1_ask {s s2 : GS} {a : Nat} (h : go1 (gvF 4 a s) s2) : go1 s (wrF 9 a s2) := by
  obtain ⟨xs, es, x1, x2, x3, x4⟩ := h
  refine ⟨xs ++ [(9, a)], [(4, a)] ++ es, ?_, ?_, fun x hx => ?_, fun x hx => ?_⟩
  · show s2.2.1 ++ [(9, a)] = _
    rw [x1]
    show s.2.1 ++ xs ++ [(9, a)] = _
    rw [List.append_assoc]
  · show s2.2.2 = _
    rw [x2]
    show s.2.2 ++ [(4, a)] ++ es = _
    rw [List.append_assoc]
  · rcases List.mem_append.mp hx with q | q
    · exact ⟨(x3 x q).1, fun z => List.mem_append_right _ ((x3 x q).2.1 z), fun z => List.mem_append_right _ ((x3 x q).2.2 z)⟩
    · rw [List.mem_singleton.mp q]
      exact ⟨by show (9 : Nat) ∈ _; decide, fun z => absurd z (by show ¬ (9 : Nat) = 2; decide), fun _ => List.mem_append_left _ List.mem_cons_self⟩
  · rcases List.mem_append.mp hx with q | q
    · rw [List.mem_singleton.mp q]; exact Or.inl rfl
    · exact x4 x q
section GOP
variable {K : Nat → Nat}
def gOp (F : GS → GR) : Prop := ∀ s : GS, gev2 (F s) (fun s2 => go1 s s2)
theorem gO_prodL {u : GS → GR} (hu : gOp u) : ∀ (f : Nat) (s : GS), gev2 (prodL K u f s) (fun s2 => go1 s s2)
  | 0, s => fun s2 e => by cases e; exact go1.refl s
  | f + 1, s => by
    rw [prodL]
    split
    · refine gev2_gb (gx_ps s) (fun s1 h1 => gev2_gb (hu s1) (fun s2 h2 s3 e => ?_))
      exact ((go1_same h1.2.2).trans (h2.trans (go1_wr s2 _ (by decide)))).trans (gO_prodL hu f _ s3 e)
    · intro s2 e; cases e; exact go1.refl s
theorem gO_prodF {u : GS → GR} (hu : gOp u) : gOp (prodF K u) := fun s => gev2_gb (hu s) (fun s1 h1 s2 e => h1.trans (gO_prodL hu 300 s1 s2 e))
theorem gO_sumL {u : GS → GR} (hu : gOp u) : ∀ (f : Nat) (s : GS), gev2 (sumL K u f s) (fun s2 => go1 s s2)
  | 0, s => fun s2 e => by cases e; exact go1.refl s
  | f + 1, s => by
    rw [sumL]
    split
    · rename_i hk
      refine gev2_gb (gx_ps s) (fun s1 h1 => gev2_gb (hu s1) (fun s2 h2 s3 e => ?_))
      refine ((go1_same h1.2.2).trans (h2.trans (go1_wr s2 _ ?_))).trans (gO_sumL hu f _ s3 e)
      rcases hk with k | k <;> rw [k] <;> decide
    · intro s2 e; cases e; exact go1.refl s
theorem gO_sumF {u : GS → GR} (hu : gOp u) : gOp (sumF K u) := fun s => gev2_gb (hu s) (fun s1 h1 s2 e => h1.trans (gO_sumL hu 300 s1 s2 e))
theorem gO_unit : ∀ d, gOp (unitF K d)
  | d => fun s => by
    by_cases k2 : K s.1 = 2
    · rw [unitF_v k2]
      exact fun s2 e => (go1_val s s.1).trans (go1_same (psF_ok e).2.2)
    by_cases k3 : K s.1 = 3
    · rw [unitF_i k3]
      exact fun s2 e => (go1_wr s _ (by decide)).trans (go1_same (psF_ok e).2.2)
    have pre : gev2 (if d = 0 then Sum.inl (2, s.1) else psF s : GR) (fun s1 => (s1.1 = s.1 + 1 ∧ s1.2 = s.2) ∧ d ≠ 0) := by
      by_cases hd : d = 0
      · rw [if_pos hd]; intro s2 e; cases e
      · rw [if_neg hd]; exact fun s2 e => ⟨⟨(psF_ok e).1, (psF_ok e).2.2⟩, hd⟩
    by_cases k40 : K s.1 = 40
    · rw [unitF_p k40]
      refine gev2_gb pre (fun s1 h1 => ?_)
      have hd := h1.2
      exact gev2_gb (gO_sumF (gO_prodF (gO_unit (d - 1))) s1) (fun s2 h2 => gev2_gb (gx_tk 41 s2) (fun s3 h3 s4 e => by cases e; exact ((go1_same h1.1.2).trans h2).trans (go1_same h3.2.2)))
    by_cases k8 : K s.1 = 8
    · rw [unitF_c k8]
      refine gev2_gb pre (fun s1 h1 => ?_)
      have hd := h1.2
      exact gev2_gb (gO_unit (d - 1) s1) (fun s2 h2 => gev2_gb (gO_unit (d - 1) s2) (fun s3 h3 => gev2_gb (gO_unit (d - 1) s3) (fun s4 h4 s5 e => by
        cases e
        exact ((((go1_same h1.1.2).trans h2).trans h3).trans h4).trans (go1_wr s4 _ (by decide)))))
    by_cases k9 : K s.1 = 9
    · rw [unitF_a k9]
      refine gev2_gb pre (fun s1 h1 => ?_)
      have hd := h1.2
      refine gev2_gb (gx_tk 2 (gvF 4 s1.1 s1)) (fun s2 h2 => gev2_gb (gO_unit (d - 1) s2) (fun s3 h3 s5 e => ?_))
      cases e
      have h4 : go1 (gvF 4 (s.1 + 1) s1) s3 := by
        rw [← h1.1.1]
        exact (go1_same h2.2.2).trans h3
      exact (go1_same h1.1.2).trans (go1_ask h4)
    · rw [unitF_n (by omega)]
      intro s2 e; cases e
  termination_by d => d
  decreasing_by all_goals omega
theorem gO_expr : gOp (exprF K) := gO_sumF (gO_prodF (gO_unit 6))
end GOP
