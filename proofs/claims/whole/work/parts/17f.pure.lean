/-! GRAMMAR (pure): what a going-through keeps -/
/-- from s to s2: tokens behind, orders and events added -/
def gst (s s2 : GS) : Prop := s.1 ≤ s2.1 ∧ s2.1 ≤ 300 ∧ s2.2.1.length + s.1 ≤ s.2.1.length + s2.1 ∧ ∃ xs, s2.2.1 = s.2.1 ++ xs ∧ ∀ x ∈ xs, x.2 ≤ s2.1 ∧ x.1 ≠ 6 ∧ x.1 ≠ 7 ∧ x.1 < 256
def gex (r : GR) (Q : GS → Prop) : Prop := match r with
  | .inl e => (e.1 = 1 ∨ e.1 = 2) ∧ e.2 ≤ 300
  | .inr s => Q s
theorem gex_gb {r : GR} {f : GS → GR} {Q Q2 : GS → Prop} (h : gex r Q) (hf : ∀ s, Q s → gex (f s) Q2) : gex (gb r f) Q2 := by
  cases r with
  | inl e => exact h
  | inr s => exact hf s h
theorem gex_mono {r : GR} {Q Q2 : GS → Prop} (h : gex r Q) (hf : ∀ s, Q s → Q2 s) : gex r Q2 := by
  cases r with
  | inl e => exact h
  | inr s => exact hf s h
theorem gst.refl {s : GS} (h : s.1 ≤ 300) : gst s s := ⟨Nat.le_refl _, h, Nat.le_refl _, [], by simp, fun x hx => absurd hx List.not_mem_nil⟩
theorem gst.trans {a b c : GS} (h1 : gst a b) (h2 : gst b c) : gst a c := by
  obtain ⟨a1, a2, a3, xs, a4, a5⟩ := h1
  obtain ⟨b1, b2, b3, ys, b4, b5⟩ := h2
  refine ⟨by omega, b2, by omega, xs ++ ys, by rw [b4, a4, List.append_assoc], fun x hx => ?_⟩
  rcases List.mem_append.mp hx with q | q
  · obtain ⟨q1, q2⟩ := a5 x q
    exact ⟨by omega, q2⟩
  · exact b5 x q
theorem gst_ev {s s2 : GS} (h : gst s s2) (g a : Nat) : gst s (gvF g a s2) := h
theorem gst_ev0 {s s2 : GS} {g a : Nat} (h : gst (gvF g a s) s2) : gst s s2 := h
/-- a token more, ready for an order more -/
def gup (s s2 : GS) : Prop := gst s s2 ∧ s.1 < s2.1
theorem gup_ps {s : GS} (h : s.1 ≤ 300) : gex (psF s) (fun s2 => gup s s2 ∧ s2.2 = s.2 ∧ s2.1 = s.1 + 1) := by
  unfold psF
  split
  · exact ⟨Or.inr rfl, h⟩
  · exact ⟨⟨⟨Nat.le_succ _, by show s.1 + 1 ≤ 300; omega, by show s.2.1.length + s.1 ≤ s.2.1.length + (s.1 + 1); omega, [], by simp, fun x hx => absurd hx List.not_mem_nil⟩, Nat.lt_succ_self _⟩, rfl, rfl⟩
theorem gup_tk {K : Nat → Nat} {k : Nat} {s : GS} (h : s.1 ≤ 300) : gex (tkF K k s) (fun s2 => gup s s2 ∧ s2.2 = s.2 ∧ s2.1 = s.1 + 1 ∧ K s.1 = k) := by
  unfold tkF
  split
  · exact gex_mono (gup_ps h) (fun s2 q => ⟨q.1, q.2.1, q.2.2, by assumption⟩)
  · exact ⟨Or.inl rfl, h⟩
theorem gup.trans {a b c : GS} (h1 : gup a b) (h2 : gup b c) : gup a c := ⟨h1.1.trans h2.1, by have := h1.2; have := h2.2; omega⟩
theorem gup.le {a b : GS} (h : gup a b) : b.1 ≤ 300 := h.1.2.1
/-- an order written with room for it -/
theorem gst_wr {s s2 : GS} {o a : Nat} (h : gst s s2) (hr : s2.2.1.length + s.1 + 1 ≤ s.2.1.length + s2.1) (ha : a ≤ s2.1) (h6 : o ≠ 6) (h7 : o ≠ 7) (h9 : o < 256) : gst s (wrF o a s2) := by
  obtain ⟨a1, a2, a3, xs, a4, a5⟩ := h
  refine ⟨a1, a2, ?_, xs ++ [(o, a)], ?_, fun x hx => ?_⟩
  · show (s2.2.1 ++ [(o, a)]).length + s.1 ≤ s.2.1.length + s2.1
    rw [List.length_append, List.length_singleton]; omega
  · show s2.2.1 ++ [(o, a)] = _
    rw [a4, List.append_assoc]
  · rcases List.mem_append.mp hx with q | q
    · exact a5 x q
    · rw [List.mem_singleton.mp q]; exact ⟨ha, h6, h7, h9⟩
section GPU
variable {K : Nat → Nat}
/-- what unit, product, sum keep -/
def gKp (F : GS → GR) : Prop := ∀ s : GS, s.1 ≤ 300 → gex (F s) (fun s2 => gup s s2)
theorem gup_after {a b c : GS} (h1 : gup a b) (h1n : b.2 = a.2) (h2 : gst b c) : c.2.1.length + a.1 + 1 ≤ a.2.1.length + c.1 := by
  obtain ⟨b1, b2, b3, -⟩ := h2
  have := h1.2
  rw [h1n] at b3
  omega
theorem gK_prodL {u : GS → GR} (hu : gKp u) : ∀ (f : Nat) (s : GS), s.1 ≤ 300 → gex (prodL K u f s) (fun s2 => gst s s2)
  | 0, s, h => gst.refl h
  | f + 1, s, h => by
    rw [prodL]
    split
    · refine gex_gb (gup_ps h) (fun s1 h1 => gex_gb (hu s1 h1.1.le) (fun s2 h2 => gex_mono (gK_prodL hu f _ ?_) (fun s3 h3 => ?_)))
      · exact h2.le
      · exact (gst_wr (h1.1.trans h2).1 (gup_after h1.1 h1.2.1 h2.1) (Nat.le_refl _) (by decide) (by decide) (by decide)).trans h3
    · exact gst.refl h
theorem gK_prodF {u : GS → GR} (hu : gKp u) : gKp (prodF K u) := fun s h => gex_gb (hu s h) (fun s1 h1 => gex_mono (gK_prodL hu 300 s1 h1.le) (fun s2 h2 => ⟨h1.1.trans h2, by have := h1.2; have := h2.1; omega⟩))
theorem gK_sumL {u : GS → GR} (hu : gKp u) : ∀ (f : Nat) (s : GS), s.1 ≤ 300 → gex (sumL K u f s) (fun s2 => gst s s2)
  | 0, s, h => gst.refl h
  | f + 1, s, h => by
    rw [sumL]
    split
    · rename_i hk
      refine gex_gb (gup_ps h) (fun s1 h1 => gex_gb (hu s1 h1.1.le) (fun s2 h2 => gex_mono (gK_sumL hu f _ ?_) (fun s3 h3 => ?_)))
      · exact h2.le
      · exact (gst_wr (h1.1.trans h2).1 (gup_after h1.1 h1.2.1 h2.1) (Nat.le_refl _) (by omega) (by omega) (by omega)).trans h3
    · exact gst.refl h
theorem gK_sumF {u : GS → GR} (hu : gKp u) : gKp (sumF K u) := fun s h => gex_gb (hu s h) (fun s1 h1 => gex_mono (gK_sumL hu 300 s1 h1.le) (fun s2 h2 => ⟨h1.1.trans h2, by have := h1.2; have := h2.1; omega⟩))
theorem gup_val {s : GS} (h : s.1 ≤ 300) (o : Nat) (ho : o = 2 ∨ o = 3) {s1 : GS} (hs : s1.1 = s.1) (hl : s1.2.1 = s.2.1 ++ [(o, s.1)]) : gex (psF s1) (fun s2 => gup s s2) := by
  unfold psF
  split
  · exact ⟨Or.inr rfl, by show s1.1 ≤ 300; omega⟩
  · refine ⟨⟨by show s.1 ≤ s1.1 + 1; omega, by show s1.1 + 1 ≤ 300; omega, ?_, [(o, s.1)], hl, fun x hx => ?_⟩, by show s.1 < s1.1 + 1; omega⟩
    · show s1.2.1.length + s.1 ≤ s.2.1.length + (s1.1 + 1)
      rw [hl, List.length_append, List.length_singleton]; omega
    · rw [List.mem_singleton.mp hx]; exact ⟨by show s.1 ≤ s1.1 + 1; omega, by show o ≠ 6; omega, by show o ≠ 7; omega, by show o < 256; omega⟩
theorem gK_unit : ∀ d, gKp (unitF K d)
  | d => fun s h => by
    by_cases k2 : K s.1 = 2
    · rw [unitF_v k2]
      exact gup_val h 2 (Or.inl rfl) rfl rfl
    by_cases k3 : K s.1 = 3
    · rw [unitF_i k3]
      exact gup_val h 3 (Or.inr rfl) rfl rfl
    have pre : gex (if d = 0 then Sum.inl (2, s.1) else psF s : GR) (fun s1 => (gup s s1 ∧ s1.2 = s.2 ∧ s1.1 = s.1 + 1) ∧ d ≠ 0) := by
      by_cases hd : d = 0
      · rw [if_pos hd]; exact ⟨Or.inr rfl, h⟩
      · rw [if_neg hd]; exact gex_mono (gup_ps h) (fun s1 h1 => ⟨h1, hd⟩)
    by_cases k40 : K s.1 = 40
    · rw [unitF_p k40]
      refine gex_gb pre (fun s1 h1 => ?_)
      have hd := h1.2
      refine gex_gb (gK_sumF (gK_prodF (gK_unit (d - 1))) s1 h1.1.1.le) (fun s2 h2 => gex_gb (gup_tk h2.le) (fun s3 h3 => ?_))
      exact (h1.1.1.trans h2).trans h3.1
    by_cases k8 : K s.1 = 8
    · rw [unitF_c k8]
      refine gex_gb pre (fun s1 h1 => ?_)
      have hd := h1.2
      refine gex_gb (gK_unit (d - 1) s1 h1.1.1.le) (fun s2 h2 => gex_gb (gK_unit (d - 1) s2 h2.le) (fun s3 h3 => gex_gb (gK_unit (d - 1) s3 h3.le) (fun s4 h4 => ?_)))
      have h9 := (h2.trans h3).trans h4
      refine ⟨gst_wr (h1.1.1.trans h9).1 (gup_after h1.1.1 h1.1.2.1 h9.1) ?_ (by decide) (by decide) (by decide), (h1.1.1.trans h9).2⟩
      have := (h1.1.1.trans h9).2
      omega
    by_cases k9 : K s.1 = 9
    · rw [unitF_a k9]
      refine gex_gb pre (fun s1 h1 => ?_)
      have hd := h1.2
      refine gex_gb (gup_tk (s := gvF 4 s1.1 s1) h1.1.1.le) (fun s2 h2 => gex_gb (gK_unit (d - 1) s2 h2.1.le) (fun s3 h3 => ?_))
      have h29 : gup s1 s2 := h2.1
      have h9 := h29.trans h3
      refine ⟨gst_wr (h1.1.1.trans h9).1 (gup_after h1.1.1 h1.1.2.1 h9.1) ?_ (by decide) (by decide) (by decide), (h1.1.1.trans h9).2⟩
      have := h1.1.1.2
      have := h9.2
      omega
    · rw [unitF_n (by omega)]
      exact ⟨Or.inl rfl, h⟩
  termination_by d => d
  decreasing_by all_goals omega
theorem gK_expr : gKp (exprF K) := gK_sumF (gK_prodF (gK_unit 6))
theorem gK_numsL : ∀ (f : Nat) (s : GS), s.1 ≤ 300 → gex (numsL K f s) (fun s2 => gst s s2 ∧ s2.2 = s.2)
  | 0, s, h => ⟨gst.refl h, rfl⟩
  | f + 1, s, h => by
    rw [numsL]
    split
    · refine gex_gb (gup_ps h) (fun s1 h1 => gex_gb (gup_tk h1.1.le) (fun s2 h2 => gex_mono (gK_numsL f s2 h2.1.le) (fun s3 h3 => ?_)))
      exact ⟨((h1.1.trans h2.1).1.trans h3.1), by rw [h3.2, h2.2.1, h1.2.1]⟩
    · exact ⟨gst.refl h, rfl⟩
/-- behind a tell -/
def gtl (s s2 : GS) : Prop := s.1 + 2 ≤ s2.1 ∧ s2.1 ≤ 300 ∧ s2.2.1.length + s.1 ≤ s.2.1.length + s2.1 ∧ ∃ xs, s2.2.1 = s.2.1 ++ xs ∧ ∀ x ∈ xs, x.2 ≤ s2.1 ∧ (x.1 = 6 ∨ x.1 = 7 → x.2 + 1 ≤ s2.1) ∧ x.1 < 256
theorem gtl_of {s s2 : GS} (h : gst s s2) (h2 : s.1 + 2 ≤ s2.1) : gtl s s2 := by
  obtain ⟨a1, a2, a3, xs, a4, a5⟩ := h
  exact ⟨h2, a2, a3, xs, a4, fun x hx => ⟨(a5 x hx).1, fun q => by have := (a5 x hx).2.1; have := (a5 x hx).2.2.1; omega, (a5 x hx).2.2.2⟩⟩
theorem gtl_wr {s s2 : GS} {o : Nat} (h : gst s s2) (h2 : s.1 + 2 ≤ s2.1) (hr : s2.2.1.length + s.1 + 1 ≤ s.2.1.length + s2.1) (ho : o < 256) : gtl s (wrF o s.1 s2) := by
  obtain ⟨a1, a2, a3, xs, a4, a5⟩ := h
  refine ⟨h2, a2, ?_, xs ++ [(o, s.1)], ?_, fun x hx => ?_⟩
  · show (s2.2.1 ++ [(o, s.1)]).length + s.1 ≤ s.2.1.length + s2.1
    rw [List.length_append, List.length_singleton]; omega
  · show s2.2.1 ++ [(o, s.1)] = _
    rw [a4, List.append_assoc]
  · rcases List.mem_append.mp hx with q | q
    · exact ⟨(a5 x q).1, fun z => by have := (a5 x q).2.1; have := (a5 x q).2.2.1; omega, (a5 x q).2.2.2⟩
    · rw [List.mem_singleton.mp q]
      exact ⟨by show s.1 ≤ s2.1; omega, fun _ => by show s.1 + 1 ≤ s2.1; omega, ho⟩
theorem gK_tell (c : CT) (s : GS) (h : s.1 ≤ 300) : gex (tellF K c s) (fun s2 => gtl s s2) := by
  have pre : ∀ (p : Prop) [Decidable p], gex (if p then Sum.inl (2, s.1) else psF s : GR) (fun s1 => gup s s1 ∧ s1.2 = s.2 ∧ s1.1 = s.1 + 1) := by
    intro p _
    split
    · exact ⟨Or.inr rfl, h⟩
    · exact gup_ps h
  unfold tellF
  split
  · refine gex_gb (pre _) (fun s1 h1 => gex_gb (gup_tk (s := gvF 0 s1.1 s1) h1.1.le) (fun s2 h2 => gex_gb (gup_tk h2.1.le) (fun s3 h3 => ?_)))
    have h29 : gup s1 s2 := h2.1
    exact gtl_of ((h1.1.trans h29).trans h3.1).1 (by have := h1.1.2; have := h29.2; have := h3.1.2; omega)
  · split
    · refine gex_gb (pre _) (fun s1 h1 => gex_gb (gup_tk (s := gvF 1 s1.1 s1) h1.1.le) (fun s2 h2 => gex_gb (gup_tk h2.1.le) (fun s3 h3 => gex_gb (Q := fun s4 => gup s3 s4) ?_ (fun s4 h4 => gex_gb (gup_tk h4.le) (fun s5 h5 => ?_)))))
      · refine gex_gb (gup_tk h3.1.le) (fun s4 h4 => gex_mono (gK_numsL 300 s4 h4.1.le) (fun s5 h5 => ⟨h4.1.1.trans h5.1, by have := h4.1.2; have := h5.1.1; omega⟩))
      · have h29 : gup s1 s2 := h2.1
        exact gtl_of ((((h1.1.trans h29).trans h3.1).trans h4).trans h5.1).1 (by have := h1.1.2; have := h29.2; have := h3.1.2; have := h4.2; have := h5.1.2; omega)
    · split
      · refine gex_gb (gup_ps h) (fun s1 h1 => gex_gb (gup_tk (s := gvF 2 s1.1 s1) h1.1.le) (fun s2 h2 => gex_gb (gup_tk h2.1.le) (fun s3 h3 => gex_gb (gK_expr s3 h3.1.le) (fun s4 h4 => gex_gb (gup_tk h4.le) (fun s5 h5 => ?_)))))
        have h29 : gup s1 s2 := h2.1
        have h9 := ((h29.trans h3.1).trans h4).trans h5.1
        exact gtl_wr (h1.1.trans h9).1 (by have := h1.1.2; have := h9.2; omega) (gup_after h1.1 h1.2.1 h9.1) (by decide)
      · split
        · refine gex_gb (pre _) (fun s1 h1 => gex_gb (gK_expr s1 h1.1.le) (fun s4 h4 => gex_gb (gup_tk h4.le) (fun s5 h5 => ?_)))
          have h9 := h4.trans h5.1
          exact gtl_wr (h1.1.trans h9).1 (by have := h1.1.2; have := h9.2; omega) (gup_after h1.1 h1.2.1 h9.1) (by decide)
        · exact ⟨Or.inl rfl, h⟩
/-- behind all tells -/
def gal (s : GS) : Prop := s.1 ≤ 300 ∧ s.2.1.length ≤ s.1 ∧ ∀ x ∈ s.2.1, x.2 ≤ s.1 ∧ (x.1 = 6 ∨ x.1 = 7 → x.2 + 1 ≤ s.1) ∧ x.1 < 256
theorem gal_tell {s s2 : GS} (h : gal s) (h2 : gtl s s2) : gal s2 := by
  obtain ⟨a1, a2, a3⟩ := h
  obtain ⟨b1, b2, b3, xs, b4, b5⟩ := h2
  refine ⟨b2, by omega, fun x hx => ?_⟩
  rw [b4] at hx
  rcases List.mem_append.mp hx with q | q
  · obtain ⟨q1, q2, q3⟩ := a3 x q
    exact ⟨by omega, fun z => by have := q2 z; omega, q3⟩
  · exact b5 x q
theorem gK_tells : ∀ (f : Nat) (c : CT) (s : GS), gal s → 301 ≤ f + s.1 → gex (tellsL K f c s) (fun s2 => gal s2 ∧ K s2.1 = 0)
  | 0, c, s, h, hf => by have := h.1; omega
  | f + 1, c, s, h, hf => by
    rw [tellsL]
    split
    · exact ⟨h, by assumption⟩
    · refine gex_gb (gK_tell c s h.1) (fun s1 h1 => gK_tells f _ s1 (gal_tell h h1) ?_)
      have := h1.1
      omega
theorem gK_gram : gex (gramF K) (fun s => gal s ∧ K s.1 = 0) := gK_tells 301 (0, 0, 0) (0, [], []) ⟨Nat.zero_le _, Nat.le_refl _, fun x hx => absurd hx List.not_mem_nil⟩ (by decide)
end GPU
