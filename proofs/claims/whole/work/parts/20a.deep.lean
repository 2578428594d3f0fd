/-! the orders of an expression leave one on the stack, and never take more than lies there -/
def dpA : List (Nat × Nat) → Nat → Prop
  | [], d => d = 0
  | x :: r, d => if x.1 = 6 ∨ x.1 = 7 then d = 1 ∧ dpA r 0 else if x.1 = 3 ∨ x.1 = 2 then dpA r (d + 1) else if x.1 = 9 then 1 ≤ d ∧ dpA r d else if x.1 = 8 then 3 ≤ d ∧ dpA r (d - 2) else 2 ≤ d ∧ dpA r (d - 1)
def psh (os : List (Nat × Nat)) : Prop := ∀ d r, dpA r (d + 1) → dpA (os ++ r) d
def kep (os : List (Nat × Nat)) : Prop := ∀ d r, dpA r (d + 1) → dpA (os ++ r) (d + 1)
def gd (s s2 : GS) : Prop := ∃ os, s2.2.1 = s.2.1 ++ os ∧ psh os
def gk (s s2 : GS) : Prop := ∃ os, s2.2.1 = s.2.1 ++ os ∧ kep os
theorem gk.refl (s : GS) : gk s s := ⟨[], by simp, fun d r h => h⟩
theorem gd.keep {a b c : GS} (h : gd a b) (h2 : gk b c) : gd a c := by
  obtain ⟨o, e, p⟩ := h
  obtain ⟨o2, e2, p2⟩ := h2
  exact ⟨o ++ o2, by rw [e2, e, List.append_assoc], fun d r q => by rw [List.append_assoc]; exact p d _ (p2 d r q)⟩
theorem gk.trans {a b c : GS} (h : gk a b) (h2 : gk b c) : gk a c := by
  obtain ⟨o, e, p⟩ := h
  obtain ⟨o2, e2, p2⟩ := h2
  exact ⟨o ++ o2, by rw [e2, e, List.append_assoc], fun d r q => by rw [List.append_assoc]; exact p d _ (p2 d r q)⟩
theorem gd_l {a b c : GS} (h : b.2.1 = a.2.1) (h2 : gd b c) : gd a c := by
  obtain ⟨o, e, p⟩ := h2
  exact ⟨o, by rw [e, h], p⟩
theorem gd_r {a b c : GS} (h : gd a b) (h2 : c.2.1 = b.2.1) : gd a c := by
  obtain ⟨o, e, p⟩ := h
  exact ⟨o, by rw [h2, e], p⟩
theorem gd_one (s : GS) (o a : Nat) (h : o = 2 ∨ o = 3) : gd s (wrF o a s) := ⟨[(o, a)], rfl, fun d r q => by
  show dpA ((o, a) :: r) d
  rw [dpA, if_neg (by dsimp only; omega), if_pos (by dsimp only; omega)]
  exact q⟩
theorem gk_bin {s s2 : GS} (h : gd s s2) (o a : Nat) (ho : o = 42 ∨ o = 43 ∨ o = 45) : gk s (wrF o a s2) := by
  obtain ⟨os, e, p⟩ := h
  refine ⟨os ++ [(o, a)], by show s2.2.1 ++ [(o, a)] = _; rw [e, List.append_assoc], fun d r q => ?_⟩
  rw [List.append_assoc]
  refine p (d + 1) _ ?_
  show dpA ((o, a) :: r) (d + 2)
  rw [dpA, if_neg (by dsimp only; omega), if_neg (by dsimp only; omega), if_neg (by dsimp only; omega), if_neg (by dsimp only; omega)]
  exact ⟨by omega, q⟩
theorem gd_ask {s s2 : GS} (h : gd s s2) (a : Nat) : gd s (wrF 9 a s2) := by
  obtain ⟨os, e, p⟩ := h
  refine ⟨os ++ [(9, a)], by show s2.2.1 ++ [(9, a)] = _; rw [e, List.append_assoc], fun d r q => ?_⟩
  rw [List.append_assoc]
  refine p d _ ?_
  show dpA ((9, a) :: r) (d + 1)
  rw [dpA, if_neg (by dsimp only; omega), if_neg (by dsimp only; omega), if_pos rfl]
  exact ⟨by omega, q⟩
theorem gd_cho {s s2 s3 s4 : GS} (h : gd s s2) (h2 : gd s2 s3) (h3 : gd s3 s4) (a : Nat) : gd s (wrF 8 a s4) := by
  obtain ⟨o1, e1, p1⟩ := h
  obtain ⟨o2, e2, p2⟩ := h2
  obtain ⟨o3, e3, p3⟩ := h3
  refine ⟨o1 ++ (o2 ++ (o3 ++ [(8, a)])), by show s4.2.1 ++ [(8, a)] = _; rw [e3, e2, e1]; simp, fun d r q => ?_⟩
  rw [List.append_assoc, List.append_assoc, List.append_assoc]
  refine p1 d _ (p2 (d + 1) _ (p3 (d + 2) _ ?_))
  show dpA ((8, a) :: r) (d + 3)
  rw [dpA, if_neg (by dsimp only; omega), if_neg (by dsimp only; omega), if_neg (by dsimp only; omega), if_pos rfl]
  exact ⟨by omega, q⟩
section GDP
variable {K : Nat → Nat}
def gDp (F : GS → GR) : Prop := ∀ s : GS, gev2 (F s) (fun s2 => gd s s2)
theorem gD_prodL {u : GS → GR} (hu : gDp u) : ∀ (f : Nat) (s : GS), gev2 (prodL K u f s) (fun s2 => gk s s2)
  | 0, s => fun s2 e => by cases e; exact gk.refl s
  | f + 1, s => by
    rw [prodL]
    split
    · refine gev2_gb (gx_ps s) (fun s1 h1 => gev2_gb (hu s1) (fun s2 h2 s3 e => ?_))
      exact (gk_bin (gd_l (by rw [h1.2.2]) h2) 42 _ (Or.inl rfl)).trans (gD_prodL hu f _ s3 e)
    · intro s2 e; cases e; exact gk.refl s
theorem gD_prodF {u : GS → GR} (hu : gDp u) : gDp (prodF K u) := fun s => gev2_gb (hu s) (fun s1 h1 s2 e => h1.keep (gD_prodL hu 300 s1 s2 e))
theorem gD_sumL {u : GS → GR} (hu : gDp u) : ∀ (f : Nat) (s : GS), gev2 (sumL K u f s) (fun s2 => gk s s2)
  | 0, s => fun s2 e => by cases e; exact gk.refl s
  | f + 1, s => by
    rw [sumL]
    split
    · rename_i hk
      refine gev2_gb (gx_ps s) (fun s1 h1 => gev2_gb (hu s1) (fun s2 h2 s3 e => ?_))
      exact (gk_bin (gd_l (by rw [h1.2.2]) h2) _ _ (Or.inr hk)).trans (gD_sumL hu f _ s3 e)
    · intro s2 e; cases e; exact gk.refl s
theorem gD_sumF {u : GS → GR} (hu : gDp u) : gDp (sumF K u) := fun s => gev2_gb (hu s) (fun s1 h1 s2 e => h1.keep (gD_sumL hu 300 s1 s2 e))
theorem gD_unit : ∀ d, gDp (unitF K d)
  | d => fun s => by
    by_cases k2 : K s.1 = 2
    · rw [unitF_v k2]
      exact fun s2 e => gd_r (gd_one s 2 s.1 (Or.inl rfl)) (by rw [(psF_ok e).2.2]; rfl)
    by_cases k3 : K s.1 = 3
    · rw [unitF_i k3]
      exact fun s2 e => gd_r (gd_one s 3 s.1 (Or.inr rfl)) (by rw [(psF_ok e).2.2])
    have pre : gev2 (if d = 0 then Sum.inl (2, s.1) else psF s : GR) (fun s1 => s1.2 = s.2 ∧ d ≠ 0) := by
      by_cases hd : d = 0
      · rw [if_pos hd]; intro s2 e; cases e
      · rw [if_neg hd]; exact fun s2 e => ⟨(psF_ok e).2.2, hd⟩
    by_cases k40 : K s.1 = 40
    · rw [unitF_p k40]
      refine gev2_gb pre (fun s1 h1 => ?_)
      have hd := h1.2
      exact gev2_gb (gD_sumF (gD_prodF (gD_unit (d - 1))) s1) (fun s2 h2 => gev2_gb (gx_tk 41 s2) (fun s3 h3 s4 e => by cases e; exact gd_r (gd_l (by rw [h1.1]) h2) (by rw [h3.2.2])))
    by_cases k8 : K s.1 = 8
    · rw [unitF_c k8]
      refine gev2_gb pre (fun s1 h1 => ?_)
      have hd := h1.2
      exact gev2_gb (gD_unit (d - 1) s1) (fun s2 h2 => gev2_gb (gD_unit (d - 1) s2) (fun s3 h3 => gev2_gb (gD_unit (d - 1) s3) (fun s4 h4 s5 e => by
        cases e
        exact gd_cho (gd_l (by rw [h1.1]) h2) h3 h4 _)))
    by_cases k9 : K s.1 = 9
    · rw [unitF_a k9]
      refine gev2_gb pre (fun s1 h1 => ?_)
      have hd := h1.2
      refine gev2_gb (gx_tk 2 (gvF 4 s1.1 s1)) (fun s2 h2 => gev2_gb (gD_unit (d - 1) s2) (fun s3 h3 s5 e => ?_))
      cases e
      exact gd_ask (gd_l (by rw [h2.2.2]; show s1.2.1 = s.2.1; rw [h1.1]) h3) _
    · rw [unitF_n (by omega)]
      intro s2 e; cases e
  termination_by d => d
  decreasing_by all_goals omega
theorem gD_expr : gDp (exprF K) := gD_sumF (gD_prodF (gD_unit 6))
/-- behind a tell -/
def gw2 (s s2 : GS) : Prop := ∃ os, s2.2.1 = s.2.1 ++ os ∧ ∀ r, dpA r 0 → dpA (os ++ r) 0
theorem gw2_same {s s2 : GS} (h : s2.2.1 = s.2.1) : gw2 s s2 := ⟨[], by rw [h]; simp, fun r q => q⟩
theorem gw2_trans {a b c : GS} (h : gw2 a b) (h2 : gw2 b c) : gw2 a c := by
  obtain ⟨o, e, p⟩ := h
  obtain ⟨o2, e2, p2⟩ := h2
  exact ⟨o ++ o2, by rw [e2, e, List.append_assoc], fun r q => by rw [List.append_assoc]; exact p _ (p2 r q)⟩
theorem gw2_end {s s2 : GS} (h : gd s s2) (o a : Nat) (ho : o = 6 ∨ o = 7) : gw2 s (wrF o a s2) := by
  obtain ⟨os, e, p⟩ := h
  refine ⟨os ++ [(o, a)], by show s2.2.1 ++ [(o, a)] = _; rw [e, List.append_assoc], fun r q => ?_⟩
  rw [List.append_assoc]
  refine p 0 _ ?_
  show dpA ((o, a) :: r) 1
  rw [dpA, if_pos (by dsimp only; omega)]
  exact ⟨rfl, q⟩
theorem gN_numsL : ∀ (f : Nat) (s : GS), gev2 (numsL K f s) (fun s2 => s2.2 = s.2)
  | 0, s => fun s2 e => by cases e; rfl
  | f + 1, s => by
    rw [numsL]
    split
    · exact gev2_gb (gx_ps s) (fun s1 h1 => gev2_gb (gx_tk 3 s1) (fun s2 h2 s3 e => by rw [gN_numsL f s2 s3 e, h2.2.2, h1.2.2]))
    · intro s2 e; cases e; rfl
theorem gN_numsF (s : GS) : gev2 (numsF K s) (fun s2 => s2.2 = s.2) := gev2_gb (gx_tk 3 s) (fun s1 h1 s2 e => by rw [gN_numsL 300 s1 s2 e, h1.2.2])
theorem gD_tell (c : CT) (s : GS) : gev2 (tellF K c s) (fun s2 => gw2 s s2) := by
  have pre : ∀ (p : Prop) [Decidable p], gev2 (if p then Sum.inl (2, s.1) else psF s : GR) (fun s1 => s1.2 = s.2) := by
    intro p _
    split
    · intro s2 e; cases e
    · exact fun s2 e => (psF_ok e).2.2
  unfold tellF
  by_cases k4 : K s.1 = 4
  · rw [if_pos k4]
    refine gev2_gb (pre _) (fun s1 h1 => gev2_gb (gx_tk 2 (gvF 0 s1.1 s1)) (fun s2 h2 => gev2_gb (gx_tk 59 s2) (fun s3 h3 s4 e => ?_)))
    cases e
    refine gw2_same ?_
    rw [h3.2.2, h2.2.2]
    show s1.2.1 = s.2.1
    rw [h1]
  by_cases k5 : K s.1 = 5
  · rw [if_neg k4, if_pos k5]
    refine gev2_gb (pre _) (fun s1 h1 => gev2_gb (gx_tk 2 (gvF 1 s1.1 s1)) (fun s2 h2 => gev2_gb (gx_tk 58 s2) (fun s3 h3 => gev2_gb (gN_numsF s3) (fun s4 h4 => gev2_gb (gx_tk 59 s4) (fun s5 h5 s6 e => ?_)))))
    cases e
    refine gw2_same ?_
    rw [h5.2.2, h4, h3.2.2, h2.2.2]
    show s1.2.1 = s.2.1
    rw [h1]
  by_cases k6 : K s.1 = 6
  · rw [if_neg k4, if_neg k5, if_pos k6]
    refine gev2_gb (gx_ps s) (fun s1 h1 => gev2_gb (gx_tk 2 (gvF 2 s1.1 s1)) (fun s2 h2 => gev2_gb (gx_tk 61 s2) (fun s3 h3 => gev2_gb (gD_expr s3) (fun s4 h4 => gev2_gb (gx_tk 59 s4) (fun s5 h5 s6 e => ?_)))))
    cases e
    refine gw2_end (gd_r (gd_l ?_ h4) (by rw [h5.2.2])) 6 _ (Or.inl rfl)
    rw [h3.2.2, h2.2.2]
    show s1.2.1 = s.2.1
    rw [h1.2.2]
  by_cases k7 : K s.1 = 7
  · rw [if_neg k4, if_neg k5, if_neg k6, if_pos k7]
    refine gev2_gb (pre _) (fun s1 h1 => gev2_gb (gD_expr s1) (fun s2 h2 => gev2_gb (gx_tk 59 s2) (fun s3 h3 s4 e => ?_)))
    cases e
    exact gw2_end (gd_r (gd_l (by rw [h1]) h2) (by rw [h3.2.2])) 7 _ (Or.inr rfl)
  · rw [if_neg k4, if_neg k5, if_neg k6, if_neg k7]
    intro s2 e; cases e
theorem gD_tells : ∀ (f : Nat) (c : CT) (s : GS), gev2 (tellsL K f c s) (fun s2 => gw2 s s2)
  | 0, c, s => fun s2 e => by cases e; exact gw2_same rfl
  | f + 1, c, s => by
    rw [tellsL]
    split
    · intro s2 e; cases e; exact gw2_same rfl
    · exact gev2_gb (gD_tell c s) (fun s1 h1 s2 e => gw2_trans h1 (gD_tells f _ s1 s2 e))
theorem dpA_gram {s : GS} (h : gramF K = .inr s) : dpA s.2.1 0 := by
  obtain ⟨os, e, p⟩ := gD_tells 301 (0, 0, 0) (0, [], []) s h
  rw [e]
  have := p [] rfl
  simpa using this
theorem dpA_fl {os : List (Nat × Nat)} {x : Nat × Nat} {r : List (Nat × Nat)} (hx : x.1 = 6 ∨ x.1 = 7) : ∀ {d : Nat}, (∀ y ∈ os, y.1 ≠ 6 ∧ y.1 ≠ 7) → dpA (os ++ x :: r) d → dpF os d ∧ dpA r 0 := by
  induction os with
  | nil =>
    intro d _ h
    rw [List.nil_append, dpA, if_pos hx] at h
    exact ⟨h.1, h.2⟩
  | cons y os ih =>
    intro d hy h
    have h0 := hy y List.mem_cons_self
    have hy2 : ∀ z ∈ os, z.1 ≠ 6 ∧ z.1 ≠ 7 := fun z hz => hy z (List.mem_cons_of_mem _ hz)
    rw [List.cons_append, dpA, if_neg (by omega)] at h
    rw [dpF]
    by_cases k3 : y.1 = 3 ∨ y.1 = 2
    · rw [if_pos k3] at h ⊢
      exact ih hy2 h
    by_cases k9 : y.1 = 9
    · rw [if_neg k3, if_pos k9] at h ⊢
      exact ⟨⟨h.1, (ih hy2 h.2).1⟩, (ih hy2 h.2).2⟩
    by_cases k8 : y.1 = 8
    · rw [if_neg k3, if_neg k9, if_pos k8] at h ⊢
      exact ⟨⟨h.1, (ih hy2 h.2).1⟩, (ih hy2 h.2).2⟩
    · rw [if_neg k3, if_neg k9, if_neg k8] at h ⊢
      exact ⟨⟨h.1, (ih hy2 h.2).1⟩, (ih hy2 h.2).2⟩
theorem dp_groups : ∀ (gs : List GP), (∀ g ∈ gs, (g.2.1 = 6 ∨ g.2.1 = 7) ∧ ∀ x ∈ g.1, x.1 ≠ 6 ∧ x.1 ≠ 7) → dpA (flG gs) 0 → ∀ g ∈ gs, dpF g.1 0
  | [], _, _ => fun g hg => absurd hg List.not_mem_nil
  | g :: r, h, hd => by
    have e : flG (g :: r) = g.1 ++ ((g.2.1, g.2.2) :: flG r) := by unfold flG; simp
    rw [e] at hd
    have hg := h g List.mem_cons_self
    have h2 := dpA_fl (x := (g.2.1, g.2.2)) hg.1 hg.2 hd
    intro x hx
    rcases List.mem_cons.mp hx with q | q
    · rw [q]; exact h2.1
    · exact dp_groups r (fun y hy => h y (List.mem_cons_of_mem _ hy)) h2.2 x q
end GDP
