/-! READ of the model: the tables' numbers lie where the class looks for them -/
section GMP
variable {K : Nat → Nat}
theorem gM_numsL : ∀ (f : Nat) (s : GS), gev2 (numsL K f s) (fun s2 => ∃ m, s2.1 = s.1 + 2 * m ∧ ∀ j, j < m → K (s.1 + 2 * j) = 44 ∧ K (s.1 + 2 * j + 1) = 3)
  | 0, s => fun s2 e => by cases e; exact ⟨0, rfl, fun j hj => absurd hj (Nat.not_lt_zero _)⟩
  | f + 1, s => by
    rw [numsL]
    split
    · rename_i hk
      refine gev2_gb (gx_ps s) (fun s1 h1 => gev2_gb (Q := fun s2 => K s1.1 = 3 ∧ s2.1 = s1.1 + 1) (fun s2 e => ⟨(tkF_ok e).1, (gx_tk 3 s1 s2 e).2.1⟩) (fun s2 h2 s3 e => ?_))
      obtain ⟨m, m1, m2⟩ := gM_numsL f s2 s3 e
      have e1 := h1.2.1
      refine ⟨m + 1, by rw [m1]; omega, fun j hj => ?_⟩
      cases j with
      | zero => exact ⟨hk, by show K (s.1 + 1) = 3; rw [← e1]; exact h2.1⟩
      | succ j =>
        have := m2 j (by omega)
        rw [h2.2, e1] at this
        rw [show s.1 + 2 * (j + 1) = s.1 + 1 + 1 + 2 * j by omega]
        exact this
    · intro s2 e; cases e; exact ⟨0, rfl, fun j hj => absurd hj (Nat.not_lt_zero _)⟩
theorem gM_numsF (s : GS) : gev2 (numsF K s) (fun s2 => ∃ m, numsOK K s.1 m ∧ s2.1 + 1 = s.1 + 2 * m) := by
  refine gev2_gb (Q := fun s1 => K s.1 = 3 ∧ s1.1 = s.1 + 1) (fun s1 e => ⟨(tkF_ok e).1, (gx_tk 3 s s1 e).2.1⟩) (fun s1 h1 s2 e => ?_)
  obtain ⟨m, m1, m2⟩ := gM_numsL 300 s1 s2 e
  rw [h1.2] at m1 m2
  refine ⟨m + 1, ⟨by omega, fun j hj => ?_, fun j hj => ?_⟩, by omega⟩
  · cases j with
    | zero => exact h1.1
    | succ j =>
      have := (m2 j (by omega)).2
      rw [show s.1 + 2 * (j + 1) = s.1 + 1 + 2 * j + 1 by omega]
      exact this
  · have := (m2 j (by omega)).1
    rw [show s.1 + 2 * j + 1 = s.1 + 1 + 2 * j by omega]
    exact this
def gm (K : Nat → Nat) (s s2 : GS) : Prop := s.1 ≤ s2.1 ∧ ∃ es, s2.2.2 = s.2.2 ++ es ∧ ∀ e ∈ es, e.1 = 1 → K (e.2 + 1) = 58 ∧ ∃ m, numsOK K (e.2 + 2) m ∧ K (e.2 + 2 + 2 * m - 1) = 59 ∧ e.2 + 2 + 2 * m ≤ s2.1
theorem gm.refl (s : GS) : gm K s s := ⟨Nat.le_refl _, [], by simp, fun e he => absurd he List.not_mem_nil⟩
theorem gm.trans {a b c : GS} (h : gm K a b) (h2 : gm K b c) : gm K a c := by
  obtain ⟨l1, e1, p1, q1⟩ := h
  obtain ⟨l2, e2, p2, q2⟩ := h2
  refine ⟨by omega, e1 ++ e2, by rw [p2, p1, List.append_assoc], fun e he k => ?_⟩
  rcases List.mem_append.mp he with q | q
  · obtain ⟨j, m, j1, j2, j3⟩ := q1 e q k
    exact ⟨j, m, j1, j2, by omega⟩
  · exact q2 e q k
theorem gM_tell (c : CT) (s : GS) : gev2 (tellF K c s) (fun s2 => gm K s s2) := by
  have pre : ∀ (p : Prop) [Decidable p], gev2 (if p then Sum.inl (2, s.1) else psF s : GR) (fun s1 => s1.1 = s.1 + 1 ∧ s1.2 = s.2) := by
    intro p _
    split
    · intro s2 e; cases e
    · exact fun s2 e => ⟨(psF_ok e).1, (psF_ok e).2.2⟩
  have tn : ∀ (g : Nat) (s1 : GS), gev2 (tkF K 2 (gvF g s1.1 s1)) (fun s2 => s2.1 = s1.1 + 1 ∧ s2.2.2 = s1.2.2 ++ [(g, s1.1)]) := fun g s1 s2 e => ⟨(gx_tk 2 _ s2 e).2.1, by rw [(gx_tk 2 _ s2 e).2.2]; rfl⟩
  have ex : ∀ s1 : GS, gev2 (exprF K s1) (fun s2 => s1.1 ≤ s2.1 ∧ ∃ es, s2.2.2 = s1.2.2 ++ es ∧ ∀ e ∈ es, e.1 ≠ 1) := fun s1 s2 e => by
    refine ⟨(gE_expr (N := 0) s1 s2 e).1, ?_⟩
    obtain ⟨-, ⟨es, x1, x2⟩, -⟩ := gX_expr s1 s2 e
    exact ⟨es, x1, fun e he => by have := x2 e he; omega⟩
  unfold tellF
  by_cases k4 : K s.1 = 4
  · rw [if_pos k4]
    refine gev2_gb (pre _) (fun s1 h1 => gev2_gb (tn 0 s1) (fun s2 h2 => gev2_gb (gx_tk 59 s2) (fun s3 h3 s4 e => ?_)))
    cases e
    exact ⟨by omega, [(0, s1.1)], by rw [h3.2.2, h2.2, h1.2], fun e he k => by rw [List.mem_singleton.mp he] at k; exact absurd k (by show ¬ (0 : Nat) = 1; decide)⟩
  by_cases k5 : K s.1 = 5
  · rw [if_neg k4, if_pos k5]
    refine gev2_gb (pre _) (fun s1 h1 => gev2_gb (tn 1 s1) (fun s2 h2 => gev2_gb (Q := fun s3 => K s2.1 = 58 ∧ s3.1 = s2.1 + 1 ∧ s3.2 = s2.2) (fun s3 e3 => ⟨(tkF_ok e3).1, (gx_tk 58 s2 s3 e3).2⟩) (fun s3 h3 => gev2_gb (Q := fun s4 => (∃ m, numsOK K s3.1 m ∧ s4.1 + 1 = s3.1 + 2 * m) ∧ s4.2 = s3.2) (fun s4 e4 => ⟨gM_numsF s3 s4 e4, gN_numsF s3 s4 e4⟩) (fun s4 h4 => gev2_gb (gT_59 s4) (fun s5 h5 s6 e => ?_)))))
    cases e
    obtain ⟨⟨m, m1, m2⟩, m3⟩ := h4
    have m0 := m1.1
    refine ⟨by omega, [(1, s1.1)], by rw [h5.2.2, m3, h3.2.2, h2.2, h1.2], fun e he k => ?_⟩
    rw [List.mem_singleton.mp he]
    have e3 : s3.1 = s1.1 + 2 := by omega
    refine ⟨by show K (s1.1 + 1) = 58; rw [← h2.1]; exact h3.1, m, by show numsOK K (s1.1 + 2) m; rw [← e3]; exact m1, ?_, by show s1.1 + 2 + 2 * m ≤ s5.1; omega⟩
    show K (s1.1 + 2 + 2 * m - 1) = 59
    rw [show s1.1 + 2 + 2 * m - 1 = s4.1 by omega]
    exact h5.1
  by_cases k6 : K s.1 = 6
  · rw [if_neg k4, if_neg k5, if_pos k6]
    refine gev2_gb (Q := fun s1 => s1.1 = s.1 + 1 ∧ s1.2 = s.2) (fun s1 e1 => ⟨(psF_ok e1).1, (psF_ok e1).2.2⟩) (fun s1 h1 => gev2_gb (tn 2 s1) (fun s2 h2 => gev2_gb (gx_tk 61 s2) (fun s3 h3 => gev2_gb (ex s3) (fun s4 h4 => gev2_gb (gx_tk 59 s4) (fun s5 h5 s6 e => ?_)))))
    cases e
    obtain ⟨h40, es, x1, x2⟩ := h4
    refine ⟨by show s.1 ≤ s5.1; omega, [(2, s1.1)] ++ (es ++ [(3, s.1 + 1)]), ?_, fun e he k => ?_⟩
    · show s5.2.2 ++ [(3, s.1 + 1)] = _
      rw [h5.2.2, x1, h3.2.2, h2.2, h1.2]
      simp
    · rcases List.mem_append.mp he with q | q
      · rw [List.mem_singleton.mp q] at k
        exact absurd k (by show ¬ (2 : Nat) = 1; decide)
      · rcases List.mem_append.mp q with q | q
        · exact absurd k (x2 e q)
        · rw [List.mem_singleton.mp q] at k
          exact absurd k (by show ¬ (3 : Nat) = 1; decide)
  by_cases k7 : K s.1 = 7
  · rw [if_neg k4, if_neg k5, if_neg k6, if_pos k7]
    refine gev2_gb (pre _) (fun s1 h1 => gev2_gb (ex s1) (fun s2 h2 => gev2_gb (gx_tk 59 s2) (fun s3 h3 s4 e => ?_)))
    cases e
    obtain ⟨h20, es, x1, x2⟩ := h2
    exact ⟨by show s.1 ≤ s3.1; omega, es, by show s3.2.2 = _; rw [h3.2.2, x1, h1.2], fun e he k => absurd k (x2 e he)⟩
  · rw [if_neg k4, if_neg k5, if_neg k6, if_neg k7]
    intro s2 e; cases e
theorem gM_tells : ∀ (f : Nat) (c : CT) (s : GS), gev2 (tellsL K f c s) (fun s2 => gm K s s2)
  | 0, c, s => fun s2 e => by cases e; exact gm.refl s
  | f + 1, c, s => by
    rw [tellsL]
    split
    · intro s2 e; cases e; exact gm.refl s
    · exact gev2_gb (gM_tell c s) (fun s1 h1 s2 e => h1.trans (gM_tells f _ s1 s2 e))
theorem tb_gram {s : GS} (h : gramF K = .inr s) (h3 : s.1 ≤ 300) : ∀ a, (1, a) ∈ s.2.2 → a + 2 + 2 * mnyF K a ≤ s.1 := by
  obtain ⟨-, es, e1, e2⟩ := gM_tells (K := K) 301 (0, 0, 0) (0, [], []) s h
  have e3 : s.2.2 = es := by rw [e1]; rfl
  intro a he
  rw [e3] at he
  obtain ⟨j1, m, j2, j3, j4⟩ := e2 _ he rfl
  have e4 : mnyF K a = m := nums_b (by omega) (by show a + 2 + 2 * m ≤ 400; have : a + 2 + 2 * m ≤ s.1 := j4; omega) j1 j2 j3
  rw [e4]
  exact j4
end GMP
section PMT
variable {K P W : Nat → Nat} {bs : Nat}
theorem evM_0 {p : PM} {e : Nat × Nat} (h : (evM K P W bs p e).2.2.2.2.1 = 0) : p.2.2.2.2.1 = 0 ∧ (∀ a ∈ (evM K P W bs p e).2.2.2.1, a ∈ p.2.2.2.1 ∨ (e = (1, a) ∧ mnyF K a = bs ∧ prm bs)) := by
  unfold evM at h ⊢
  by_cases k0 : e.1 = 0
  · rw [if_pos k0] at h ⊢
    exact ⟨(w3F_0 h).1, fun a ha => Or.inl ha⟩
  by_cases k1 : e.1 = 1
  · rw [if_neg k0, if_pos k1] at h ⊢
    have h2 : (if mnyF K e.2 ≠ bs ∨ ¬ prm bs then wrg (w3F P W p.1 p.2.2.2.2 e.2) 5 (P e.2) else w3F P W p.1 p.2.2.2.2 e.2).1 = 0 := h
    by_cases c : mnyF K e.2 ≠ bs ∨ ¬ prm bs
    · rw [if_pos c] at h2
      exact absurd h2 (wrg_ne (by decide))
    · rw [if_neg c] at h2
      refine ⟨(w3F_0 h2).1, fun a ha => ?_⟩
      have ha2 : a ∈ p.2.2.2.1 ++ [e.2] := ha
      rcases List.mem_append.mp ha2 with q | q
      · exact Or.inl q
      · rw [List.mem_singleton.mp q]
        exact Or.inr ⟨by rw [← k1], Decidable.byContradiction (fun z => c (Or.inl z)), Decidable.byContradiction (fun z => c (Or.inr z))⟩
  by_cases k2 : e.1 = 2
  · rw [if_neg k0, if_neg k1, if_pos k2] at h ⊢
    exact ⟨(w3F_0 h).1, fun a ha => Or.inl ha⟩
  by_cases k3 : e.1 = 3
  · rw [if_neg k0, if_neg k1, if_neg k2, if_pos k3] at h ⊢
    exact ⟨h, fun a ha => Or.inl ha⟩
  · rw [if_neg k0, if_neg k1, if_neg k2, if_neg k3] at h ⊢
    have h2 : ([e].foldl (evW (nmL W p.1) P W) p.2.2.2.2).1 = 0 := h
    exact ⟨(evW_0 [e] _ h2).1, fun a ha => Or.inl ha⟩
theorem pm_fold : ∀ (es : List (Nat × Nat)) (p : PM), (es.foldl (evM K P W bs) p).2.2.2.2.1 = 0 → p.2.2.2.2.1 = 0 ∧ ∀ a ∈ (es.foldl (evM K P W bs) p).2.2.2.1, a ∈ p.2.2.2.1 ∨ ((1, a) ∈ es ∧ mnyF K a = bs ∧ prm bs)
  | [], p, h => ⟨h, fun a ha => Or.inl ha⟩
  | e :: es, p, h => by
    rw [List.foldl_cons] at h ⊢
    obtain ⟨h1, h2⟩ := pm_fold es _ h
    obtain ⟨h3, h4⟩ := evM_0 h1
    refine ⟨h3, fun a ha => ?_⟩
    rcases h2 a ha with q | q
    · rcases h4 a q with z | ⟨z1, z2⟩
      · exact Or.inl z
      · exact Or.inr ⟨by rw [z1]; exact List.mem_cons_self, z2⟩
    · exact Or.inr ⟨List.mem_cons_of_mem _ q.1, q.2⟩
theorem pm_tb {es : List (Nat × Nat)} (h : (pmF K P W bs es).2.2.2.2.1 = 0) : ∀ a ∈ (pmF K P W bs es).2.2.2.1, (1, a) ∈ es ∧ mnyF K a = bs ∧ prm bs := fun a ha => by
  rcases (pm_fold es _ h).2 a ha with q | q
  · exact absurd q List.not_mem_nil
  · exact q
end PMT
/-! the tokens as the model keeps them -/
theorem numF_bd {b z : Nat} {B : Nat → Nat} {i : Nat} (hb : 0 < b) : ∀ k, (∀ x, x < k → B (i + x) - z < b) → numF b z B i k < b ^ k
  | 0, _ => by rw [numF, Nat.pow_zero]; exact Nat.one_pos
  | k + 1, h => by
    have h1 := numF_bd hb k (fun x hx => h x (by omega))
    have h2 := h k (by omega)
    rw [numF, Nat.pow_succ]
    have h3 : numF b z B i k * b + b ≤ b ^ k * b := by
      have := Nat.mul_le_mul_right b (show numF b z B i k + 1 ≤ b ^ k from h1)
      rw [Nat.add_mul, Nat.one_mul] at this
      exact this
    omega
theorem sgn_vk : ∀ c, c < 256 → sgn c = true → c ∈ vkL := by decide +kernel
theorem wordK_vk (w : List Nat) : wordK w ∈ vkL := by
  unfold wordK
  repeat' split
  all_goals decide
theorem tkK_vk {B : Nat → Nat} {n : Nat} (hB : ∀ i, i < n → B i < 256) (k : Nat) : tkK B n k ∈ vkL := by
  unfold tkK
  split
  · rename_i h
    unfold kdF
    split
    · split
      · decide
      · exact wordK_vk _
    · split
      · split <;> decide
      · split
        · rename_i q
          exact sgn_vk _ (hB _ h) q
        · decide
  · decide
theorem tkV_bd {B : Nat → Nat} {n k : Nat} (h : tkK B n k = 3) : tkV B n k < 100000 := by
  unfold tkK at h
  by_cases hl : tkP B n k < n
  · rw [if_pos hl] at h
    unfold kdF at h
    by_cases a : ltr (B (tkP B n k))
    · rw [if_pos a] at h
      have := wordK_ne (wdF B (tkP B n k) (endT B n (tkP B n k) - tkP B n k))
      split at h <;> omega
    · rw [if_neg a] at h
      by_cases d : dgt (B (tkP B n k))
      · rw [if_pos d] at h
        have hq : ¬ 4 < endT B n (tkP B n k) - tkP B n k := fun q => by rw [if_pos q] at h; omega
        unfold tkV vlF
        rw [if_pos hl, if_neg a, if_pos d]
        have hb := numF_bd (b := 10) (z := 48) (B := B) (i := tkP B n k) (by decide) (endT B n (tkP B n k) - tkP B n k) (fun x hx => by
          rw [endT_dgt hl d] at hx
          have := (stp_in (P := dgt) (B := B) (n := n) (i := tkP B n k) (j := tkP B n k + x) (by omega) (by omega)).2
          omega)
        have : (10 : Nat) ^ (endT B n (tkP B n k) - tkP B n k) ≤ 10 ^ 4 := Nat.pow_le_pow_right (by decide) (by omega)
        omega
      · rw [if_neg d] at h
        by_cases g : sgn (B (tkP B n k)) = true
        · rw [if_pos g] at h
          rw [h] at g
          exact absurd g (by decide)
        · rw [if_neg g] at h
          omega
  · rw [if_neg hl] at h
    omega
theorem tkW_bd {B : Nat → Nat} {n k : Nat} (h : tkK B n k = 2) : tkW B n k < 1099511627776 := by
  obtain ⟨hl, a⟩ := name_ltr h
  unfold tkK at h
  rw [if_pos hl] at h
  unfold kdF at h
  rw [if_pos a] at h
  have hq : ¬ 8 < endT B n (tkP B n k) - tkP B n k := fun q => by rw [if_pos q] at h; omega
  unfold tkW
  have hb := numF_bd (b := 27) (z := 96) (B := B) (i := tkP B n k) (by decide) (endT B n (tkP B n k) - tkP B n k) (fun x hx => by
    rw [endT_ltr hl a] at hx
    have := (stp_in (P := ltr) (B := B) (n := n) (i := tkP B n k) (j := tkP B n k + x) (by omega) (by omega)).2
    omega)
  have : (27 : Nat) ^ (endT B n (tkP B n k) - tkP B n k) ≤ 27 ^ 8 := Nat.pow_le_pow_right (by decide) (by omega)
  omega
theorem tv_cut {B : Nat → Nat} {n : Nat} {st u : St} (h : cutP B n st u) (hn : n ≤ 2000) (hB : ∀ i, i < n → B i < 256) : tvM (tkK B n) (tkP B n) (tkV B n) (tkW B n) u := by
  intro k hk hj
  obtain ⟨a1, a2, a3, a4⟩ := h.2 k hk (fun j hj2 => (hj j hj2).1)
  exact ⟨a1, a2, a3, a4, tkK_vk hB k, by have := tkP_le (B := B) (n := n) k; omega, tkV_bd, tkW_bd⟩
theorem nI_ex (x : Int32) : x = nI x.toBitVec.toNat := by
  apply Int32.toBitVec.inj
  unfold nI
  simp
theorem ex_wait (st : St) : ∃ Wt : List (Nat × Nat × Nat), st.1 31 49 = nI Wt.length ∧ ∀ j, j < Wt.length → st.1 59 j = nI (Wt.getD (Wt.length - 1 - j) (0, 0, 0)).1 ∧ st.1 60 j = nI (Wt.getD (Wt.length - 1 - j) (0, 0, 0)).2.1 := by
  generalize hn : (st.1 31 49).toBitVec.toNat = n
  have hl : ((List.range n).map (fun i => ((st.1 59 (n - 1 - i)).toBitVec.toNat, (st.1 60 (n - 1 - i)).toBitVec.toNat, 0)) : List (Nat × Nat × Nat)).length = n := by simp
  refine ⟨(List.range n).map (fun i => ((st.1 59 (n - 1 - i)).toBitVec.toNat, (st.1 60 (n - 1 - i)).toBitVec.toNat, 0)), by rw [hl, ← hn]; exact nI_ex _, fun j hj => ?_⟩
  rw [hl] at hj ⊢
  have e : ((List.range n).map (fun i => ((st.1 59 (n - 1 - i)).toBitVec.toNat, (st.1 60 (n - 1 - i)).toBitVec.toNat, 0)) : List (Nat × Nat × Nat)).getD (n - 1 - j) (0, 0, 0) = ((st.1 59 j).toBitVec.toNat, (st.1 60 j).toBitVec.toNat, 0) := by
    rw [List.getD_eq_getElem?_getD, List.getElem?_map, List.getElem?_range (by omega), show n - 1 - j = n - 1 - j from rfl]
    show ((st.1 59 (n - 1 - (n - 1 - j))).toBitVec.toNat, (st.1 60 (n - 1 - (n - 1 - j))).toBitVec.toNat, 0) = _
    rw [show n - 1 - (n - 1 - j) = j by omega]
  rw [e]
  exact ⟨nI_ex _, nI_ex _⟩
