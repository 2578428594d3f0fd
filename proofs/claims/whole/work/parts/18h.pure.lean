/-! EVENTS (pure): what a text tells, as the model keeps it -/
abbrev PM : Type := List MN × Nat × Nat × List Nat × (Nat × Nat)
def nmL (W : Nat → Nat) (Nt : List MN) : List MN := Nt.map (fun e => (W e.1, e.2.1, e.2.2))
theorem nmL_len (W : Nat → Nat) (Nt : List MN) : (nmL W Nt).length = Nt.length := by unfold nmL; simp
theorem nmL_at (W : Nat → Nat) (Nt : List MN) {j : Nat} (h : j < Nt.length) : (nmL W Nt).getD j (0, 0, 0) = (W (Nt.getD j (0, 0, 0)).1, (Nt.getD j (0, 0, 0)).2.1, (Nt.getD j (0, 0, 0)).2.2) := by
  unfold nmL
  rw [List.getD_eq_getElem?_getD, List.getElem?_map, List.getD_eq_getElem?_getD, List.getElem?_eq_getElem h]
  rfl
theorem nmL_app (W : Nat → Nat) (Nt : List MN) (e : MN) : nmL W (Nt ++ [e]) = nmL W Nt ++ [(W e.1, e.2.1, e.2.2)] := by unfold nmL; simp
def dupW (W : Nat → Nat) (Nt : List MN) (a : Nat) : Bool := Nt.any (fun e => decide (W e.1 = W a))
theorem dupW_iff {W : Nat → Nat} {Nt : List MN} {a : Nat} : dupW W Nt a = true ↔ ∃ j, j < Nt.length ∧ W (Nt.getD j (0, 0, 0)).1 = W a := by
  unfold dupW
  rw [List.any_eq_true]
  constructor
  · rintro ⟨x, hx, h⟩
    obtain ⟨j, hj, e⟩ := List.getElem_of_mem hx
    refine ⟨j, hj, ?_⟩
    rw [List.getD_eq_getElem?_getD, List.getElem?_eq_getElem hj, e]
    exact of_decide_eq_true h
  · rintro ⟨j, hj, h⟩
    refine ⟨Nt[j], List.getElem_mem hj, ?_⟩
    rw [List.getD_eq_getElem?_getD, List.getElem?_eq_getElem hj] at h
    exact decide_eq_true h
def mnyF (K : Nat → Nat) (a : Nat) : Nat := nbL K 400 400 (a + 1)
def w3F (P W : Nat → Nat) (Nt : List MN) (w : Nat × Nat) (a : Nat) : Nat × Nat := if dupW W Nt a = true then wrg w 3 (P a) else w
def evM (K P W : Nat → Nat) (bs : Nat) (p : PM) (e : Nat × Nat) : PM :=
  if e.1 = 0 then (p.1 ++ [(e.2, 0, p.2.1)], p.2.1 + 1, p.2.2.1, p.2.2.2.1, w3F P W p.1 p.2.2.2.2 e.2)
  else if e.1 = 1 then (p.1 ++ [(e.2, 2, p.2.2.2.1.length)], p.2.1, p.2.2.1, p.2.2.2.1 ++ [e.2], if mnyF K e.2 ≠ bs ∨ ¬ prm bs then wrg (w3F P W p.1 p.2.2.2.2 e.2) 5 (P e.2) else w3F P W p.1 p.2.2.2.2 e.2)
  else if e.1 = 2 then (p.1, p.2.1, p.2.2.1, p.2.2.2.1, w3F P W p.1 p.2.2.2.2 e.2)
  else if e.1 = 3 then (p.1 ++ [(e.2, 1, p.2.2.1)], p.2.1, p.2.2.1 + 1, p.2.2.2.1, p.2.2.2.2)
  else (p.1, p.2.1, p.2.2.1, p.2.2.2.1, evW (nmL W p.1) P W p.2.2.2.2 e)
def pmF (K P W : Nat → Nat) (bs : Nat) (es : List (Nat × Nat)) : PM := es.foldl (evM K P W bs) ([], 0, 0, [], (0, 0))
theorem evM_use {K P W : Nat → Nat} {bs : Nat} : ∀ (es : List (Nat × Nat)) (p : PM), (∀ e ∈ es, e.1 = 4 ∨ e.1 = 5) → es.foldl (evM K P W bs) p = (p.1, p.2.1, p.2.2.1, p.2.2.2.1, es.foldl (evW (nmL W p.1) P W) p.2.2.2.2)
  | [], p, _ => rfl
  | e :: es, p, h => by
    have h0 := h e List.mem_cons_self
    rw [List.foldl_cons, List.foldl_cons, evM_use es _ (fun x hx => h x (List.mem_cons_of_mem _ hx))]
    have e1 : evM K P W bs p e = (p.1, p.2.1, p.2.2.1, p.2.2.2.1, evW (nmL W p.1) P W p.2.2.2.2 e) := by
      unfold evM
      rw [if_neg (by omega), if_neg (by omega), if_neg (by omega), if_neg (by omega)]
    rw [e1]
theorem pmF_app {K P W : Nat → Nat} {bs : Nat} (es : List (Nat × Nat)) (e : Nat × Nat) : pmF K P W bs (es ++ [e]) = evM K P W bs (pmF K P W bs es) e := by
  unfold pmF
  rw [List.foldl_append]
  rfl
theorem pmF_use {K P W : Nat → Nat} {bs : Nat} (es fs : List (Nat × Nat)) (h : ∀ e ∈ fs, e.1 = 4 ∨ e.1 = 5) : pmF K P W bs (es ++ fs) = ((pmF K P W bs es).1, (pmF K P W bs es).2.1, (pmF K P W bs es).2.2.1, (pmF K P W bs es).2.2.2.1, fs.foldl (evW (nmL W (pmF K P W bs es).1) P W) (pmF K P W bs es).2.2.2.2) := by
  unfold pmF
  rw [List.foldl_append, evM_use fs _ h]
/-! what the grammar writes -/
/-- an order that names has its event -/
def oe (s : GS) : Prop := ∀ x ∈ s.2.1, (x.1 = 2 → (5, x.2) ∈ s.2.2) ∧ (x.1 = 9 → (4, x.2) ∈ s.2.2)
def gx (s s2 : GS) : Prop := (∃ xs, s2.2.1 = s.2.1 ++ xs ∧ ∀ x ∈ xs, x.1 ≠ 6 ∧ x.1 ≠ 7) ∧ (∃ es, s2.2.2 = s.2.2 ++ es ∧ ∀ e ∈ es, e.1 = 4 ∨ e.1 = 5) ∧ (oe s → oe s2)
theorem gx.refl (s : GS) : gx s s := ⟨⟨[], by simp, fun x hx => absurd hx List.not_mem_nil⟩, ⟨[], by simp, fun x hx => absurd hx List.not_mem_nil⟩, fun h => h⟩
theorem gx.trans {a b c : GS} (h1 : gx a b) (h2 : gx b c) : gx a c := by
  obtain ⟨⟨xs, x1, x2⟩, ⟨es, e1, e2⟩, o1⟩ := h1
  obtain ⟨⟨ys, y1, y2⟩, ⟨fs, f1, f2⟩, o2⟩ := h2
  refine ⟨⟨xs ++ ys, by rw [y1, x1, List.append_assoc], fun x hx => ?_⟩, ⟨es ++ fs, by rw [f1, e1, List.append_assoc], fun x hx => ?_⟩, fun h => o2 (o1 h)⟩
  · rcases List.mem_append.mp hx with q | q
    · exact x2 x q
    · exact y2 x q
  · rcases List.mem_append.mp hx with q | q
    · exact e2 x q
    · exact f2 x q
theorem gx_same {s s2 : GS} (h : s2.2 = s.2) : gx s s2 := by
  refine ⟨⟨[], by rw [h]; simp, fun x hx => absurd hx List.not_mem_nil⟩, ⟨[], by rw [h]; simp, fun x hx => absurd hx List.not_mem_nil⟩, fun ho => ?_⟩
  unfold oe
  rw [h]
  exact ho
theorem gx_wr (s : GS) {o a : Nat} (h6 : o ≠ 6 ∧ o ≠ 7) (h2 : o ≠ 2) (h9 : o = 9 → (4, a) ∈ s.2.2) : gx s (wrF o a s) := by
  refine ⟨⟨[(o, a)], rfl, fun x hx => by rw [List.mem_singleton.mp hx]; exact h6⟩, ⟨[], by show s.2.2 = _; simp, fun x hx => absurd hx List.not_mem_nil⟩, fun ho x hx => ?_⟩
  rcases List.mem_append.mp hx with q | q
  · exact ho x q
  · rw [List.mem_singleton.mp q]
    exact ⟨fun z => absurd z h2, h9⟩
theorem gx_ev (s : GS) {g a : Nat} (h : g = 4 ∨ g = 5) : gx s (gvF g a s) := by
  refine ⟨⟨[], by show s.2.1 = _; simp, fun x hx => absurd hx List.not_mem_nil⟩, ⟨[(g, a)], rfl, fun x hx => by rw [List.mem_singleton.mp hx]; exact h⟩, fun ho x hx => ?_⟩
  exact ⟨fun z => List.mem_append_left _ ((ho x hx).1 z), fun z => List.mem_append_left _ ((ho x hx).2 z)⟩
theorem gx_val (s : GS) (a : Nat) : gx s (gvF 5 a (wrF 2 a s)) := by
  refine ⟨⟨[(2, a)], rfl, fun x hx => by rw [List.mem_singleton.mp hx]; exact ⟨by show (2 : Nat) ≠ 6; decide, by show (2 : Nat) ≠ 7; decide⟩⟩, ⟨[(5, a)], rfl, fun x hx => by rw [List.mem_singleton.mp hx]; exact Or.inr rfl⟩, fun ho x hx => ?_⟩
  have hx2 : x ∈ s.2.1 ++ [(2, a)] := hx
  rcases List.mem_append.mp hx2 with q | q
  · exact ⟨fun z => List.mem_append_left _ ((ho x q).1 z), fun z => List.mem_append_left _ ((ho x q).2 z)⟩
  · rw [List.mem_singleton.mp q]
    exact ⟨fun _ => List.mem_append_right _ List.mem_cons_self, fun z => absurd z (by show ¬ (2 : Nat) = 9; decide)⟩
def gev2 (r : GR) (Q : GS → Prop) : Prop := ∀ s, r = .inr s → Q s
theorem gev2_gb {r : GR} {f : GS → GR} {Q Q2 : GS → Prop} (h : gev2 r Q) (hf : ∀ s, Q s → gev2 (f s) Q2) : gev2 (gb r f) Q2 := by
  intro s2 e
  cases r with
  | inl e => cases e
  | inr s => exact hf s (h s rfl) s2 e
section GXP
variable {K : Nat → Nat}
def gXp (F : GS → GR) : Prop := ∀ s : GS, gev2 (F s) (fun s2 => gx s s2)
theorem gx_ps (s : GS) : gev2 (psF s) (fun s2 => gx s s2 ∧ s2.1 = s.1 + 1 ∧ s2.2 = s.2) := fun s2 e => ⟨gx_same (psF_ok e).2.2, (psF_ok e).1, (psF_ok e).2.2⟩
theorem gx_tk (k : Nat) (s : GS) : gev2 (tkF K k s) (fun s2 => gx s s2 ∧ s2.1 = s.1 + 1 ∧ s2.2 = s.2) := fun s2 e => gx_ps s s2 (tkF_ok e).2
theorem gX_prodL {u : GS → GR} (hu : gXp u) : ∀ (f : Nat) (s : GS), gev2 (prodL K u f s) (fun s2 => gx s s2)
  | 0, s => fun s2 e => by cases e; exact gx.refl s
  | f + 1, s => by
    rw [prodL]
    split
    · refine gev2_gb (gx_ps s) (fun s1 h1 => gev2_gb (hu s1) (fun s2 h2 s3 e => ?_))
      exact (h1.1.trans (h2.trans (gx_wr s2 ⟨by decide, by decide⟩ (by decide) (fun z => absurd z (by decide))))).trans (gX_prodL hu f _ s3 e)
    · intro s2 e; cases e; exact gx.refl s
theorem gX_prodF {u : GS → GR} (hu : gXp u) : gXp (prodF K u) := fun s => gev2_gb (hu s) (fun s1 h1 s2 e => h1.trans (gX_prodL hu 300 s1 s2 e))
theorem gX_sumL {u : GS → GR} (hu : gXp u) : ∀ (f : Nat) (s : GS), gev2 (sumL K u f s) (fun s2 => gx s s2)
  | 0, s => fun s2 e => by cases e; exact gx.refl s
  | f + 1, s => by
    rw [sumL]
    split
    · rename_i hk
      refine gev2_gb (gx_ps s) (fun s1 h1 => gev2_gb (hu s1) (fun s2 h2 s3 e => ?_))
      exact (h1.1.trans (h2.trans (gx_wr s2 ⟨by omega, by omega⟩ (by omega) (fun z => by omega)))).trans (gX_sumL hu f _ s3 e)
    · intro s2 e; cases e; exact gx.refl s
theorem gX_sumF {u : GS → GR} (hu : gXp u) : gXp (sumF K u) := fun s => gev2_gb (hu s) (fun s1 h1 s2 e => h1.trans (gX_sumL hu 300 s1 s2 e))
theorem gX_unit : ∀ d, gXp (unitF K d)
  | d => fun s => by
    by_cases k2 : K s.1 = 2
    · rw [unitF_v k2]
      exact fun s2 e => (gx_val s s.1).trans (gx_same (psF_ok e).2.2)
    by_cases k3 : K s.1 = 3
    · rw [unitF_i k3]
      exact fun s2 e => (gx_wr s ⟨by decide, by decide⟩ (by decide) (fun z => absurd z (by decide))).trans (gx_same (psF_ok e).2.2)
    have pre : gev2 (if d = 0 then Sum.inl (2, s.1) else psF s : GR) (fun s1 => (gx s s1 ∧ s1.1 = s.1 + 1 ∧ s1.2 = s.2) ∧ d ≠ 0) := by
      by_cases hd : d = 0
      · rw [if_pos hd]; intro s2 e; cases e
      · rw [if_neg hd]; exact fun s2 e => ⟨gx_ps s s2 e, hd⟩
    by_cases k40 : K s.1 = 40
    · rw [unitF_p k40]
      refine gev2_gb pre (fun s1 h1 => ?_)
      have hd := h1.2
      exact gev2_gb (gX_sumF (gX_prodF (gX_unit (d - 1))) s1) (fun s2 h2 => gev2_gb (gx_tk 41 s2) (fun s3 h3 s4 e => by cases e; exact (h1.1.1.trans h2).trans h3.1))
    by_cases k8 : K s.1 = 8
    · rw [unitF_c k8]
      refine gev2_gb pre (fun s1 h1 => ?_)
      have hd := h1.2
      exact gev2_gb (gX_unit (d - 1) s1) (fun s2 h2 => gev2_gb (gX_unit (d - 1) s2) (fun s3 h3 => gev2_gb (gX_unit (d - 1) s3) (fun s4 h4 s5 e => by
        cases e
        exact (((h1.1.1.trans h2).trans h3).trans h4).trans (gx_wr s4 ⟨by decide, by decide⟩ (by decide) (fun z => absurd z (by decide))))))
    by_cases k9 : K s.1 = 9
    · rw [unitF_a k9]
      refine gev2_gb pre (fun s1 h1 => ?_)
      have hd := h1.2
      refine gev2_gb (gx_tk 2 (gvF 4 s1.1 s1)) (fun s2 h2 => gev2_gb (gX_unit (d - 1) s2) (fun s3 h3 s5 e => ?_))
      cases e
      have h4 : (4, s.1 + 1) ∈ s2.2.2 := by
        rw [h2.2.2]
        show (4, s.1 + 1) ∈ s1.2.2 ++ [(4, s1.1)]
        rw [h1.1.2.1]
        exact List.mem_append_right _ List.mem_cons_self
      have h5 : (4, s.1 + 1) ∈ s3.2.2 := by
        obtain ⟨-, ⟨es, e1, -⟩, -⟩ := h3
        rw [e1]
        exact List.mem_append_left _ h4
      exact (((h1.1.1.trans (gx_ev s1 (Or.inl rfl))).trans h2.1).trans h3).trans (gx_wr s3 ⟨by decide, by decide⟩ (by decide) (fun _ => h5))
    · rw [unitF_n (by omega)]
      intro s2 e; cases e
  termination_by d => d
  decreasing_by all_goals omega
theorem gX_expr : gXp (exprF K) := gX_sumF (gX_prodF (gX_unit 6))
/-! the numbers of a table -/
theorem numsL_fuel : ∀ (f g : Nat) (s : GS), s.1 ≤ 300 → 301 ≤ f + s.1 → 301 ≤ g + s.1 → numsL K f s = numsL K g s
  | 0, g, s, h, h1, h2 => by omega
  | f + 1, 0, s, h, h1, h2 => by omega
  | f + 1, g + 1, s, h, h1, h2 => by
    rw [numsL, numsL]
    by_cases k : K s.1 = 44
    · rw [if_pos k, if_pos k]
      refine gb_congr (fun s1 e1 => gb_congr (fun s2 e2 => ?_))
      have a1 := psF_ok e1
      have a2 := psF_ok (tkF_ok e2).2
      exact numsL_fuel f g s2 a2.2.1 (by omega) (by omega)
    · rw [if_neg k, if_neg k]
theorem numsL_un {s : GS} (h : s.1 ≤ 300) (h1 : 1 ≤ s.1) : numsL K 300 s = if K s.1 = 44 then gb (psF s) (fun s1 => numsF K s1) else .inr s := by
  rw [show numsL K 300 s = numsL K (299 + 1) s from rfl, numsL]
  by_cases k : K s.1 = 44
  · rw [if_pos k, if_pos k]
    refine gb_congr (fun s1 e1 => gb_congr (fun s2 e2 => ?_))
    have a1 := psF_ok e1
    have a2 := psF_ok (tkF_ok e2).2
    exact numsL_fuel 299 300 s2 a2.2.1 (by omega) (by omega)
  · rw [if_neg k, if_neg k]
/-- m INTS with a comma between, and no comma behind -/
def numsOK (K : Nat → Nat) (i m : Nat) : Prop := 1 ≤ m ∧ (∀ j, j < m → K (i + 2 * j) = 3) ∧ ∀ j, j + 1 < m → K (i + 2 * j + 1) = 44
theorem nbL_nums {c : Nat} : ∀ (m f i : Nat), 2 * m ≤ f → i + 2 * m ≤ c → numsOK K i m → K (i + 2 * m - 1) = 59 → nbL K c f i = m
  | 0, f, i, _, _, h, _ => absurd h.1 (by decide)
  | m + 1, f, i, hf, hc, h, he => by
    obtain ⟨h1, h2, h3⟩ := h
    obtain ⟨f, rfl⟩ : ∃ g, f = g + 2 := ⟨f - 2, by omega⟩
    have a0 := h2 0 (by omega)
    rw [Nat.mul_zero, Nat.add_zero] at a0
    rw [nbL, if_pos ⟨by omega, by omega⟩, if_pos a0]
    by_cases hm : m = 0
    · rw [hm] at he
      rw [nbL, if_neg (fun q => q.2 he), hm]
    · have a1 := h3 0 (by omega)
      rw [Nat.mul_zero, Nat.add_zero] at a1
      have hno : numsOK K (i + 1 + 1) m := by
        refine ⟨by omega, fun j hj => ?_, fun j hj => ?_⟩
        · have := h2 (j + 1) (by omega)
          rw [show i + 1 + 1 + 2 * j = i + 2 * (j + 1) by omega]; exact this
        · have := h3 (j + 1) (by omega)
          rw [show i + 1 + 1 + 2 * j + 1 = i + 2 * (j + 1) + 1 by omega]; exact this
      have he2 : K (i + 1 + 1 + 2 * m - 1) = 59 := by
        rw [show i + 1 + 1 + 2 * m - 1 = i + 2 * (m + 1) - 1 by omega]; exact he
      rw [nbL, if_pos ⟨by omega, by omega⟩, if_neg (by omega), nbL_nums m f (i + 1 + 1) (by omega) (by omega) hno he2]
      omega
theorem nums_b {c : Nat} {a m f : Nat} (hf : 2 * m + 1 ≤ f) (hc : a + 2 + 2 * m ≤ c) (hk : K (a + 1) = 58) (h : numsOK K (a + 2) m) (he : K (a + 2 + 2 * m - 1) = 59) : nbL K c f (a + 1) = m := by
  obtain ⟨f, rfl⟩ : ∃ g, f = g + 1 := ⟨f - 1, by omega⟩
  rw [nbL, if_pos ⟨by omega, by omega⟩, if_neg (by omega), nbL_nums m f (a + 1 + 1) (by omega) (by omega) h he]
  omega
end GXP
