/-! the names of the class and of the model, side by side -/
/-- what the tokens are: V tells two names apart where W does -/
def vwOK (K V W : Nat → Nat) : Prop := ∀ a b, K a = 2 → K b = 2 → (V a = V b ↔ W a = W b)
def alE (K V : Nat → Nat) (tbs : List Nat) (e : NE) (x : MN) : Prop := e.1 = V x.1 ∧ K x.1 = 2 ∧ ((x.2.1 = 0 ∧ e.2 = (4, 40 + (x.2.2 : Int))) ∨ (x.2.1 = 1 ∧ e.2 = (6, (x.1 : Int))) ∨ (x.2.1 = 2 ∧ e.2 = (5, (x.1 : Int)) ∧ x.2.2 < tbs.length ∧ tbs.getD x.2.2 0 = x.1))
def al (K V : Nat → Nat) (tbs : List Nat) (E : List NE) (Nt : List MN) : Prop := E.length = Nt.length ∧ (∀ j, j < E.length → alE K V tbs (E.getD j (0, 0, 0)) (Nt.getD j (0, 0, 0))) ∧ ∀ i j, i < j → j < E.length → (E.getD i (0, 0, 0)).1 ≠ (E.getD j (0, 0, 0)).1
section ALI
variable {K V W : Nat → Nat} {tbs : List Nat} {E : List NE} {Nt : List MN}
theorem al_dup (hv : vwOK K V W) (h : al K V tbs E Nt) {a : Nat} (ha : K a = 2) : dupW W Nt a = true ↔ fnd (V a) E < E.length := by
  obtain ⟨h1, h2, h3⟩ := h
  rw [dupW_iff]
  constructor
  · rintro ⟨j, hj, e⟩
    have q := h2 j (by omega)
    have e2 : (E.getD j (0, 0, 0)).1 = V a := by rw [q.1, (hv _ _ q.2.1 ha)]; exact e
    refine Decidable.byContradiction (fun z => ?_)
    have := fnd_le (V a) E
    exact fnd_lt (V a) E (0, 0, 0) j (by omega) e2
  · intro q
    refine ⟨fnd (V a) E, by omega, ?_⟩
    have e := fnd_at (V a) E (0, 0, 0) q
    have q2 := h2 _ q
    exact (hv _ _ q2.2.1 ha).mp (by rw [← q2.1]; exact e)
/-- where a name is found, the model finds it by its sort -/
theorem al_lk (hv : vwOK K V W) (h : al K V tbs E Nt) {a : Nat} (ha : K a = 2) (q : Nat → Bool) : lk q (W a) (nmL W Nt) = (if fnd (V a) E < E.length ∧ q (Nt.getD (fnd (V a) E) (0, 0, 0)).2.1 = true then fnd (V a) E else Nt.length) := by
  obtain ⟨h1, h2, h3⟩ := h
  have nm : ∀ j, j < E.length → ((nmL W Nt).getD j (0, 0, 0)).1 = W a → j = fnd (V a) E ∧ fnd (V a) E < E.length := by
    intro j hj e
    have q2 := h2 j hj
    rw [nmL_at W Nt (by omega)] at e
    have e2 : (E.getD j (0, 0, 0)).1 = V a := by rw [q2.1, (hv _ _ q2.2.1 ha)]; exact e
    have hle : fnd (V a) E ≤ j := Decidable.byContradiction (fun z => fnd_lt (V a) E (0, 0, 0) j (by omega) e2)
    have hlt : fnd (V a) E < E.length := by omega
    refine ⟨Decidable.byContradiction (fun z => ?_), hlt⟩
    exact h3 (fnd (V a) E) j (by omega) hj (by rw [fnd_at (V a) E (0, 0, 0) hlt, e2])
  by_cases c : fnd (V a) E < E.length ∧ q (Nt.getD (fnd (V a) E) (0, 0, 0)).2.1 = true
  · rw [if_pos c]
    refine lk_is (d := (0, 0, 0)) (by rw [nmL_len]; omega) (fun i hi z => ?_) (fun _ => ?_)
    · have := nm i (by omega) z.1
      omega
    · rw [nmL_at W Nt (by omega)]
      have q2 := h2 _ c.1
      refine ⟨(hv _ _ q2.2.1 ha).mp ?_, c.2⟩
      rw [← q2.1]
      exact fnd_at (V a) E (0, 0, 0) c.1
  · rw [if_neg c]
    refine lk_is (d := (0, 0, 0)) (by rw [nmL_len]; exact Nat.le_refl _) (fun i hi z => ?_) (fun z => by rw [nmL_len] at z; omega)
    have e := nm i (by omega) z.1
    refine c ⟨e.2, ?_⟩
    rw [← e.1]
    have z2 := z.2
    rw [nmL_at W Nt hi] at z2
    exact z2
theorem al_T (hv : vwOK K V W) (h : al K V tbs E Nt) {a : Nat} (ha : K a = 2) : lk qT (W a) (nmL W Nt) < (nmL W Nt).length ↔ fnd (V a) E < E.length ∧ (E.getD (fnd (V a) E) (0, 0, 0)).2.1 = 5 := by
  rw [al_lk hv h ha, nmL_len]
  obtain ⟨h1, h2, h3⟩ := h
  by_cases c : fnd (V a) E < E.length
  · have q := h2 _ c
    generalize Nt.getD (fnd (V a) E) (0, 0, 0) = x at q
    generalize E.getD (fnd (V a) E) (0, 0, 0) = e at q
    have hq : qT x.2.1 = true ↔ e.2.1 = 5 := by
      unfold qT
      rw [decide_eq_true_iff]
      rcases q.2.2 with ⟨k, z⟩ | ⟨k, z⟩ | ⟨k, z, -⟩ <;> rw [k, z] <;> simp
    by_cases c5 : e.2.1 = 5
    · rw [if_pos ⟨c, hq.mpr c5⟩]
      exact ⟨fun _ => ⟨c, c5⟩, fun _ => by omega⟩
    · rw [if_neg (fun z => c5 (hq.mp z.2))]
      exact ⟨fun z => absurd z (by omega), fun z => absurd z.2 c5⟩
  · rw [if_neg (fun z => c z.1)]
    exact ⟨fun z => absurd z (by omega), fun z => absurd z.1 c⟩
theorem al_V (hv : vwOK K V W) (h : al K V tbs E Nt) {a : Nat} (ha : K a = 2) : lk qV (W a) (nmL W Nt) < (nmL W Nt).length ↔ fnd (V a) E < E.length ∧ (E.getD (fnd (V a) E) (0, 0, 0)).2.1 ≠ 5 := by
  rw [al_lk hv h ha, nmL_len]
  obtain ⟨h1, h2, h3⟩ := h
  by_cases c : fnd (V a) E < E.length
  · have q := h2 _ c
    generalize Nt.getD (fnd (V a) E) (0, 0, 0) = x at q
    generalize E.getD (fnd (V a) E) (0, 0, 0) = e at q
    have hq : qV x.2.1 = true ↔ e.2.1 ≠ 5 := by
      unfold qV
      rw [decide_eq_true_iff]
      rcases q.2.2 with ⟨k, z⟩ | ⟨k, z⟩ | ⟨k, z, -⟩ <;> rw [k, z] <;> simp
    by_cases c5 : e.2.1 ≠ 5
    · rw [if_pos ⟨c, hq.mpr c5⟩]
      exact ⟨fun _ => ⟨c, c5⟩, fun _ => by omega⟩
    · rw [if_neg (fun z => c5 (hq.mp z.2))]
      exact ⟨fun z => absurd z (by omega), fun z => absurd z.2 c5⟩
  · rw [if_neg (fun z => c z.1)]
    exact ⟨fun z => absurd z (by omega), fun z => absurd z.1 c⟩
/-- a name more -/
theorem al_add (h : al K V tbs E Nt) {tb2 : List Nat} (ht : ∀ j, j < tbs.length → j < tb2.length ∧ tb2.getD j 0 = tbs.getD j 0) {e : NE} {x : MN} (hx : alE K V tb2 e x) (hn : ¬ fnd e.1 E < E.length) : al K V tb2 (E ++ [e]) (Nt ++ [x]) := by
  obtain ⟨h1, h2, h3⟩ := h
  have up : ∀ (e : NE) (x : MN), alE K V tbs e x → alE K V tb2 e x := by
    rintro e x ⟨a1, a2, a3⟩
    refine ⟨a1, a2, ?_⟩
    rcases a3 with k | k | ⟨k1, k2, k3, k4⟩
    · exact Or.inl k
    · exact Or.inr (Or.inl k)
    · exact Or.inr (Or.inr ⟨k1, k2, (ht _ k3).1, by rw [(ht _ k3).2]; exact k4⟩)
  refine ⟨by rw [List.length_append, List.length_append, h1]; rfl, fun j hj => ?_, fun i j hij hj => ?_⟩
  · rw [List.length_append, List.length_singleton] at hj
    rw [getD_app, getD_app]
    by_cases q : j < E.length
    · rw [if_pos q, if_pos (by omega)]
      exact up _ _ (h2 j q)
    · rw [if_neg q, if_pos (show j = E.length by omega), if_neg (show ¬ j < Nt.length by omega), if_pos (show j = Nt.length by omega)]
      exact hx
  · rw [List.length_append, List.length_singleton] at hj
    rw [getD_app, getD_app, if_pos (by omega)]
    by_cases q : j < E.length
    · rw [if_pos q]
      exact h3 i j hij q
    · rw [if_neg q, if_pos (by omega)]
      have := fnd_le e.1 E
      exact fnd_lt e.1 E (0, 0, 0) i (by omega)
end ALI
