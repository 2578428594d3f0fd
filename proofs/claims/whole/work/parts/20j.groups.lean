/-! the groups are told by the orders -/
theorem split_inj {x y : Nat × Nat} (hx : x.1 = 6 ∨ x.1 = 7) (hy : y.1 = 6 ∨ y.1 = 7) {X Y : List (Nat × Nat)} : ∀ (a b : List (Nat × Nat)), (∀ z ∈ a, z.1 ≠ 6 ∧ z.1 ≠ 7) → (∀ z ∈ b, z.1 ≠ 6 ∧ z.1 ≠ 7) → a ++ x :: X = b ++ y :: Y → a = b ∧ x = y ∧ X = Y
  | [], [], _, _, e => by
    have e2 := List.cons.inj e
    exact ⟨rfl, e2.1, e2.2⟩
  | [], c :: b, _, hb, e => by
    have e2 := List.cons.inj e
    have := hb c List.mem_cons_self
    rw [← e2.1] at this
    omega
  | c :: a, [], ha, _, e => by
    have e2 := List.cons.inj e
    have := ha c List.mem_cons_self
    rw [e2.1] at this
    omega
  | c :: a, d :: b, ha, hb, e => by
    have e2 := List.cons.inj e
    obtain ⟨q1, q2, q3⟩ := split_inj hx hy a b (fun z hz => ha z (List.mem_cons_of_mem _ hz)) (fun z hz => hb z (List.mem_cons_of_mem _ hz)) e2.2
    exact ⟨by rw [e2.1, q1], q2, q3⟩
theorem flG_inj : ∀ (gs hs : List GP), (∀ g ∈ gs, (g.2.1 = 6 ∨ g.2.1 = 7) ∧ ∀ x ∈ g.1, x.1 ≠ 6 ∧ x.1 ≠ 7) → (∀ g ∈ hs, (g.2.1 = 6 ∨ g.2.1 = 7) ∧ ∀ x ∈ g.1, x.1 ≠ 6 ∧ x.1 ≠ 7) → flG gs = flG hs → gs = hs
  | [], [], _, _, _ => rfl
  | [], h :: hs, _, _, e => by
    have e2 : flG (h :: hs) = h.1 ++ ((h.2.1, h.2.2) :: flG hs) := by unfold flG; simp
    rw [e2] at e
    have := congrArg List.length e
    simp [flG] at this
  | g :: gs, [], _, _, e => by
    have e2 : flG (g :: gs) = g.1 ++ ((g.2.1, g.2.2) :: flG gs) := by unfold flG; simp
    rw [e2] at e
    have := congrArg List.length e
    simp [flG] at this
  | g :: gs, h :: hs, hg, hh, e => by
    have e1 : flG (g :: gs) = g.1 ++ ((g.2.1, g.2.2) :: flG gs) := by unfold flG; simp
    have e2 : flG (h :: hs) = h.1 ++ ((h.2.1, h.2.2) :: flG hs) := by unfold flG; simp
    rw [e1, e2] at e
    obtain ⟨q1, q2, q3⟩ := split_inj (hg g List.mem_cons_self).1 (hh h List.mem_cons_self).1 _ _ (hg g List.mem_cons_self).2 (hh h List.mem_cons_self).2 e
    have q4 := flG_inj gs hs (fun y hy => hg y (List.mem_cons_of_mem _ hy)) (fun y hy => hh y (List.mem_cons_of_mem _ hy)) q3
    rw [q4, show g = h from Prod.ext q1 q2]
