/-! the tokens: two names are told apart by both; places grow -/
theorem numF_cg {b z : Nat} {B C : Nat → Nat} {i j : Nat} : ∀ k, (∀ x, x < k → B (i + x) = C (j + x)) → numF b z B i k = numF b z C j k
  | 0, _ => rfl
  | k + 1, h => by rw [numF, numF, numF_cg k (fun x hx => h x (by omega)), h k (by omega)]
theorem name_ltr {B : Nat → Nat} {n k : Nat} (h : tkK B n k = 2) : tkP B n k < n ∧ ltr (B (tkP B n k)) := by
  unfold tkK at h
  by_cases hl : tkP B n k < n
  · rw [if_pos hl] at h
    refine ⟨hl, Decidable.byContradiction (fun q => ?_)⟩
    unfold kdF at h
    rw [if_neg q] at h
    by_cases d : dgt (B (tkP B n k))
    · rw [if_pos d] at h
      split at h <;> omega
    · rw [if_neg d] at h
      by_cases g : sgn (B (tkP B n k)) = true
      · rw [if_pos g] at h
        rw [h] at g
        exact absurd g (by decide)
      · rw [if_neg g] at h
        omega
  · rw [if_neg hl] at h
    omega
theorem name_vw {B : Nat → Nat} {n : Nat} : vwOK (tkK B n) (tkV B n) (tkW B n) := by
  intro a b ha hb
  obtain ⟨a1, a2⟩ := name_ltr ha
  obtain ⟨b1, b2⟩ := name_ltr hb
  have va : tkV B n a = numF 32 96 B (tkP B n a) (endT B n (tkP B n a) - tkP B n a) := by unfold tkV vlF; rw [if_pos a1, if_pos a2]
  have vb : tkV B n b = numF 32 96 B (tkP B n b) (endT B n (tkP B n b) - tkP B n b) := by unfold tkV vlF; rw [if_pos b1, if_pos b2]
  have la : ∀ x, x < endT B n (tkP B n a) - tkP B n a → ltr (B (tkP B n a + x)) := fun x hx => by
    rw [endT_ltr a1 a2] at hx
    exact (stp_in (P := ltr) (B := B) (n := n) (i := tkP B n a) (by omega) (by omega)).2
  have lb : ∀ x, x < endT B n (tkP B n b) - tkP B n b → ltr (B (tkP B n b + x)) := fun x hx => by
    rw [endT_ltr b1 b2] at hx
    exact (stp_in (P := ltr) (B := B) (n := n) (i := tkP B n b) (by omega) (by omega)).2
  rw [va, vb]
  unfold tkW
  constructor
  · intro e
    obtain ⟨q1, q2⟩ := numF_inj (by decide) _ _ (fun x hx => by have := la x hx; omega) (fun x hx => by have := lb x hx; omega) e
    rw [← q1]
    exact numF_cg _ q2
  · intro e
    obtain ⟨q1, q2⟩ := numF_inj (by decide) _ _ (fun x hx => by have := la x hx; omega) (fun x hx => by have := lb x hx; omega) e
    rw [← q1]
    exact numF_cg _ q2
theorem places_up {B : Nat → Nat} {n : Nat} : ∀ (d a : Nat), (∀ j, j < a + d + 1 → tkP B n j < n) → tkP B n a < tkP B n (a + d + 1)
  | 0, a, h => tkP_lt (h a (by omega))
  | d + 1, a, h => by
    have h1 := places_up d a (fun j hj => h j (by omega))
    have h2 := tkP_lt (h (a + d + 1) (by omega))
    rw [show a + (d + 1) + 1 = a + d + 1 + 1 by omega]
    omega
theorem places_lt {B : Nat → Nat} {n N : Nat} (h : ∀ j, j < N → tkK B n j ≠ 0) {a b : Nat} (hab : a < b) (hb : b ≤ N) : tkP B n a < tkP B n b := by
  have := places_up (B := B) (n := n) (b - a - 1) a (fun j hj => Decidable.byContradiction (fun q => h j (by omega) (by unfold tkK; rw [if_neg q])))
  rw [show a + (b - a - 1) + 1 = b by omega] at this
  exact this
