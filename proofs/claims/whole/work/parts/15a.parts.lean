/-! parts of a key: the arithmetic -/
section PARTA
theorem inv_ex : ∃ f : Int → Int, ∀ b, f b = b ^ (100001 : Nat) % 100003 := ⟨fun b => b ^ (100001 : Nat) % 100003, fun _ => rfl⟩
noncomputable def invF : Int → Int := Classical.choose inv_ex
theorem invF_eq (b : Int) : invF b = b ^ (100001 : Nat) % 100003 := Classical.choose_spec inv_ex b
theorem invF_mod (b : Int) : invF (b % 100003) = invF b := by rw [invF_eq, invF_eq, pow_emod]
theorem invF_rng (b : Int) : 0 ≤ invF b ∧ invF b < 100003 := by
  rw [invF_eq]
  exact ⟨Int.emod_nonneg _ (by decide), Int.emod_lt_of_pos _ (by decide)⟩
/-- powers by squares -/
def pwN (p : Nat) : Nat → Nat → Nat → Nat
  | 0, _, _ => 1 % p
  | f + 1, a, k => if k = 0 then 1 % p else if k % 2 = 1 then a * pwN p f (a * a % p) (k / 2) % p else pwN p f (a * a % p) (k / 2)
theorem pwN_eq {p : Nat} : ∀ (f a k : Nat), k < 2 ^ f → pwN p f a k = a ^ k % p
  | 0, a, k, h => by
    have : k = 0 := by simp at h; exact h
    subst this
    simp [pwN]
  | f + 1, a, k, h => by
    have h2 : k / 2 < 2 ^ f := by rw [Nat.pow_succ] at h; omega
    have ih := pwN_eq (p := p) f (a * a % p) (k / 2) h2
    have e : (a * a % p) ^ (k / 2) % p = a ^ (2 * (k / 2)) % p := by
      rw [← Nat.pow_mod, Nat.pow_mul, Nat.pow_two]
    unfold pwN
    by_cases h0 : k = 0
    · subst h0; simp
    · rw [if_neg h0]
      by_cases h1 : k % 2 = 1
      · rw [if_pos h1, ih, e, Nat.mul_mod_mod]
        have : k = 2 * (k / 2) + 1 := by omega
        conv => rhs; rw [this, Nat.pow_succ, Nat.mul_comm]
      · rw [if_neg h1, ih, e]
        have : k = 2 * (k / 2) := by omega
        conv => rhs; rw [this]
/-- a set's part -/
def bitS (m j : Nat) : Bool := decide (1 ≤ j ∧ m / 2 ^ (j - 1) % 2 = 1)
def prd (m i : Nat) (x : Int) : Nat → Int
  | 0 => 1
  | j + 1 => prd m i x j * (if bitS m j = true ∧ j ≠ i then x - (j : Int) else 1)
theorem prd_succ (m i : Nat) (x : Int) (j : Nat) : prd m i x (j + 1) = prd m i x j * (if bitS m j = true ∧ j ≠ i then x - (j : Int) else 1) := rfl
theorem prd_stop {m i : Nat} {x : Int} {n : Nat} (h : ∀ j, n ≤ j → bitS m j = false) : ∀ d, prd m i x (n + d) = prd m i x n
  | 0 => rfl
  | d + 1 => by rw [Nat.add_succ, prd_succ, prd_stop h d, if_neg (fun q => by rw [h _ (by omega)] at q; exact absurd q.1 (by decide)), Int.mul_one]
noncomputable def wtF (m i : Nat) (x : Int) : Int := (prd m i x 7 * invF (prd m i (i : Int) 7)) % 100003
noncomputable def vaS (m : Nat) (y : Nat → Int) (x : Int) (n : Nat) : Int := fb_si (fun i => if bitS m i = true then y i * wtF m i x else 0) n
noncomputable def vaF (m : Nat) (y : Nat → Int) (x : Int) : Int := vaS m y x 7 % 100003
theorem vaS_stop {m : Nat} {y : Nat → Int} {x : Int} {n : Nat} (h : ∀ j, n ≤ j → bitS m j = false) : ∀ d, vaS m y x (n + d) = vaS m y x n
  | 0 => rfl
  | d + 1 => by
    have ih := vaS_stop (y := y) (x := x) h d
    unfold vaS at ih ⊢
    rw [Nat.add_succ, fb_si_succ, ih, if_neg (fun q => by rw [h _ (by omega)] at q; exact absurd q (by decide)), Int.add_zero]
theorem vaF_rng (m : Nat) (y : Nat → Int) (x : Int) : 0 ≤ vaF m y x ∧ vaF m y x < 100003 := ⟨Int.emod_nonneg _ (by decide), Int.emod_lt_of_pos _ (by decide)⟩
/-- the first k of a set -/
def fnM (m k : Nat) : Nat → Nat
  | 0 => 0
  | j + 1 => fnM m k j + (if bitS m j = true ∧ fb_ct (bitS m) j < k then 2 ^ (j - 1) else 0)
def first (m k : Nat) : Nat := fnM m k 7
theorem fnM_ok : ∀ m, m < 64 → ∀ k, k < 7 → first m k < 64 ∧ ∀ j, j < 7 → bitS (first m k) j = (bitS m j && decide (fb_ct (bitS m) j < k)) := by decide +kernel
theorem fnM_lt : ∀ m, m < 64 → ∀ k, k < 7 → ∀ j, j < 8 → fnM m k j < 2 ^ (j - 1) ∨ j = 0 := by decide +kernel
theorem bit_hi {m n j : Nat} (hm : m < 2 ^ n) (hj : n < j) : bitS m j = false := by
  unfold bitS
  refine decide_eq_false (fun q => ?_)
  have h : m < 2 ^ (j - 1) := Nat.lt_of_lt_of_le hm (Nat.pow_le_pow_right (by decide) (by omega))
  rw [Nat.div_eq_of_lt h] at q
  exact absurd q.2 (by decide)
theorem bit_0 (m : Nat) : bitS m 0 = false := rfl
theorem ct_pop : ∀ m, m < 64 → popN m = fb_ct (bitS m) 7 := by decide +kernel
/-! the weights by naturals -/
def sbN (a b : Nat) : Nat := (a + 100003 - b) % 100003
def prN (m i x : Nat) : Nat → Nat
  | 0 => 1
  | j + 1 => if bitS m j && !(j == i) then prN m i x j * sbN x j % 100003 else prN m i x j
theorem cast_mod {a b : Nat} : ((a % b : Nat) : Int) = (a : Int) % (b : Int) := Int.natCast_emod a b
theorem prN_eq (m i x : Nat) : ∀ j, j ≤ 7 → ((prN m i x j : Nat) : Int) = prd m i (x : Int) j % 100003
  | 0, _ => rfl
  | j + 1, hj => by
    have ih := prN_eq m i x j (by omega)
    rw [prd_succ]
    unfold prN
    by_cases h : bitS m j = true ∧ j ≠ i
    · have h2 : (bitS m j && !(j == i)) = true := by rw [h.1]; simp [h.2]
      rw [if_pos h2, if_pos h, cast_mod, Int.natCast_mul, ih]
      unfold sbN
      rw [cast_mod]
      have e : ((x + 100003 - j : Nat) : Int) = ((x : Int) - (j : Int)) + 100003 := by omega
      rw [e]
      show (prd m i (x : Int) j % 100003 * (((x : Int) - (j : Int) + 100003) % 100003)) % 100003 = _
      rw [Int.add_emod_right, ← Int.mul_emod]
    · have h2 : ¬ (bitS m j && !(j == i)) = true := by
        intro q
        rw [Bool.and_eq_true] at q
        exact h ⟨q.1, by intro e; rw [e] at q; simp at q⟩
      rw [if_neg h2, if_neg h, Int.mul_one, ih]
def wtN (m i x : Nat) : Nat := prN m i x 7 * pwN 100003 17 (prN m i i 7) 100001 % 100003
theorem wtN_eq (m i x : Nat) : ((wtN m i x : Nat) : Int) = wtF m i (x : Int) := by
  unfold wtN wtF
  have h1 := prN_eq m i x 7 (Nat.le_refl _)
  have h2 := prN_eq m i i 7 (Nat.le_refl _)
  have h3 : ((pwN 100003 17 (prN m i i 7) 100001 : Nat) : Int) = invF (prd m i (i : Int) 7) := by
    rw [← invF_mod, ← h2, invF_eq, pwN_eq 17 _ 100001 (by decide), cast_mod, Int.natCast_pow]
    rfl
  rw [cast_mod, Int.natCast_mul, h1, h3]
  show (prd m i (x : Int) 7 % 100003 * invF (prd m i (i : Int) 7)) % 100003 = _
  rw [emod_mul_mod]
end PARTA
