/-! parts of a key: what lies on one -/
section PARTB
theorem wt_own : ∀ m, m < 64 → ∀ i, i < 7 → bitS m i = true → ∀ x, x < 7 → bitS m x = true → wtN m i x = if x = i then 1 else 0 := by decide +kernel
theorem bit_ge {m j : Nat} (h : bitS m j = true) : 1 ≤ j := (of_decide_eq_true h).1
theorem va_own {m : Nat} (hm : m < 64) {y : Nat → Int} (hy : ∀ j, 1 ≤ j → j < 7 → 0 ≤ y j ∧ y j < 100003) {x : Nat} (hx : x < 7) (hb : bitS m x = true) : vaF m y x = y x := by
  have key : ∀ n, n ≤ 7 → vaS m y x n = if x < n then y x else 0 := by
    intro n
    induction n with
    | zero => intro _; rfl
    | succ n ih =>
      intro hn
      have ih := ih (by omega)
      unfold vaS at ih ⊢
      rw [fb_si_succ, ih]
      by_cases hbn : bitS m n = true
      · rw [if_pos hbn, ← wtN_eq, wt_own m hm n (by omega) hbn x hx hb]
        by_cases hxn : x = n
        · subst hxn
          rw [if_neg (by omega), if_pos rfl, if_pos (by omega)]
          omega
        · rw [if_neg hxn]
          by_cases h3 : x < n
          · rw [if_pos h3, if_pos (by omega)]; omega
          · rw [if_neg h3, if_neg (by omega)]; omega
      · rw [if_neg hbn]
        have hxn : x ≠ n := fun q => hbn (by rw [← q]; exact hb)
        by_cases h3 : x < n
        · rw [if_pos h3, if_pos (by omega)]; omega
        · rw [if_neg h3, if_neg (by omega)]; omega
  unfold vaF
  have hx1 : 1 ≤ x := bit_ge hb
  rw [key 7 (Nat.le_refl _), if_pos hx, Int.emod_eq_of_lt (hy x hx1 hx).1 (hy x hx1 hx).2]
/-- all points of a set lie on what its first k spell -/
def lies (m k : Nat) (y : Nat → Int) : Prop := ∀ i, i < 7 → bitS m i = true → vaF (first m k) y i = y i
theorem lies_iff {m k : Nat} (hm : m < 64) (hk : k < 7) {y : Nat → Int} (hy : ∀ j, 1 ≤ j → j < 7 → 0 ≤ y j ∧ y j < 100003) : lies m k y ↔ ∀ i, i < 7 → bitS m i = true → k ≤ fb_ct (bitS m) i → vaF (first m k) y i = y i := by
  refine ⟨fun h i hi hb _ => h i hi hb, fun h i hi hb => ?_⟩
  have hf := fnM_ok m hm k hk
  by_cases hc : k ≤ fb_ct (bitS m) i
  · exact h i hi hb hc
  · exact va_own hf.1 hy hi (by rw [hf.2 i hi, hb, decide_eq_true (by omega)]; rfl)
/-- what the points of P spell is what those of Q spell -/
def exN (P Q i x : Nat) : Bool := (fb_sm (fun q => if bitS Q q then wtN P i q * wtN Q q x else 0) 7) % 100003 == wtN P i x
def exA (P Q : Nat) : Bool := (List.range 7).all (fun i => !(bitS P i) || (List.range 7).all (fun x => exN P Q i x))
theorem exA_at {P Q : Nat} (h : exA P Q = true) {i x : Nat} (hi : i < 7) (hx : x < 7) (hb : bitS P i = true) : fb_si (fun q => if bitS Q q = true then wtF P i q * wtF Q q x else 0) 7 % 100003 = wtF P i x := by
  have h1 := List.all_eq_true.mp h i (List.mem_range.mpr hi)
  rw [hb] at h1
  have h2 := List.all_eq_true.mp (by simpa using h1) x (List.mem_range.mpr hx)
  unfold exN at h2
  have h3 := eq_of_beq h2
  have h4 : ((fb_sm (fun q => if bitS Q q then wtN P i q * wtN Q q x else 0) 7 : Nat) : Int) = fb_si (fun q => if bitS Q q = true then wtF P i q * wtF Q q x else 0) 7 := by
    rw [← fb_si_nat]
    refine fb_si_cong (fun q _ => ?_)
    by_cases hq : bitS Q q = true
    · rw [if_pos hq, if_pos hq, Int.natCast_mul, wtN_eq, wtN_eq]
    · rw [if_neg hq, if_neg hq]; rfl
  rw [← h4, ← wtN_eq, ← h3, cast_mod]
  rfl
theorem si_swap (F : Nat → Nat → Int) (n : Nat) : ∀ m, fb_si (fun a => fb_si (fun b => F a b) n) m = fb_si (fun b => fb_si (fun a => F a b) m) n
  | 0 => by
    have : ∀ n, fb_si (fun b => fb_si (fun a => F a b) 0) n = 0 := by
      intro n
      induction n with
      | zero => rfl
      | succ n ih => rw [fb_si_succ, ih]; rfl
    rw [this]; rfl
  | m + 1 => by
    rw [fb_si_succ, si_swap F n m, ← fb_si_add]
    exact fb_si_cong (fun b _ => (fb_si_succ _ _).symm)
theorem si_mod {f g : Nat → Int} {p : Int} : ∀ {n : Nat}, (∀ k, k < n → f k % p = g k % p) → fb_si f n % p = fb_si g n % p
  | 0, _ => rfl
  | n + 1, h => by
    rw [fb_si_succ, fb_si_succ, Int.add_emod, si_mod (fun k hk => h k (by omega)), h n (by omega), ← Int.add_emod]
theorem va_change {P Q : Nat} {y : Nat → Int} (hE : exA P Q = true) (hQ : ∀ q, q < 7 → bitS Q q = true → y q = vaF P y q) {x : Nat} (hx : x < 7) : vaF Q y x = vaF P y x := by
  unfold vaF
  have e1 : vaS Q y x 7 % 100003 = fb_si (fun q => fb_si (fun i => if bitS Q q = true then (if bitS P i = true then y i * wtF P i q * wtF Q q x else 0) else 0) 7) 7 % 100003 := by
    refine si_mod (fun q hq => ?_)
    by_cases hb : bitS Q q = true
    · rw [if_pos hb, hQ q hq hb]
      unfold vaF vaS
      rw [emod_mul_mod]
      congr 1
      rw [Int.mul_comm, ← fb_si_mul]
      refine fb_si_cong (fun i _ => ?_)
      rw [if_pos hb]
      by_cases hp : bitS P i = true
      · rw [if_pos hp, if_pos hp, Int.mul_comm]
      · rw [if_neg hp, if_neg hp, Int.mul_zero]
    · rw [if_neg hb]
      have : ∀ n, fb_si (fun i => if bitS Q q = true then (if bitS P i = true then y i * wtF P i q * wtF Q q x else 0) else 0) n = 0 := by
        intro n
        induction n with
        | zero => rfl
        | succ n ih => rw [fb_si_succ, ih, if_neg hb]; rfl
      rw [this]
  rw [e1, si_swap]
  refine si_mod (fun i hi => ?_)
  by_cases hp : bitS P i = true
  · rw [if_pos hp, ← exA_at hE hi hx hp, mul_emod_r, ← fb_si_mul]
    congr 1
    refine fb_si_cong (fun q _ => ?_)
    by_cases hb : bitS Q q = true
    · rw [if_pos hb, if_pos hp, if_pos hb, Int.mul_assoc]
    · rw [if_neg hb, if_neg hb, Int.mul_zero]
  · rw [if_neg hp]
    have : ∀ n, fb_si (fun q => if bitS Q q = true then (if bitS P i = true then y i * wtF P i q * wtF Q q x else 0) else 0) n = 0 := by
      intro n
      induction n with
      | zero => rfl
      | succ n ih => rw [fb_si_succ, ih, if_neg hp, ite_self]; rfl
    rw [this]
def without (n i : Nat) : Nat := 2 ^ n - 1 - (if 1 ≤ i ∧ i ≤ n then 2 ^ (i - 1) else 0)
def wout2 (n i j : Nat) : Nat := 2 ^ n - 1 - 2 ^ (i - 1) - 2 ^ (j - 1)
def exW (n k i j : Nat) : Bool := exA (first (without n i) k) (first (wout2 n i j) k) && exA (first (without n j) k) (first (wout2 n i j) k) && exA (first (wout2 n i j) k) (first (without n 0) k)
theorem wo_bits : ∀ n, n < 7 → ∀ i, i < 7 → i ≤ n → without n i < 2 ^ n ∧ ∀ q, q < 7 → bitS (without n i) q = decide (1 ≤ q ∧ q ≤ n ∧ q ≠ i) := by decide +kernel
theorem w2_all : (List.range 7).all (fun n => (List.range 7).all (fun i => (List.range 7).all (fun j => !(decide (1 ≤ i ∧ i < j ∧ j ≤ n)) || (decide (wout2 n i j < 64) && (List.range 7).all (fun q => bitS (wout2 n i j) q == decide (1 ≤ q ∧ q ≤ n ∧ q ≠ i ∧ q ≠ j)))))) = true := by decide +kernel
theorem w2_bits {n i j : Nat} (hn : n < 7) (hi : 1 ≤ i) (hij : i < j) (hj : j ≤ n) : wout2 n i j < 64 ∧ ∀ q, q < 7 → bitS (wout2 n i j) q = decide (1 ≤ q ∧ q ≤ n ∧ q ≠ i ∧ q ≠ j) := by
  have h1 := List.all_eq_true.mp w2_all n (List.mem_range.mpr hn)
  have h2 := List.all_eq_true.mp h1 i (List.mem_range.mpr (by omega))
  have h3 := List.all_eq_true.mp h2 j (List.mem_range.mpr (by omega))
  rw [decide_eq_true (show 1 ≤ i ∧ i < j ∧ j ≤ n from ⟨hi, hij, hj⟩), Bool.not_true, Bool.false_or] at h3
  obtain ⟨h4, h5⟩ := Bool.and_eq_true_iff.mp h3
  exact ⟨of_decide_eq_true h4, fun q hq => eq_of_beq (List.all_eq_true.mp h5 q (List.mem_range.mpr hq))⟩
def exL (n k : Nat) : Bool := (List.range 7).all (fun i => (List.range 7).all (fun j => !(decide (1 ≤ i ∧ i < j ∧ j ≤ n)) || exW n k i j))
theorem exL_31 : exL 3 1 = true := by decide +kernel
theorem exL_41 : exL 4 1 = true := by decide +kernel
theorem exL_42 : exL 4 2 = true := by decide +kernel
theorem exL_51 : exL 5 1 = true := by decide +kernel
theorem exL_52 : exL 5 2 = true := by decide +kernel
theorem exL_53 : exL 5 3 = true := by decide +kernel
theorem exL_61 : exL 6 1 = true := by decide +kernel
theorem exL_62 : exL 6 2 = true := by decide +kernel
theorem exL_63 : exL 6 3 = true := by decide +kernel
theorem exL_64 : exL 6 4 = true := by decide +kernel
theorem exL_all {n k : Nat} (hn : n < 7) (hk : 1 ≤ k) (hkn : k + 2 ≤ n) : exL n k = true := by
  have h : (n = 3 ∧ k = 1) ∨ (n = 4 ∧ k = 1) ∨ (n = 4 ∧ k = 2) ∨ (n = 5 ∧ k = 1) ∨ (n = 5 ∧ k = 2) ∨ (n = 5 ∧ k = 3) ∨ (n = 6 ∧ k = 1) ∨ (n = 6 ∧ k = 2) ∨ (n = 6 ∧ k = 3) ∨ (n = 6 ∧ k = 4) := by omega
  rcases h with ⟨rfl, rfl⟩ | ⟨rfl, rfl⟩ | ⟨rfl, rfl⟩ | ⟨rfl, rfl⟩ | ⟨rfl, rfl⟩ | ⟨rfl, rfl⟩ | ⟨rfl, rfl⟩ | ⟨rfl, rfl⟩ | ⟨rfl, rfl⟩ | ⟨rfl, rfl⟩
  · exact exL_31
  · exact exL_41
  · exact exL_42
  · exact exL_51
  · exact exL_52
  · exact exL_53
  · exact exL_61
  · exact exL_62
  · exact exL_63
  · exact exL_64
end PARTB
