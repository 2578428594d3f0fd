/-! parts of a key: one wrong part at most; Horner -/
section PARTC
theorem exW_at {n k i j : Nat} (hn : n < 7) (hk : 1 ≤ k) (hkn : k + 2 ≤ n) (hi : 1 ≤ i) (hij : i < j) (hj : j ≤ n) : exW n k i j = true := by
  have h1 := List.all_eq_true.mp (exL_all hn hk hkn) i (List.mem_range.mpr (by omega))
  have h2 := List.all_eq_true.mp h1 j (List.mem_range.mpr (by omega))
  rw [decide_eq_true (show 1 ≤ i ∧ i < j ∧ j ≤ n from ⟨hi, hij, hj⟩)] at h2
  simpa using h2
theorem first_in {m k q : Nat} (hm : m < 64) (hk : k < 7) (hq : q < 7) (h : bitS (first m k) q = true) : bitS m q = true := by
  rw [(fnM_ok m hm k hk).2 q hq, Bool.and_eq_true] at h
  exact h.1
theorem lies_sub {m1 m2 k : Nat} {y : Nat → Int} (hk : k < 7) (hm2 : m2 < 64) (hE : exA (first m1 k) (first m2 k) = true) (hs : ∀ q, q < 7 → bitS m2 q = true → bitS m1 q = true) (h1 : lies m1 k y) {x : Nat} (hx : x < 7) : vaF (first m2 k) y x = vaF (first m1 k) y x :=
  va_change hE (fun q hq hb => (h1 q hq (hs q hq (first_in hm2 hk hq hb))).symm) hx
theorem lies_two {m0 m1 m2 m3 k : Nat} {y : Nat → Int} (hk : k < 7) (hm0 : m0 < 64) (hm3 : m3 < 64) (hE1 : exA (first m1 k) (first m3 k) = true) (hE2 : exA (first m2 k) (first m3 k) = true) (hE3 : exA (first m3 k) (first m0 k) = true) (hs1 : ∀ q, q < 7 → bitS m3 q = true → bitS m1 q = true) (hs2 : ∀ q, q < 7 → bitS m3 q = true → bitS m2 q = true) (hs : ∀ q, q < 7 → bitS m0 q = true → bitS m1 q = true ∨ bitS m2 q = true) (h1 : lies m1 k y) (h2 : lies m2 k y) : lies m0 k y := by
  have hall : ∀ q, q < 7 → bitS m0 q = true → y q = vaF (first m3 k) y q := by
    intro q hq hb
    rcases hs q hq hb with h | h
    · rw [lies_sub hk hm3 hE1 hs1 h1 hq, h1 q hq h]
    · rw [lies_sub hk hm3 hE2 hs2 h2 hq, h2 q hq h]
  intro x hx hb
  rw [va_change hE3 (fun q hq hbq => hall q hq (first_in hm0 hk hq hbq)) hx]
  exact (hall x hx hb).symm
theorem lt64 {n m : Nat} (hn : n < 7) (h : m < 2 ^ n) : m < 64 := Nat.lt_of_lt_of_le h (Nat.le_trans (Nat.pow_le_pow_right (by decide) (show n ≤ 6 by omega)) (by decide))
theorem exW_3 {n k i j : Nat} (h : exW n k i j = true) : exA (first (without n i) k) (first (wout2 n i j) k) = true ∧ exA (first (without n j) k) (first (wout2 n i j) k) = true ∧ exA (first (wout2 n i j) k) (first (without n 0) k) = true := by
  unfold exW at h
  generalize exA (first (without n i) k) (first (wout2 n i j) k) = a at h ⊢
  generalize exA (first (without n j) k) (first (wout2 n i j) k) = b at h ⊢
  generalize exA (first (wout2 n i j) k) (first (without n 0) k) = c at h ⊢
  revert h
  cases a <;> cases b <;> cases c <;> decide
theorem lies_one {n k : Nat} (hn : n < 7) (hk : 1 ≤ k) (hkn : k + 2 ≤ n) {y : Nat → Int} {i j : Nat} (hi : 1 ≤ i) (hij : i < j) (hj : j ≤ n) (h1 : lies (without n i) k y) (h2 : lies (without n j) k y) : lies (without n 0) k y := by
  have hi7 : i < 7 := by omega
  have hj7 : j < 7 := by omega
  have hk7 : k < 7 := by omega
  have hin : i ≤ n := by omega
  have hij2 : i ≠ j := by omega
  obtain ⟨hE1, hE2, hE3⟩ := exW_3 (exW_at hn hk hkn hi hij hj)
  have b0 := wo_bits n hn 0 (by decide) (Nat.zero_le _)
  have bi := wo_bits n hn i hi7 hin
  have bj := wo_bits n hn j hj7 hj
  have b2 := w2_bits hn hi hij hj
  generalize without n 0 = m0 at b0 hE3 ⊢
  generalize without n i = m1 at bi hE1 h1
  generalize without n j = m2 at bj hE2 h2
  generalize wout2 n i j = m3 at b2 hE1 hE2 hE3
  refine lies_two hk7 (lt64 hn b0.1) b2.1 hE1 hE2 hE3 (fun q hq hb => ?_) (fun q hq hb => ?_) (fun q hq hb => ?_) h1 h2
  · rw [b2.2 q hq] at hb
    have := of_decide_eq_true hb
    rw [bi.2 q hq]
    exact decide_eq_true ⟨this.1, this.2.1, this.2.2.1⟩
  · rw [b2.2 q hq] at hb
    have := of_decide_eq_true hb
    rw [bj.2 q hq]
    exact decide_eq_true ⟨this.1, this.2.1, this.2.2.2⟩
  · rw [b0.2 q hq] at hb
    have := of_decide_eq_true hb
    by_cases hqi : q = i
    · refine Or.inr ?_
      rw [bj.2 q hq]
      exact decide_eq_true ⟨this.1, this.2.1, by rw [hqi]; exact hij2⟩
    · refine Or.inl ?_
      rw [bi.2 q hq]
      exact decide_eq_true ⟨this.1, this.2.1, hqi⟩
/-- which part is wrong -/
def whoR (n k : Nat) (y : Nat → Int) (r : Int) : Prop := (lies (without n 0) k y → r = 0) ∧ (¬ lies (without n 0) k y → n < k + 2 → r = -2) ∧ (¬ lies (without n 0) k y → k + 2 ≤ n → (∀ i : Nat, 1 ≤ i → i ≤ n → lies (without n i) k y → r = i) ∧ ((∀ i, 1 ≤ i → i ≤ n → ¬ lies (without n i) k y) → r = -2))
theorem whoR_one {n k : Nat} {y : Nat → Int} {r r2 : Int} (h : whoR n k y r) (h2 : whoR n k y r2) : r = r2 := by
  by_cases h0 : lies (without n 0) k y
  · rw [h.1 h0, h2.1 h0]
  · by_cases hn : n < k + 2
    · rw [h.2.1 h0 hn, h2.2.1 h0 hn]
    · have a := h.2.2 h0 (by omega)
      have b := h2.2.2 h0 (by omega)
      by_cases hx : ∃ i, 1 ≤ i ∧ i ≤ n ∧ lies (without n i) k y
      · obtain ⟨i, q1, q2, q3⟩ := hx
        rw [a.1 i q1 q2 q3, b.1 i q1 q2 q3]
      · rw [a.2 (fun i q1 q2 q3 => hx ⟨i, q1, q2, q3⟩), b.2 (fun i q1 q2 q3 => hx ⟨i, q1, q2, q3⟩)]
theorem vaF_cong {m : Nat} {y z : Nat → Int} {x : Int} (h : ∀ j, 1 ≤ j → j < 7 → y j = z j) : vaF m y x = vaF m z x := by
  unfold vaF vaS
  congr 1
  refine fb_si_cong (fun i hi => ?_)
  by_cases hb : bitS m i = true
  · rw [if_pos hb, if_pos hb, h i (bit_ge hb) hi]
  · rw [if_neg hb, if_neg hb]
theorem lies_cong {m k : Nat} {y z : Nat → Int} (h : ∀ j, 1 ≤ j → j < 7 → y j = z j) : lies m k y ↔ lies m k z := by
  unfold lies
  constructor
  · intro q i hi hb
    rw [← vaF_cong h, q i hi hb, h i (bit_ge hb) hi]
  · intro q i hi hb
    rw [vaF_cong h, q i hi hb, h i (bit_ge hb) hi]
theorem whoR_cong {n k : Nat} {y z : Nat → Int} {r : Int} (h : ∀ j, 1 ≤ j → j < 7 → y j = z j) (hw : whoR n k y r) : whoR n k z r := by
  have e := fun m => lies_cong (m := m) (k := k) h
  unfold whoR at hw ⊢
  simp only [e] at hw
  exact hw
/-- Horner -/
def horT (c : Nat → Int) (i : Int) : Nat → Nat → Int
  | _, 0 => 0
  | j, d + 1 => (c j + horT c i (j + 1) d) * i
/-- the same by powers -/
def powS (c : Nat → Int) (i p0 : Int) : Nat → Int
  | 0 => p0
  | j + 1 => powS c i p0 j + c (j + 1) * i ^ (j + 1)
theorem hor_pow (c : Nat → Int) (i p0 : Int) : ∀ d j, powS c i p0 j + i ^ j * horT c i (j + 1) d = powS c i p0 (j + d)
  | 0, j => by show powS c i p0 j + i ^ j * 0 = powS c i p0 j; rw [Int.mul_zero, Int.add_zero]
  | d + 1, j => by
    have ih := hor_pow c i p0 d (j + 1)
    rw [show j + (d + 1) = j + 1 + d by omega, ← ih]
    show powS c i p0 j + i ^ j * ((c (j + 1) + horT c i (j + 1 + 1) d) * i) = powS c i p0 j + c (j + 1) * i ^ (j + 1) + i ^ (j + 1) * horT c i (j + 1 + 1) d
    rw [Int.pow_succ]
    generalize i ^ j = z
    generalize horT c i (j + 1 + 1) d = w
    rw [Int.add_mul, Int.mul_add, Int.add_assoc]
    congr 2
    · rw [Int.mul_comm (c (j + 1)) (z * i), Int.mul_assoc, Int.mul_comm i (c (j + 1))]
    · rw [Int.mul_assoc, Int.mul_comm i w]
end PARTC
