/-! ints and longs by their numbers -/
theorem i_of {x : Int32} {z : Int} (h : x.toInt = z) : x = Int32.ofInt z := by rw [← h, Int32.ofInt_toInt]
theorem l_of {x : Int64} {z : Int} (h : x.toInt = z) : x = Int64.ofInt z := by rw [← h, Int64.ofInt_toInt]
theorem l_ofI {z : Int} (h1 : -9223372036854775808 ≤ z) (h2 : z < 9223372036854775808) : (Int64.ofInt z).toInt = z := Int64.toInt_ofInt_of_le (by omega) (by omega)
theorem tmod_rng (a b : Int) (hb : b ≠ 0) : -(b.natAbs : Int) < a.tmod b ∧ a.tmod b < (b.natAbs : Int) := by
  have h1 := Int.tmod_lt_of_pos a (b := (b.natAbs : Int)) (by omega)
  have h2 := Int.lt_tmod_of_pos a (b := (b.natAbs : Int)) (by omega)
  rcases Int.natAbs_eq b with h | h
  · rw [h]; simpa using ⟨h2, h1⟩
  · rw [h, Int.tmod_neg]; simpa using ⟨h2, h1⟩
theorem rem64 {x y : Int64} (hy : y.toInt ≠ 0) : (x - x / y * y).toInt = x.toInt.tmod y.toInt := by
  have e : x - x / y * y = Int64.ofInt (x.toInt.tmod y.toInt) := by
    rw [Int.tmod_def, Int64.ofInt_sub, Int.mul_comm, Int64.ofInt_mul, Int64.ofInt_toInt, Int64.ofInt_toInt]
    congr 2
    have h := Int64.toInt_div x y
    rw [eq_comm, Int64.ofInt_eq_iff_bmod_eq_toInt, h]
  rw [e]
  have h1 := tmod_rng x.toInt y.toInt hy
  have h2 := fb_rngL y
  exact l_ofI (by omega) (by omega)
theorem rem32 {x y : Int32} (hy : y.toInt ≠ 0) : (x - x / y * y).toInt = x.toInt.tmod y.toInt := by
  have e : x - x / y * y = Int32.ofInt (x.toInt.tmod y.toInt) := by
    rw [Int.tmod_def, Int32.ofInt_sub, Int.mul_comm, Int32.ofInt_mul, Int32.ofInt_toInt, Int32.ofInt_toInt]
    congr 2
    have h := Int32.toInt_div x y
    rw [eq_comm, Int32.ofInt_eq_iff_bmod_eq_toInt, h]
  rw [e]
  have h1 := tmod_rng x.toInt y.toInt hy
  have h2 := fb_rng y
  exact fb_ofI (by omega) (by omega)
theorem i_lit (n : Nat) (h : n < 2147483648) : (OfNat.ofNat n : Int32).toInt = (n : Int) := by
  rw [fa_lit]; exact nI_toInt h
theorem l_lit (n : Nat) (h : n < 9223372036854775808) : (OfNat.ofNat n : Int64).toInt = (n : Int) := by
  rw [fa_litL]; exact pk_lT h
theorem tl (x : Int32) : x.toInt64.toInt = x.toInt := Int32.toInt_toInt64 x
theorem l2i {x : Int64} (h1 : -2147483648 ≤ x.toInt) (h2 : x.toInt < 2147483648) : x.toInt32.toInt = x.toInt := by
  rw [Int64.toInt_toInt32, fb_bmod h1 h2]
theorem l2i_of (x : Int64) : x.toInt32 = Int32.ofInt x.toInt := rfl
theorem vin {x : Int32} {n : Nat} (h1 : 0 ≤ x.toInt) (h2 : x.toInt < (n : Int)) : vp_in x n := vp_in_iff.mpr ⟨h1, h2⟩
theorem clamp {x : Int32} {n : Nat} (h : x.toInt = (n : Int)) : x.toNatClampNeg = n := by
  show x.toInt.toNat = n
  omega
theorem clamp_to (x : Int32) : x.toNatClampNeg = x.toInt.toNat := rfl
theorem cmp_lt (x y : Int64) : lg_cmp x y < 0 ↔ x.toInt < y.toInt := by rw [lg_cmp_lt, fa_lt64]
theorem cmp_gt (x y : Int64) : 0 < lg_cmp x y ↔ y.toInt < x.toInt := by rw [lg_cmp_gt, fa_lt64]
theorem cmp_ge (x y : Int64) : 0 ≤ lg_cmp x y ↔ y.toInt ≤ x.toInt := by rw [lg_cmp_ge, fa_le64]
theorem cmp_le (x y : Int64) : lg_cmp x y ≤ 0 ↔ x.toInt ≤ y.toInt := by rw [lg_cmp_le, fa_le64]
theorem cmp_eq (x y : Int64) : lg_cmp x y = 0 ↔ x.toInt = y.toInt := by rw [lg_cmp_eq, fa_eq64]
/-! symbolic ids: key i at 83 + 3 i, its parts, their row; program q at 95 + 5 q, its rows -/
theorem kd_key {i : Nat} (hi : i < 4) : kd (83 + 3 * i) = 2 := by revert i; decide
theorem kd_sh {i : Nat} (hi : i < 4) : kd (84 + 3 * i) = 5 := by revert i; decide
theorem kd_ya {i : Nat} (hi : i < 4) : kd (85 + 3 * i) = 13 := by revert i; decide
theorem ln_ya {i : Nat} (hi : i < 4) : ln (85 + 3 * i) = 7 := by revert i; decide
theorem r_key4 {i : Nat} (hi : i < 4) : r0 (83 + 3 * i) 4 = some (84 + 3 * i) := by revert i; decide
theorem r_sh0 {i : Nat} (hi : i < 4) : r0 (84 + 3 * i) 0 = some (85 + 3 * i) := by revert i; decide
theorem r_keys {i : Nat} (hi : i < 4) : r0 16 i = some (83 + 3 * i) := by revert i; decide
theorem kd_pr {q : Nat} (hq : q < 4) : kd (95 + 5 * q) = 6 := by revert q; decide
theorem kd_pk {q : Nat} (hq : q < 4) : kd (96 + 5 * q) = 13 := by revert q; decide
theorem kd_pf {q : Nat} (hq : q < 4) : kd (97 + 5 * q) = 13 := by revert q; decide
theorem kd_ps {q : Nat} (hq : q < 4) : kd (98 + 5 * q) = 13 := by revert q; decide
theorem kd_po {q : Nat} (hq : q < 4) : kd (99 + 5 * q) = 13 := by revert q; decide
theorem ln_pk {q : Nat} (hq : q < 4) : ln (96 + 5 * q) = 40 := by revert q; decide
theorem ln_pf {q : Nat} (hq : q < 4) : ln (97 + 5 * q) = 40 := by revert q; decide
theorem ln_ps {q : Nat} (hq : q < 4) : ln (98 + 5 * q) = 40 := by revert q; decide
theorem ln_po {q : Nat} (hq : q < 4) : ln (99 + 5 * q) = 4 := by revert q; decide
theorem r_p0 {q : Nat} (hq : q < 4) : r0 (95 + 5 * q) 0 = some (96 + 5 * q) := by revert q; decide
theorem r_p1 {q : Nat} (hq : q < 4) : r0 (95 + 5 * q) 1 = some (97 + 5 * q) := by revert q; decide
theorem r_p2 {q : Nat} (hq : q < 4) : r0 (95 + 5 * q) 2 = some (98 + 5 * q) := by revert q; decide
theorem r_p3 {q : Nat} (hq : q < 4) : r0 (95 + 5 * q) 3 = some (99 + 5 * q) := by revert q; decide
theorem r_progs {q : Nat} (hq : q < 4) : r0 22 q = some (95 + 5 * q) := by revert q; decide
