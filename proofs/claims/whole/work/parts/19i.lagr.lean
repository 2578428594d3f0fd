/-! the factors: model and class -/
theorem lg_all {p i j : Nat} (hp : prm p) (hi : i < p) (hj : j < p) : lgC p i j = lgD p i j := by
  rcases hp with rfl | rfl | rfl | rfl | rfl | rfl
  · exact lg2 i hi j hj
  · exact lg3 i hi j hj
  · exact lg5 i hi j hj
  · exact lg7 i hi j hj
  · exact lg11 i hi j hj
  · exact lg13 i hi j hj
theorem acF_step (p : Nat) (e : Nat → Nat) (n j : Nat) : acF p e (n + 1) j = (acF p e n j + e n * lgC p n j) % p := by
  rw [acF, fcF, lgC]
  generalize dwF p n p ^ (p - 2) % p = w
  generalize basF p n p j = b
  generalize acF p e n j = a
  rw [Nat.add_mod, Nat.mul_mod_mod, Nat.mul_left_comm, Nat.add_mod a (e n * (b * w % p)), Nat.mul_mod_mod]
theorem acF_zero {p : Nat} (hp : prm p) (e : Nat → Nat) : ∀ n, n < p → acF p e (n + 1) 0 = e 0 % p
  | 0, h => by
    rw [acF_step, lg_all hp h (by omega), acF]
    unfold lgD
    rw [if_pos rfl, if_pos rfl, Nat.mul_one, Nat.zero_add]
  | n + 1, h => by
    rw [acF_step, lg_all hp h (by omega), acF_zero hp e n (by omega)]
    unfold lgD
    rw [if_pos rfl, if_neg (by omega), Nat.mul_zero, Nat.add_zero, Nat.mod_mod]
theorem ac_cs1 {p : Nat} {A T : Int} {e Q : Nat} (hQ : Q ≤ p) (he : (e : Int) = T % (p : Int)) : (A + (e : Int) * (((p - Q) % p : Nat) : Int)) % (p : Int) = (A - T * (Q : Int)) % (p : Int) := by
  have h1 : ((e : Int) * (((p - Q) % p : Nat) : Int)) % (p : Int) = (T * (-(Q : Int))) % (p : Int) := by
    rw [Int.natCast_emod, Int.mul_emod, Int.emod_emod, ← Int.mul_emod, show ((p - Q : Nat) : Int) = -(Q : Int) + 1 * (p : Int) by omega, Int.mul_emod, Int.add_mul_emod_self_right, ← Int.mul_emod, he, Int.mul_emod, Int.emod_emod, ← Int.mul_emod]
  rw [Int.add_emod, h1, ← Int.add_emod, Int.mul_neg, Int.sub_eq_add_neg]
theorem ac_cs {p : Nat} (hp : prm p) {e : Nat → Nat} {V : Nat → Nat} {cnt : Nat} {tbl : Int} (he : ∀ a, a < p → e a = tnP V cnt tbl a % p) {j : Nat} (hj : j < p) (h0 : j ≠ 0) : ∀ n, n ≤ p → (acF p e n j : Int) = csP p V cnt tbl j n
  | 0, _ => rfl
  | n + 1, h => by
    have hq : n ^ (p - 1 - j) % p < p := Nat.mod_lt _ (by omega)
    rw [acF_step, lg_all hp (by omega) hj, csP, ← ac_cs hp he hj h0 n (by omega)]
    unfold lgD
    rw [if_neg h0, Int.natCast_emod, Int.natCast_add, Int.natCast_mul, ac_cs1 (T := (tnP V cnt tbl n : Int)) (by omega) (by rw [he n (by omega)]; rfl)]
    congr 3
theorem ac_co {p : Nat} (hp : prm p) {e : Nat → Nat} {V : Nat → Nat} {cnt : Nat} {tbl : Int} (he : ∀ a, a < p → e a = tnP V cnt tbl a % p) {j : Nat} (hj : j < p) : (acF p e p j : Int) = coP p V cnt tbl j := by
  unfold coP
  by_cases h0 : j = 0
  · rw [if_pos h0, h0, show p = p - 1 + 1 by omega, acF_zero (by rw [show p - 1 + 1 = p by omega]; exact hp) e (p - 1) (by omega), he 0 (by omega), show p - 1 + 1 = p by omega, Nat.mod_mod]
    rfl
  · rw [if_neg h0]
    exact ac_cs hp he hj h0 p (Nat.le_refl _)
