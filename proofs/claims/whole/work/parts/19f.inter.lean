/-! THE MODEL LAYS: interpolates -/
def mulF (p d : Nat) (b : Nat → Nat) (j : Nat) : Nat := ((if j = 0 then 0 else b (j - 1)) + b j * (p - d)) % p
def basF (p i : Nat) : Nat → Nat → Nat
  | 0, j => if j = 0 then 1 else 0
  | d + 1, j => if d = i then basF p i d j else mulF p d (basF p i d) j
def dwF (p i : Nat) : Nat → Nat
  | 0 => 1
  | d + 1 => if d = i then dwF p i d else dwF p i d * (i + p - d) % p
def dgF (i d : Nat) : Nat := if d ≤ i then d else d - 1
def fcF (p : Nat) (e : Nat → Nat) (i : Nat) : Nat := e i * (dwF p i p ^ (p - 2) % p) % p
def acF (p : Nat) (e : Nat → Nat) : Nat → Nat → Nat
  | 0, _ => 0
  | i + 1, j => (acF p e i j + basF p i p j * fcF p e i) % p
theorem basF_lt {p : Nat} (hp : 2 ≤ p) (i : Nat) : ∀ d j, basF p i d j < p
  | 0, j => by rw [basF]; split <;> omega
  | d + 1, j => by
    rw [basF]
    split
    · exact basF_lt hp i d j
    · exact Nat.mod_lt _ (by omega)
theorem basF_0 {p : Nat} (i : Nat) : ∀ d j, dgF i d < j → basF p i d j = 0
  | 0, j, h => by
    rw [basF, if_neg (by omega)]
  | d + 1, j, h => by
    rw [basF]
    unfold dgF at h
    split
    · refine basF_0 i d j ?_
      unfold dgF
      split <;> split at h <;> omega
    · have h1 : dgF i d < j - 1 := by
        unfold dgF
        split <;> split at h <;> omega
      unfold mulF
      rw [basF_0 i d j (by omega), basF_0 i d (j - 1) h1]
      split <;> simp
theorem dwF_lt {p : Nat} (hp : 2 ≤ p) (i : Nat) : ∀ d, dwF p i d < p
  | 0 => by rw [dwF]; omega
  | d + 1 => by
    rw [dwF]
    split
    · exact dwF_lt hp i d
    · exact Nat.mod_lt _ (by omega)
theorem fcF_lt {p : Nat} (hp : 2 ≤ p) (e : Nat → Nat) (i : Nat) : fcF p e i < p := Nat.mod_lt _ (by omega)
theorem acF_lt {p : Nat} (hp : 2 ≤ p) (e : Nat → Nat) (i j : Nat) : acF p e i j < p := by
  cases i with
  | zero => rw [acF]; omega
  | succ i => rw [acF]; exact Nat.mod_lt _ (by omega)
theorem ip_step {a c q pp : Int64} {A C Q p : Nat} (ha : a.toInt = (A : Int)) (hc : c.toInt = (C : Int)) (hq : q.toInt = (Q : Int)) (hp : pp.toInt = (p : Int)) (hA : A < 1000) (hC : C < 1000) (hQ : Q < 1000) (h0 : 0 < p) : (a + c * q - (a + c * q) / pp * pp).toInt = (((A + C * Q) % p : Nat) : Int) := by
  have h1 : C * Q < 1000 * 1000 := Nat.mul_lt_mul'' hC hQ
  have e1 : (C : Int) * (Q : Int) = ((C * Q : Nat) : Int) := by simp
  have e2 : (c * q).toInt = ((C * Q : Nat) : Int) := by rw [fb_mulL (by rw [hc, hq, e1]; omega) (by rw [hc, hq, e1]; omega), hc, hq, e1]
  have e3 : (a + c * q).toInt = ((A + C * Q : Nat) : Int) := by rw [fb_addL (by rw [ha, e2]; omega) (by rw [ha, e2]; omega), ha, e2]; simp
  rw [rem64p (by rw [e3]; omega) (by omega), e3, hp]
  rfl
theorem ip_mul {c q pp : Int64} {C Q p : Nat} (hc : c.toInt = (C : Int)) (hq : q.toInt = (Q : Int)) (hp : pp.toInt = (p : Int)) (hC : C < 1000) (hQ : Q < 1000) (h0 : 0 < p) : (c * q - c * q / pp * pp).toInt = ((C * Q % p : Nat) : Int) := by
  rw [mulp64 (by omega) (by omega) (by omega), hc, hq, hp]
  simp
theorem ip_p {bs d : Nat} (h : bs ≤ 13) (hd : d ≤ bs) : ((nI bs).toInt64 - (nI d).toInt64).toInt = ((bs - d : Nat) : Int) := by
  have e1 : (nI bs).toInt64.toInt = (bs : Int) := by rw [tl, nI_toInt (by omega)]
  have e2 : (nI d).toInt64.toInt = (d : Int) := by rw [tl, nI_toInt (by omega)]
  rw [fb_subL (by rw [e1, e2]; omega) (by rw [e1, e2]; omega), e1, e2]
  omega
theorem ip_d {bs i d : Nat} (h : bs ≤ 13) (hi : i ≤ bs) (hd : d ≤ bs) : ((nI i - nI d).toInt64 + (nI bs).toInt64).toInt = ((i + bs - d : Nat) : Int) := by
  have e0 : (nI bs).toInt64.toInt = (bs : Int) := by rw [tl, nI_toInt (by omega)]
  have e1 : (nI i).toInt = (i : Int) := nI_toInt (by omega)
  have e2 : (nI d).toInt = (d : Int) := nI_toInt (by omega)
  have e3 : (nI i - nI d).toInt64.toInt = (i : Int) - d := by rw [tl, fb_subI (by rw [e1, e2]; omega) (by rw [e1, e2]; omega), e1, e2]
  rw [fb_addL (by rw [e0, e3]; omega) (by rw [e0, e3]; omega), e0, e3]
  omega
def ipFr (bs k : Nat) (st u : St) : Prop := u.1 = st.1 ∧ (∀ a, a ≠ 51 → a ≠ 62 → u.2 a = st.2 a) ∧ ∀ i, (i < 13 * k ∨ 13 * k + bs ≤ i) → u.2 51 i = st.2 51 i
theorem ipFr.refl (bs k : Nat) (st : St) : ipFr bs k st st := ⟨rfl, fun _ _ _ => rfl, fun _ _ => rfl⟩
theorem ipFr_b {bs k : Nat} {st u : St} (h : ipFr bs k st u) (j : Nat) (x : Int64) : ipFr bs k st (sL u 62 j x) := ⟨h.1, fun a h1 h2 => by rw [sL_row h2]; exact h.2.1 a h1 h2, fun i hi => by rw [sL_row (by decide)]; exact h.2.2 i hi⟩
theorem ipFr_f {bs k : Nat} {st u : St} (h : ipFr bs k st u) {j : Nat} (hj : j < bs) (x : Int64) : ipFr bs k st (sL u 51 (13 * k + j) x) := ⟨h.1, fun a h1 h2 => by rw [sL_row h1]; exact h.2.1 a h1 h2, fun i hi => by rw [sL_at, if_neg (by omega)]; exact h.2.2 i hi⟩
