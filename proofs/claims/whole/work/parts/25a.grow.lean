/-! THE GROWING WORLD: the cells in the order in which the constructors make them -/
def ord : List Nat := [0, 1, 2, 3, 4, 5, 6, 7, 8, 9, 16, 17, 18, 19, 20, 21, 22, 23, 28, 29, 10, 11, 12, 13, 14, 15, 24, 25, 26, 27, 83, 84, 85, 86, 87, 88, 89, 90, 91, 92, 93, 94, 95, 96, 97, 98, 99, 100, 101, 102, 103, 104, 105, 106, 107, 108, 109, 110, 111, 112, 113, 114, 31, 32, 33, 34, 35, 36, 37, 38, 39, 40, 41, 42, 43, 44, 45, 46, 47, 48, 49, 50, 51, 52, 53, 54, 55, 56, 57, 58, 59, 60, 61, 62, 63, 64, 65, 66, 67, 68, 69, 70, 71, 72, 73, 74, 75, 76, 77, 78, 79, 80, 81, 82, 30]
def posL : List Nat := [0, 1, 2, 3, 4, 5, 6, 7, 8, 9, 20, 21, 22, 23, 24, 25, 10, 11, 12, 13, 14, 15, 16, 17, 26, 27, 28, 29, 18, 19, 114, 62, 63, 64, 65, 66, 67, 68, 69, 70, 71, 72, 73, 74, 75, 76, 77, 78, 79, 80, 81, 82, 83, 84, 85, 86, 87, 88, 89, 90, 91, 92, 93, 94, 95, 96, 97, 98, 99, 100, 101, 102, 103, 104, 105, 106, 107, 108, 109, 110, 111, 112, 113, 30, 31, 32, 33, 34, 35, 36, 37, 38, 39, 40, 41, 42, 43, 44, 45, 46, 47, 48, 49, 50, 51, 52, 53, 54, 55, 56, 57, 58, 59, 60, 61]
def pos (k : Nat) : Nat := posL.getD k 0
theorem ord_pos : ∀ k, k < N0 → ord[pos k]? = some k := by decide +kernel
theorem pos_ord9 : ∀ i, i < 115 → ∃ k, k < N0 ∧ ord[i]? = some k ∧ pos k = i := by
  have h : ∀ i, i < 115 → (ord.getD i 0) < N0 ∧ ord[i]? = some (ord.getD i 0) ∧ pos (ord.getD i 0) = i := by decide +kernel
  exact fun i hi => ⟨_, h i hi⟩
theorem ord_lt {i k : Nat} (h : ord[i]? = some k) : k < N0 ∧ pos k = i := by
  have hi : i < 115 := (List.getElem?_eq_some_iff.mp h).1
  obtain ⟨k2, h1, h2, h3⟩ := pos_ord9 i hi
  cases Option.some.inj (h.symm.trans h2)
  exact ⟨h1, h3⟩
abbrev RL9 : Type := List (Nat × Nat)
def rr (Lr : RL9) (k j : Nat) : Option Nat := if Lr.contains (k, j) then r0 k j else none
def fvR (Lr : RL9) (ad : Nat → Nat) (st : St) (k : Nat) (ty : FieldType) (j : Nat) : Value := match ty with
  | .long => .long (st.2 k j)
  | .object _ => va_rf ((rr Lr k j).map ad)
  | .array _ => va_rf ((rr Lr k j).map ad)
  | _ => .int (st.1 k j)
def fsR (Lr : RL9) (ad : Nat → Nat) (st : St) (k : Nat) : List Value := (List.range (nFc (kd k))).map (fun j => fvR Lr ad st k (tyC (kd k) j) j)
def paR (Lr : RL9) (ad : Nat → Nat) (st : St) (k : Nat) : ((Nat → Int32) ⊕ (Nat → Int64) ⊕ (Nat → UInt32) ⊕ (Nat → UInt64) ⊕ (Nat → Option Nat)) :=
  if kd k = 14 then .inr (.inl (st.2 k)) else if kd k < 16 then .inl (st.1 k) else .inr (.inr (.inr (.inr (fun j => (rr Lr k j).map ad))))
def ceR (Lr : RL9) (cy : Nat → ClassId) (ad : Nat → Nat) (st : St) (k : Nat) : va_E :=
  if kd k < 12 then .inr (kd k, fsR Lr ad st k) else .inl (cy (kd k), ln k, paR Lr ad st k)
def gwr (cy : Nat → ClassId) (ad : Nat → Nat) (na : Nat) (Lr : RL9) (st : St) : va_W := (ord.take na).map (fun k => (ad k, ceR Lr cy ad st k))
section GW
variable {cy : Nat → ClassId} {ad : Nat → Nat} {na : Nat} {Lr Lr2 : RL9} {st st2 : St} {k j : Nat}
theorem gw_at {i : Nat} (hk : ord[i]? = some k) (hi : i < na) : (gwr cy ad na Lr st)[i]? = some (ad k, ceR Lr cy ad st k) := by
  unfold gwr
  rw [List.getElem?_map, List.getElem?_take, if_pos hi, hk]
  rfl
theorem gw_get (hN : k < N0) (hp : pos k < na) : (gwr cy ad na Lr st)[pos k]? = some (ad k, ceR Lr cy ad st k) := gw_at (ord_pos k hN) hp
theorem gw_set {e : va_E} (hN : k < N0) (hp : pos k < na) (he : e = ceR Lr2 cy ad st2 k) (ho : ∀ j, j ≠ k → ceR Lr2 cy ad st2 j = ceR Lr cy ad st j) : (gwr cy ad na Lr st).set (pos k) (ad k, e) = gwr cy ad na Lr2 st2 := by
  subst he
  apply List.ext_getElem?
  intro i
  by_cases hi : i = pos k
  · subst hi
    rw [List.getElem?_set_self (List.getElem?_eq_some_iff.mp (gw_get hN hp)).1, gw_get hN hp]
  · rw [List.getElem?_set_ne (Ne.symm hi)]
    unfold gwr
    rw [List.getElem?_map, List.getElem?_map]
    cases h : (ord.take na)[i]? with
    | none => rfl
    | some k2 =>
      rw [List.getElem?_take] at h
      by_cases hn : i < na
      · rw [if_pos hn] at h
        have hne : k2 ≠ k := fun q => hi (by rw [← q, (ord_lt h).2])
        show some (ad k2, ceR Lr cy ad st k2) = some (ad k2, ceR Lr2 cy ad st2 k2)
        rw [ho k2 hne]
      · rw [if_neg hn] at h
        cases h
theorem gw_push (hk : ord[na]? = some k) : gwr cy ad na Lr st ++ [(ad k, ceR Lr cy ad st k)] = gwr cy ad (na + 1) Lr st := by
  unfold gwr
  rw [List.take_succ, hk]
  simp
theorem fsR_get (hj : j < nFc (kd k)) : (fsR Lr ad st k)[j]? = some (fvR Lr ad st k (tyC (kd k) j) j) := by
  unfold fsR
  rw [List.getElem?_map, List.getElem?_range hj]
  rfl
theorem fsR_set {v : Value} (hv : v = fvR Lr2 ad st2 k (tyC (kd k) j) j) (ho : ∀ i, i ≠ j → fvR Lr2 ad st2 k (tyC (kd k) i) i = fvR Lr ad st k (tyC (kd k) i) i) (hj : j < nFc (kd k)) : (fsR Lr ad st k).set j v = fsR Lr2 ad st2 k := by
  subst hv
  apply List.ext_getElem?
  intro i
  by_cases hi : i = j
  · subst hi
    rw [List.getElem?_set_self (by simp [fsR]; exact hj), fsR_get hj]
  · rw [List.getElem?_set_ne (Ne.symm hi)]
    by_cases hn : i < nFc (kd k)
    · rw [fsR_get hn, fsR_get hn, ho i hi]
    · rw [List.getElem?_eq_none (by simp [fsR]; omega), List.getElem?_eq_none (by simp [fsR]; omega)]
theorem fvR_other (ty : FieldType) (h1 : st2.1 k j = st.1 k j) (h2 : st2.2 k j = st.2 k j) (h3 : rr Lr2 k j = rr Lr k j) : fvR Lr2 ad st2 k ty j = fvR Lr ad st k ty j := by
  cases ty <;> simp [fvR, h1, h2, h3]
theorem ceR_obj (h : kd k < 12) : ceR Lr cy ad st k = .inr (kd k, fsR Lr ad st k) := by simp [ceR, h]
theorem ceR_arr (h : ¬ kd k < 12) : ceR Lr cy ad st k = .inl (cy (kd k), ln k, paR Lr ad st k) := by simp [ceR, h]
theorem ceR_other (h1 : st2.1 k = st.1 k) (h2 : st2.2 k = st.2 k) (h3 : rr Lr2 k = rr Lr k) : ceR Lr2 cy ad st2 k = ceR Lr cy ad st k := by
  have e : fsR Lr2 ad st2 k = fsR Lr ad st k := by
    unfold fsR
    refine List.map_congr_left (fun j _ => fvR_other _ (by rw [h1]) (by rw [h2]) (by rw [h3]))
  unfold ceR paR
  rw [e, h1, h2, h3]
theorem rr_cons {a b : Nat} : rr ((k, j) :: Lr) a b = if a = k ∧ b = j then r0 a b else rr Lr a b := by
  unfold rr
  by_cases h : a = k ∧ b = j
  · obtain ⟨rfl, rfl⟩ := h
    simp
  · rw [if_neg h]
    have : ((a, b) == (k, j)) = false := by
      rw [beq_eq_false_iff_ne]
      intro q
      exact h ⟨congrArg Prod.fst q, congrArg Prod.snd q⟩
    rw [List.contains_cons, this, Bool.false_or]
theorem rr_row {a : Nat} (h : a ≠ k) : rr ((k, j) :: Lr) a = rr Lr a := by
  funext b
  rw [rr_cons, if_neg (fun q => h q.1)]
theorem paR_i (h : kd k = 12 ∨ kd k = 13 ∨ kd k = 15) : paR Lr ad st k = .inl (st.1 k) := by
  unfold paR
  rw [if_neg (by omega), if_pos (by omega)]
theorem paR_l (h : kd k = 14) : paR Lr ad st k = .inr (.inl (st.2 k)) := by
  unfold paR
  rw [if_pos h]
theorem paR_q (h : kd k = 16 ∨ kd k = 17) : paR Lr ad st k = .inr (.inr (.inr (.inr (fun j => (rr Lr k j).map ad)))) := by
  unfold paR
  rw [if_neg (by omega), if_neg (by omega)]
theorem fvR_i {ty : FieldType} (h : isI ty = true) : fvR Lr ad st k ty j = .int (st.1 k j) := by
  cases ty <;> first | rfl | cases h
theorem fvR_r {ty : FieldType} (h : isR ty = true) : fvR Lr ad st k ty j = va_rf ((rr Lr k j).map ad) := by
  cases ty <;> first | rfl | cases h
end GW
/-- what is not made yet is empty -/
def un (na : Nat) (Lr : RL9) (st : St) : Prop := ∀ k, k < N0 → na ≤ pos k → (∀ j, st.1 k j = 0) ∧ (∀ j, st.2 k j = 0) ∧ ∀ j, rr Lr k j = none
def Hb (ad : Nat → Nat) (bs na : Nat) (Lr : RL9) (st : St) : Heap → Prop := fun H => H.size = bs + na ∧ (∀ k, k < N0 → ad k = bs + pos k) ∧ un na Lr st
theorem un.put {na : Nat} {Lr : RL9} {st st2 : St} {k : Nat} (h : un na Lr st) (hp : pos k < na) (h1 : ∀ a, a ≠ k → st2.1 a = st.1 a) (h2 : ∀ a, a ≠ k → st2.2 a = st.2 a) : un na Lr st2 := fun a ha hq => by
  have hne : a ≠ k := fun q => by rw [q] at hq; omega
  rw [h1 a hne, h2 a hne]
  exact h a ha hq
theorem un.ref {na : Nat} {Lr : RL9} {st : St} {k j : Nat} (h : un na Lr st) (hp : pos k < na) : un na ((k, j) :: Lr) st := fun a ha hq => by
  have hne : a ≠ k := fun q => by rw [q] at hq; omega
  rw [rr_row hne]
  exact h a ha hq
theorem un.up {na : Nat} {Lr : RL9} {st : St} (h : un na Lr st) : un (na + 1) Lr st := fun a ha hq => h a ha (by omega)
abbrev GB (p : Program) (l : Launch) (e : Env) (R : Room) (s : State) (m : MethodId) (args : Array Value) (below : List Frame) (meth : Method) (c : Code) (D : va_G) (cy : Nat → ClassId) (ad : Nat → Nat) (bs : Nat) (I : MI) (Q : State → Prop) (kc ks na : Nat) (Lr : RL9) (pc : Nat) (L : List (Option Value)) (S : List Value) (st : St) : Prop := GN p l e R s m args below meth c D cy ad (fun q => bs ≤ q) I Q kc ks (Hb ad bs na Lr st) pc L S (gwr cy ad na Lr st)
