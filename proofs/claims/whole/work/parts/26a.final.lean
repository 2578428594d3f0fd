/-! BEHIND THE CONSTRUCTORS: all cells are made, and both sides agree -/
section FIN
variable {D : va_G} {cy : Nat → ClassId} {ad : Nat → Nat} {Lr : RL9} {st : St}
def SF (tv : Int32) : St := S_model (S_class z0 tv) tv
def LF : RL9 := L_model ++ L_class
theorem rr_full : ∀ k j, k < N0 → rr LF k j = r0 k j := by
  have h : ∀ k, k < N0 → ∀ j, j < (rfL.getD k []).length → ((r0 k j).isNone || LF.contains (k, j)) = true := by decide +kernel
  intro k j hk
  unfold rr
  by_cases hc : LF.contains (k, j) = true
  · rw [if_pos hc]
  · rw [if_neg hc]
    by_cases hj : j < (rfL.getD k []).length
    · have := h k hk j hj
      rw [Bool.or_eq_true] at this
      rcases this with q | q
      · exact (Option.isNone_iff_eq_none.mp q).symm
      · exact absurd q hc
    · show none = (rfL.getD k []).getD j none
      rw [List.getD_eq_getElem?_getD, List.getElem?_eq_none (by omega)]
      rfl
theorem ceR_full {k : Nat} (hk : k < N0) : ceR LF cy ad st k = ce cy ad st k := by
  have e : rr LF k = r0 k := funext (fun j => rr_full k j hk)
  have e2 : fsR LF ad st k = fsOf ad st k := by
    unfold fsR fsOf
    refine List.map_congr_left (fun j _ => ?_)
    generalize tyC (kd k) j = ty
    cases ty <;> simp [fvR, fv, e]
  unfold ceR ce paR paOf
  rw [e2, e]
theorem gw_full {H : Heap} {A : Nat → Prop} (hP : va_P D vwCl (gwr cy ad 115 LF st) H) (hD : va_D A (gwr cy ad 115 LF st)) : va_P D vwCl (cw cy ad st) H ∧ va_D A (cw cy ad st) := by
  have pl : ∀ k, k < N0 → pos k < 115 := by decide +kernel
  have key : ∀ k q, (cw cy ad st)[k]? = some q → k < N0 ∧ (gwr cy ad 115 LF st)[pos k]? = some q := by
    intro k q hk
    have hlt : k < N0 := by
      have := (List.getElem?_eq_some_iff.mp hk).1
      simpa [cw] using this
    refine ⟨hlt, ?_⟩
    rw [cw_get cy ad st hlt] at hk
    rw [gw_get hlt (pl k hlt), ceR_full hlt]
    exact hk
  refine ⟨fun k q hk => hP _ _ (key k q hk).2, fun i j p q hi hj e => ?_, fun k q hk => hD.2 _ _ (key k q hk).2⟩
  have h1 := key i p hi
  have h2 := key j q hj
  have e2 := hD.1 _ _ p q h1.2 h2.2 e
  have e3 := ord_pos i h1.1
  rw [e2, ord_pos j h2.1] at e3
  exact (Option.some.inj e3).symm
theorem un_z0 : un 0 [] z0 := fun _ _ _ => ⟨fun _ => rfl, fun _ => rfl, fun _ => rfl⟩
theorem tv_ok (v : Int32) : ∃ t : Nat, 2 ≤ t ∧ t ≤ 13 ∧ (if v < 2 ∨ 13 < v then 2 else v) = nI t := by
  by_cases h : v < 2 ∨ 13 < v
  · rw [if_pos h]
    exact ⟨2, by decide, by decide, rfl⟩
  · rw [if_neg h]
    have h1 : ¬ v.toInt < 2 := fun q => h (Or.inl (Int32.lt_iff_toInt_lt.mpr q))
    have h2 : ¬ 13 < v.toInt := fun q => h (Or.inr (Int32.lt_iff_toInt_lt.mpr q))
    exact ⟨v.toInt.toNat, by omega, by omega, (nI_back (by omega)).symm⟩
theorem four {P : Nat → Prop} (h0 : P 0) (h1 : P 1) (h2 : P 2) (h3 : P 3) : ∀ i, i < 4 → P i := fun i hi => match i, hi with
  | 0, _ => h0
  | 1, _ => h1
  | 2, _ => h2
  | 3, _ => h3
  | n + 4, h => absurd h (by omega)
theorem six {P : Nat → Prop} (h0 : P 0) (h1 : P 1) (h2 : P 2) (h3 : P 3) (h4 : P 4) (h5 : P 5) : ∀ i, i < 6 → P i := fun i hi => match i, hi with
  | 0, _ => h0
  | 1, _ => h1
  | 2, _ => h2
  | 3, _ => h3
  | 4, _ => h4
  | 5, _ => h5
  | n + 6, h => absurd h (by omega)
theorem b4 {st : St} {i : Nat} (h1 : st.1 78 i = 0) (h2 : st.1 79 i = 0) (h3 : st.1 (84 + 3 * i) 1 = 0) (h4 : st.1 (84 + 3 * i) 2 = 0) (h5 : ∀ j, st.1 (85 + 3 * i) j = 0) (h6 : ∀ j, st.2 80 j = 0) : B4i st 0 i := by
  have e1 : pN st i = 0 := by
    unfold pN
    rw [h3]
    rfl
  have e2 : pKn st i = 0 := by
    unfold pKn
    rw [h4]
    rfl
  refine ⟨⟨by rw [h1, h3], by rw [h2, h4]⟩, fun j _ _ => ?_, ?_, ?_, fun _ => e1⟩
  · unfold mptY ptY
    rw [h5, h6]
    rfl
  · rw [e1, e2]
    refine ⟨h3, by decide, h4, by decide, fun j _ _ => ?_⟩
    rw [h5]
    decide
  · rw [e1]
    omega
theorem rel_start (v : Int32) : RelE (SF (if v < 2 ∨ 13 < v then 2 else v)) := by
  obtain ⟨t, h1, h2, e⟩ := tv_ok v
  rw [e]
  refine ⟨t, 0, 0, 0, 0, ?_, ?_, ?_, ?_, ?_, ?_, ?_, ?_, ?_, ?_⟩
  · exact ⟨rfl, by decide, rfl, fun i hi => absurd hi (by omega)⟩
  · exact ⟨⟨rfl, h1, h2, rfl, rfl, rfl, rfl⟩, ⟨rfl, by decide, rfl⟩, fun i hi => absurd hi (by omega)⟩
  · exact ⟨rfl, by decide, rfl, fun i hi => absurd hi (by omega)⟩
  · exact four (b4 rfl rfl rfl rfl (fun _ => rfl) (fun _ => rfl)) (b4 rfl rfl rfl rfl (fun _ => rfl) (fun _ => rfl)) (b4 rfl rfl rfl rfl (fun _ => rfl) (fun _ => rfl)) (b4 rfl rfl rfl rfl (fun _ => rfl) (fun _ => rfl))
  · exact ⟨rfl, by decide, rfl, fun i hi => absurd hi (by omega)⟩
  · have q : ∀ a, a < 4 → ∀ b, b < 4 → (SF (nI t)).1 29 (4 * a + b) = -1 := four (P := fun a => ∀ b, b < 4 → (SF (nI t)).1 29 (4 * a + b) = -1) (four rfl rfl rfl rfl) (four rfl rfl rfl rfl) (four rfl rfl rfl rfl) (four rfl rfl rfl rfl)
    exact fun a b ha hb => Or.inl (q a ha b hb)
  · exact six ⟨rfl, Or.inl rfl⟩ ⟨rfl, Or.inl rfl⟩ ⟨rfl, Or.inl rfl⟩ ⟨rfl, Or.inl rfl⟩ ⟨rfl, Or.inl rfl⟩ ⟨rfl, Or.inl rfl⟩
  · have e0 : (SF (nI t)).1 0 15 = 0 := rfl
    refine ⟨rfl, ?_, ?_⟩ <;> rw [e0] <;> decide
  · exact rfl
  · refine six ?_ ?_ ?_ ?_ ?_ ?_
    · show woF 105 110 0 0 0 0 0 = _
      decide +kernel
    · show woF 116 97 98 108 101 0 0 = _
      decide +kernel
    · show woF 108 101 116 0 0 0 0 = _
      decide +kernel
    · show woF 111 117 116 0 0 0 0 = _
      decide +kernel
    · show woF 99 104 111 111 115 101 0 = _
      decide +kernel
    · show woF 97 115 107 0 0 0 0 = _
      decide +kernel
end FIN
