/-! what stands for a name, behind a let -/
theorem letS_1 (v : Nat) (z : Int) (E : List NE) (j : Nat) : ((letS v z E).getD j (0, 0, 0)).1 = (E.getD j (0, 0, 0)).1 := by
  unfold letS
  split
  · rw [List.getD_eq_getElem?_getD, List.getElem?_set]
    by_cases e : fnd v E = j
    · rw [if_pos e]
      subst e
      rename_i h
      rw [if_pos h]
      rfl
    · rw [if_neg e, ← List.getD_eq_getElem?_getD]
  · rfl
theorem letS_fnd (v : Nat) (z : Int) (E : List NE) (w : Nat) : fnd w (letS v z E) = fnd w E := by
  have h := fnd_le w E
  refine fnd_is (d := (0, 0, 0)) (by rw [letS_len]; exact h) (fun i hi => ?_) (fun hj => ?_)
  · rw [letS_1]
    exact fnd_lt w E (0, 0, 0) i hi
  · rw [letS_1]
    rw [letS_len] at hj
    exact fnd_at w E (0, 0, 0) hj
theorem letS_stF (v : Nat) (z : Int) (E : List NE) (w : Nat) : stF w (letS v z E) = if w = v ∧ fnd v E < E.length then z else stF w E := by
  unfold stF
  rw [letS_fnd, letS_len]
  by_cases hw : fnd w E < E.length
  · rw [if_pos hw, if_pos hw]
    by_cases c : w = v
    · subst c
      rw [if_pos ⟨rfl, hw⟩]
      unfold letS
      rw [if_pos hw, List.getD_eq_getElem?_getD, List.getElem?_set, if_pos rfl, if_pos hw]
      rfl
    · rw [if_neg (fun q => c q.1)]
      unfold letS
      split
      · rename_i h
        rw [List.getD_eq_getElem?_getD, List.getElem?_set, if_neg, ← List.getD_eq_getElem?_getD]
        intro e
        refine c ?_
        rw [← fnd_at w E (0, 0, 0) hw, ← e, fnd_at v E (0, 0, 0) h]
      · rfl
  · rw [if_neg hw, if_neg hw]
    rw [if_neg (fun q => hw (by rw [q.1]; exact q.2))]
