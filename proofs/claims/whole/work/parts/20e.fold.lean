/-! the class' fold over the events and the model's -/
def evw (K : Nat → Nat) (N : Nat) : List (Nat × Nat) → Nat → Nat → Prop
  | [], z, _ => z = 0
  | e :: r, z, x => K e.2 = 2 ∧ e.2 ≤ N ∧ (if e.1 = 2 then z = 0 ∧ x < e.2 ∧ evw K N r e.2 e.2 else if e.1 = 3 then e.2 = z ∧ 0 < z ∧ evw K N r 0 x else if e.1 = 4 ∨ e.1 = 5 then x < e.2 ∧ evw K N r z e.2 else e.1 ≤ 1 ∧ z = 0 ∧ x < e.2 ∧ evw K N r 0 e.2)
def fr1 (K P V : Nat → Nat) (S : SCS) (p : PM) (z x : Nat) : Prop := match S with
  | .inl f => p.2.2.2.2 = (f.1, P f.2) ∧ f.1 ≠ 0 ∧ f.2 ≤ x
  | .inr s => al K V p.2.2.2.1 s.1 p.1 ∧ s.2.1 = p.2.1 ∧ s.2.2 = z ∧ p.2.2.2.2.1 = 0 ∧ (z ≠ 0 → ¬ fnd (V z) s.1 < s.1.length)
theorem wrg_0 {w : Nat × Nat} (h : w.1 = 0) (k p : Nat) : wrg w k p = (k, p) := by
  unfold wrg
  rw [if_neg (fun q => q.1 h)]
theorem wrg_k {w : Nat × Nat} (h : w.1 ≠ 0) {k p : Nat} (hp : w.2 < p) : wrg w k p = w := by
  unfold wrg
  rw [if_pos ⟨h, Or.inl hp⟩]
section FOLD
variable {t : Nat} {K P V W : Nat → Nat} {cnt N : Nat}
theorem fold_bad (hP : ∀ a b, a < b → b ≤ N → P a < P b) (f : Nat × Nat) (p : PM) (hw : p.2.2.2.2 = (f.1, P f.2)) (hf : f.1 ≠ 0) (e : Nat × Nat) (he : e.2 ≤ N) (hx : e.1 ≠ 3 → f.2 < e.2) : (evM K P W t p e).2.2.2.2 = (f.1, P f.2) := by
  have hk : e.1 ≠ 3 → ∀ k, wrg (f.1, P f.2) k (P e.2) = (f.1, P f.2) := fun q k => wrg_k (w := (f.1, P f.2)) hf (hP _ _ (hx q) he)
  have h3 : e.1 ≠ 3 → w3F P W p.1 (f.1, P f.2) e.2 = (f.1, P f.2) := fun q => by
    unfold w3F
    split
    · exact hk q 3
    · rfl
  unfold evM
  by_cases k0 : e.1 = 0
  · rw [if_pos k0]
    show w3F P W p.1 p.2.2.2.2 e.2 = _
    rw [hw, h3 (by omega)]
  by_cases k1 : e.1 = 1
  · rw [if_neg k0, if_pos k1]
    show (if mnyF K e.2 ≠ t ∨ ¬ prm t then wrg (w3F P W p.1 p.2.2.2.2 e.2) 5 (P e.2) else w3F P W p.1 p.2.2.2.2 e.2) = _
    rw [hw, h3 (by omega)]
    split
    · exact hk (by omega) 5
    · rfl
  by_cases k2 : e.1 = 2
  · rw [if_neg k0, if_neg k1, if_pos k2]
    show w3F P W p.1 p.2.2.2.2 e.2 = _
    rw [hw, h3 (by omega)]
  by_cases k3 : e.1 = 3
  · rw [if_neg k0, if_neg k1, if_neg k2, if_pos k3]
    exact hw
  · rw [if_neg k0, if_neg k1, if_neg k2, if_neg k3]
    show evW (nmL W p.1) P W p.2.2.2.2 e = _
    rw [hw]
    unfold evW
    have := hk k3 4
    split
    · split
      · rfl
      · exact this
    · split
      · split
        · rfl
        · exact this
      · rfl
theorem al_same {tbs : List Nat} {E : List NE} {Nt : List MN} (h : al K V tbs E Nt) : ∀ j, j < tbs.length → j < tbs.length ∧ tbs.getD j 0 = tbs.getD j 0 := fun _ q => ⟨q, rfl⟩
theorem cev_I {s : List NE × Nat × Nat} {e : Nat × Nat} (h3 : e.1 ≠ 3) {k : Nat} {X : List NE × Nat} (h : fauE t K V cnt e s.1 s.2.1 = (k, X)) (hk : k ≠ 0) : cev t K V cnt (.inr s) e = .inl (k, e.2) := by
  rw [cev_r s h3, h, if_neg hk]
theorem cev_R {s : List NE × Nat × Nat} {e : Nat × Nat} (h3 : e.1 ≠ 3) {X : List NE × Nat} (h : fauE t K V cnt e s.1 s.2.1 = (0, X)) : cev t K V cnt (.inr s) e = .inr (X.1, X.2, if e.1 = 2 then e.2 else s.2.2) := by
  rw [cev_r s h3, h, if_pos rfl]
theorem w3_yes {Nt : List MN} {w : Nat × Nat} {a : Nat} (h : dupW W Nt a = true) (hw : w.1 = 0) : w3F P W Nt w a = (3, P a) := by
  unfold w3F
  rw [if_pos h, wrg_0 hw]
theorem w3_no {Nt : List MN} {w : Nat × Nat} {a : Nat} (h : ¬ dupW W Nt a = true) : w3F P W Nt w a = w := by
  unfold w3F
  rw [if_neg h]
theorem fold_ev (hv : vwOK K V W) (hP : ∀ a b, a < b → b ≤ N → P a < P b) : ∀ (es : List (Nat × Nat)) (S : SCS) (p : PM) (z x : Nat), evw K N es z x → (∀ e ∈ es, e.1 = 1 → nbF K cnt e.2 = mnyF K e.2) → fr1 K P V S p z x → ∃ x2, fr1 K P V (es.foldl (cev t K V cnt) S) (es.foldl (evM K P W t) p) 0 x2
  | [], S, p, z, x, h, _, hr => by
    have hz : z = 0 := h
    exact ⟨x, by rw [← hz]; exact hr⟩
  | e :: es, S, p, z, x, h, hnb, hr => by
    rw [List.foldl_cons, List.foldl_cons]
    have hnb2 : ∀ e ∈ es, e.1 = 1 → nbF K cnt e.2 = mnyF K e.2 := fun y hy => hnb y (List.mem_cons_of_mem _ hy)
    obtain ⟨hK, hN, h⟩ := h
    have main : ∀ z2 x2, evw K N es z2 x2 → fr1 K P V (cev t K V cnt S e) (evM K P W t p e) z2 x2 → _ := fun z2 x2 a b => fold_ev hv hP es _ _ z2 x2 a hnb2 b
    cases S with
    | inl f =>
      obtain ⟨r1, r2, r3⟩ := hr
      have go : ∀ x2, x ≤ x2 → (e.1 ≠ 3 → x < e.2) → ∀ z2, fr1 K P V (cev t K V cnt (.inl f) e) (evM K P W t p e) z2 x2 := fun x2 hx hx2 z2 => ⟨fold_bad hP f p r1 r2 e hN (fun q => by have := hx2 q; omega), r2, by omega⟩
      by_cases k2 : e.1 = 2
      · rw [if_pos k2] at h
        exact main _ _ h.2.2 (go _ (by omega) (fun _ => h.2.1) _)
      by_cases k3 : e.1 = 3
      · rw [if_neg k2, if_pos k3] at h
        exact main _ _ h.2.2 (go _ (by omega) (fun q => absurd k3 q) _)
      by_cases k4 : e.1 = 4 ∨ e.1 = 5
      · rw [if_neg k2, if_neg k3, if_pos k4] at h
        exact main _ _ h.2 (go _ (by omega) (fun _ => h.1) _)
      · rw [if_neg k2, if_neg k3, if_neg k4] at h
        exact main _ _ h.2.2.2 (go _ (by omega) (fun _ => h.2.2.1) _)
    | inr s =>
      obtain ⟨hal, hins, hlt, hw, hz⟩ := hr
      have hd := al_dup hv hal hK
      by_cases k2 : e.1 = 2
      · rw [if_pos k2] at h
        refine main _ _ h.2.2 ?_
        have eM : evM K P W t p e = (p.1, p.2.1, p.2.2.1, p.2.2.2.1, w3F P W p.1 p.2.2.2.2 e.2) := by unfold evM; rw [if_neg (by omega), if_neg (by omega), if_pos k2]
        rw [eM]
        by_cases c : fnd (V e.2) s.1 < s.1.length
        · rw [cev_I (k := 3) (X := (s.1, s.2.1)) (by omega) (by unfold fauE; rw [if_neg (by omega), if_pos k2, if_pos c]) (by decide)]
          exact ⟨w3_yes (hd.mpr c) hw, by show (3 : Nat) ≠ 0; decide, Nat.le_refl _⟩
        · rw [cev_R (X := (s.1, s.2.1)) (by omega) (by unfold fauE; rw [if_neg (by omega), if_pos k2, if_neg c]), if_pos k2]
          refine ⟨hal, hins, rfl, ?_, fun _ => c⟩
          show (w3F P W p.1 p.2.2.2.2 e.2).1 = 0
          rw [w3_no (fun q => c (hd.mp q))]
          exact hw
      by_cases k3 : e.1 = 3
      · rw [if_neg k2, if_pos k3] at h
        obtain ⟨q1, q2, q3⟩ := h
        refine main _ _ q3 ?_
        have eM : evM K P W t p e = (p.1 ++ [(e.2, 1, p.2.2.1)], p.2.1, p.2.2.1 + 1, p.2.2.2.1, p.2.2.2.2) := by unfold evM; rw [if_neg (by omega), if_neg (by omega), if_neg (by omega), if_pos k3]
        rw [eM, show e = (3, e.2) by rw [← k3], cev_3]
        refine ⟨al_add hal (al_same hal) ⟨rfl, hK, Or.inr (Or.inl ⟨rfl, rfl⟩)⟩ ?_, hins, rfl, hw, fun q => absurd rfl q⟩
        show ¬ fnd (V e.2) s.1 < s.1.length
        rw [q1]
        exact hz (by omega)
      by_cases k4 : e.1 = 4
      · rw [if_neg k2, if_neg k3, if_pos (Or.inl k4)] at h
        refine main _ _ h.2 ?_
        have eM : evM K P W t p e = (p.1, p.2.1, p.2.2.1, p.2.2.2.1, evW (nmL W p.1) P W p.2.2.2.2 e) := by unfold evM; rw [if_neg (by omega), if_neg (by omega), if_neg (by omega), if_neg k3]
        have eW : evW (nmL W p.1) P W p.2.2.2.2 e = if lk qT (W e.2) (nmL W p.1) < (nmL W p.1).length then p.2.2.2.2 else wrg p.2.2.2.2 4 (P e.2) := by unfold evW; rw [if_pos k4]
        have hT := al_T hv hal hK
        rw [eM, eW]
        by_cases c : fnd (V e.2) s.1 < s.1.length ∧ (s.1.getD (fnd (V e.2) s.1) (0, 0, 0)).2.1 = 5
        · rw [cev_R (X := (s.1, s.2.1)) (by omega) (by unfold fauE; rw [if_neg (by omega), if_neg (by omega), if_neg (by omega), if_pos k4, if_pos c]), if_neg k2, if_pos (hT.mpr c)]
          exact ⟨hal, hins, hlt, hw, hz⟩
        · rw [cev_I (k := 4) (X := (s.1, s.2.1)) (by omega) (by unfold fauE; rw [if_neg (by omega), if_neg (by omega), if_neg (by omega), if_pos k4, if_neg c]) (by decide), if_neg (fun q => c (hT.mp q)), wrg_0 hw]
          exact ⟨rfl, by show (4 : Nat) ≠ 0; decide, Nat.le_refl _⟩
      by_cases k5 : e.1 = 5
      · rw [if_neg k2, if_neg k3, if_pos (Or.inr k5)] at h
        refine main _ _ h.2 ?_
        have eM : evM K P W t p e = (p.1, p.2.1, p.2.2.1, p.2.2.2.1, evW (nmL W p.1) P W p.2.2.2.2 e) := by unfold evM; rw [if_neg (by omega), if_neg (by omega), if_neg (by omega), if_neg k3]
        have eW : evW (nmL W p.1) P W p.2.2.2.2 e = if lk qV (W e.2) (nmL W p.1) < (nmL W p.1).length then p.2.2.2.2 else wrg p.2.2.2.2 4 (P e.2) := by unfold evW; rw [if_neg k4, if_pos k5]
        have hT := al_V hv hal hK
        rw [eM, eW]
        by_cases c : fnd (V e.2) s.1 < s.1.length ∧ (s.1.getD (fnd (V e.2) s.1) (0, 0, 0)).2.1 ≠ 5
        · rw [cev_R (X := (s.1, s.2.1)) (by omega) (by unfold fauE; rw [if_neg (by omega), if_neg (by omega), if_neg (by omega), if_neg k4, if_pos c]), if_neg k2, if_pos (hT.mpr c)]
          exact ⟨hal, hins, hlt, hw, hz⟩
        · rw [cev_I (k := 4) (X := (s.1, s.2.1)) (by omega) (by unfold fauE; rw [if_neg (by omega), if_neg (by omega), if_neg (by omega), if_neg k4, if_neg c]) (by decide), if_neg (fun q => c (hT.mp q)), wrg_0 hw]
          exact ⟨rfl, by show (4 : Nat) ≠ 0; decide, Nat.le_refl _⟩
      rw [if_neg k2, if_neg k3, if_neg (by omega)] at h
      obtain ⟨q0, q1, q2, q3⟩ := h
      refine main _ _ q3 ?_
      by_cases k0 : e.1 = 0
      · have eM : evM K P W t p e = (p.1 ++ [(e.2, 0, p.2.1)], p.2.1 + 1, p.2.2.1, p.2.2.2.1, w3F P W p.1 p.2.2.2.2 e.2) := by unfold evM; rw [if_pos k0]
        rw [eM]
        by_cases c : fnd (V e.2) s.1 < s.1.length
        · rw [cev_I (k := 3) (X := (s.1 ++ [(V e.2, 4, ((40 + s.2.1 : Nat) : Int))], s.2.1 + 1)) (by omega) (by unfold fauE; rw [if_pos k0, if_pos c]) (by decide)]
          exact ⟨w3_yes (hd.mpr c) hw, by show (3 : Nat) ≠ 0; decide, Nat.le_refl _⟩
        · rw [cev_R (X := (s.1 ++ [(V e.2, 4, ((40 + s.2.1 : Nat) : Int))], s.2.1 + 1)) (by omega) (by unfold fauE; rw [if_pos k0, if_neg c]), if_neg k2]
          refine ⟨al_add hal (al_same hal) ⟨rfl, hK, Or.inl ⟨rfl, ?_⟩⟩ c, by show s.2.1 + 1 = p.2.1 + 1; omega, by show s.2.2 = 0; omega, ?_, fun q => absurd rfl q⟩
          · show (4, ((40 + s.2.1 : Nat) : Int)) = (4, 40 + (p.2.1 : Int))
            rw [hins]
            simp
          · show (w3F P W p.1 p.2.2.2.2 e.2).1 = 0
            rw [w3_no (fun q => c (hd.mp q))]
            exact hw
      · have k1 : e.1 = 1 := by omega
        have hb := hnb e List.mem_cons_self k1
        have eM : evM K P W t p e = (p.1 ++ [(e.2, 2, p.2.2.2.1.length)], p.2.1, p.2.2.1, p.2.2.2.1 ++ [e.2], if mnyF K e.2 ≠ t ∨ ¬ prm t then wrg (w3F P W p.1 p.2.2.2.2 e.2) 5 (P e.2) else w3F P W p.1 p.2.2.2.2 e.2) := by unfold evM; rw [if_neg k0, if_pos k1]
        rw [eM]
        by_cases c : fnd (V e.2) s.1 < s.1.length
        · rw [cev_I (k := 3) (X := (s.1 ++ [(V e.2, 5, (e.2 : Int))], s.2.1)) (by omega) (by unfold fauE; rw [if_neg k0, if_neg k2, if_pos k1, if_pos c]) (by decide), w3_yes (hd.mpr c) hw]
          refine ⟨?_, by show (3 : Nat) ≠ 0; decide, Nat.le_refl _⟩
          show (if mnyF K e.2 ≠ t ∨ ¬ prm t then wrg (3, P e.2) 5 (P e.2) else (3, P e.2)) = (3, P e.2)
          split
          · unfold wrg
            rw [if_pos ⟨by show (3 : Nat) ≠ 0; decide, Or.inr ⟨rfl, by show (3 : Nat) ≤ 5; decide⟩⟩]
          · rfl
        · rw [w3_no (fun q => c (hd.mp q))]
          by_cases c5 : prm t ∧ nbF K cnt e.2 = t
          · rw [cev_R (X := (s.1 ++ [(V e.2, 5, (e.2 : Int))], s.2.1)) (by omega) (by unfold fauE; rw [if_neg k0, if_neg k2, if_pos k1, if_neg c, if_pos c5]), if_neg k2, if_neg (fun q => by rcases q with q | q; exact q (by rw [← hb]; exact c5.2); exact q c5.1)]
            refine ⟨al_add hal (fun j hj => ⟨by rw [List.length_append]; omega, by rw [List.getD_eq_getElem?_getD, List.getElem?_append_left hj, ← List.getD_eq_getElem?_getD]⟩) ⟨rfl, hK, Or.inr (Or.inr ⟨rfl, rfl, ?_, ?_⟩)⟩ c, hins, by show s.2.2 = 0; omega, hw, fun q => absurd rfl q⟩
            · show p.2.2.2.1.length < (p.2.2.2.1 ++ [e.2]).length
              rw [List.length_append, List.length_singleton]; omega
            · show (p.2.2.2.1 ++ [e.2]).getD p.2.2.2.1.length 0 = e.2
              rw [List.getD_eq_getElem?_getD, List.getElem?_append_right (Nat.le_refl _), Nat.sub_self]
              rfl
          · rw [cev_I (k := 5) (X := (s.1 ++ [(V e.2, 5, (e.2 : Int))], s.2.1)) (by omega) (by unfold fauE; rw [if_neg k0, if_neg k2, if_pos k1, if_neg c, if_neg c5]) (by decide), if_pos (Decidable.byContradiction (fun q => c5 ⟨Decidable.byContradiction (fun z => q (Or.inr z)), by rw [hb]; exact Decidable.byContradiction (fun z => q (Or.inl z))⟩)), wrg_0 hw]
            exact ⟨rfl, by show (5 : Nat) ≠ 0; decide, Nat.le_refl _⟩
end FOLD
