/-! what lays needs of the groups, from the names side by side -/
theorem letS_getD (v : Nat) (z : Int) (E : List NE) (j : Nat) : (letS v z E).getD j (0, 0, 0) = if j = fnd v E ∧ fnd v E < E.length then ((E.getD j (0, 0, 0)).1, (E.getD j (0, 0, 0)).2.1, z) else E.getD j (0, 0, 0) := by
  unfold letS
  by_cases h : fnd v E < E.length
  · rw [if_pos h]
    by_cases c : j = fnd v E
    · rw [if_pos ⟨c, h⟩, c, List.getD_eq_getElem?_getD, List.getElem?_set, if_pos rfl, if_pos h]
      rfl
    · rw [if_neg (fun q => c q.1), List.getD_eq_getElem?_getD, List.getElem?_set, if_neg (fun q => c q.symm), ← List.getD_eq_getElem?_getD]
  · rw [if_neg h, if_neg (fun q => h q.2)]
def uJ (E : List NE) (Nt : List MN) (E2 : List NE) (LV : List Int) : Prop := E2.length = E.length ∧ (∀ j, (E2.getD j (0, 0, 0)).1 = (E.getD j (0, 0, 0)).1) ∧ (∀ j, j < E.length → (Nt.getD j (0, 0, 0)).2.1 ≠ 1 → E2.getD j (0, 0, 0) = E.getD j (0, 0, 0)) ∧ ∀ j, j < E.length → (Nt.getD j (0, 0, 0)).2.1 = 1 → (Nt.getD j (0, 0, 0)).2.2 < LV.length → (E2.getD j (0, 0, 0)).2.2 = LV.getD (Nt.getD j (0, 0, 0)).2.2 0
section LYH
variable {K V W : Nat → Nat} {tbs : List Nat} {E : List NE} {Nt : List MN} {bs cnt : Nat}
theorem uJ_fnd {E2 : List NE} {LV : List Int} (h : uJ E Nt E2 LV) (v : Nat) : fnd v E2 = fnd v E := by
  refine fnd_is (d := (0, 0, 0)) (by rw [h.1]; exact fnd_le v E) (fun i hi => ?_) (fun hj => ?_)
  · rw [h.2.1]; exact fnd_lt v E (0, 0, 0) i hi
  · rw [h.2.1]; rw [h.1] at hj; exact fnd_at v E (0, 0, 0) hj
theorem uJ_stF {E2 : List NE} {LV : List Int} (h : uJ E Nt E2 LV) {v : Nat} (hf : fnd v E < E.length) : stF v E2 = (E2.getD (fnd v E) (0, 0, 0)).2.2 := by
  unfold stF
  rw [uJ_fnd h, h.1, if_pos hf]
theorem ly_cod (hv : vwOK K V W) (ha : al K V tbs E Nt) (h6 : ∀ y ∈ Nt, y.2.1 = 0 → y.2.2 < 6) {E2 : List NE} {LV : List Int} (hJ : uJ E Nt E2 LV) {x : Nat × Nat} (hx : x.1 ∈ [2, 3, 8, 9, 42, 43, 45]) (hK : x.1 = 2 ∨ x.1 = 9 → K x.2 = 2) (h9 : x.1 = 9 → lk qT (W x.2) (nmL W Nt) < (nmL W Nt).length) (hu : uX W Nt LV.length x) : ∃ c, cdT (nmL W Nt) V W bs x = [c] ∧ codR bs V E2 LV tbs c x := by
  have hx2 : x.1 = 2 ∨ x.1 = 3 ∨ x.1 = 8 ∨ x.1 = 9 ∨ x.1 = 42 ∨ x.1 = 43 ∨ x.1 = 45 := by simpa using hx
  unfold cdT
  by_cases k3 : x.1 = 3
  · rw [if_pos k3]
    exact ⟨_, rfl, Or.inl ⟨k3, rfl⟩⟩
  rw [if_neg k3]
  by_cases k2 : x.1 = 2
  · rw [if_pos k2]
    obtain ⟨u1, u2⟩ := hu k2
    have hk := hK (Or.inl k2)
    have e := al_lk hv ha hk qV
    have hc : fnd (V x.2) E < E.length ∧ qV (Nt.getD (fnd (V x.2) E) (0, 0, 0)).2.1 = true := Decidable.byContradiction (fun q => by
      rw [if_neg q] at e
      omega)
    rw [if_pos hc] at e
    rw [if_pos (by rw [nmL_len]; exact u1)]
    rw [e] at u1 u2 ⊢
    rw [nmL_at W Nt u1]
    have st := uJ_stF hJ hc.1
    have hq : (Nt.getD (fnd (V x.2) E) (0, 0, 0)).2.1 < 2 := of_decide_eq_true hc.2
    have hE := ha.2.1 _ hc.1
    have hm := mem_getD (Nt := Nt) u1
    by_cases s0 : (Nt.getD (fnd (V x.2) E) (0, 0, 0)).2.1 = 0
    · refine ⟨_, rfl, Or.inr (Or.inl ⟨k2, _, h6 _ hm s0, by dsimp only; rw [if_pos s0], ?_⟩)⟩
      rw [st, hJ.2.2.1 _ hc.1 (by omega)]
      rcases hE.2.2 with ⟨q, z⟩ | ⟨q, z⟩ | ⟨q, z, -⟩
      · rw [z]
      · omega
      · omega
    · have s1 : (Nt.getD (fnd (V x.2) E) (0, 0, 0)).2.1 = 1 := by omega
      refine ⟨_, rfl, Or.inr (Or.inr (Or.inl ⟨k2, _, u2 s1, by dsimp only; rw [if_neg s0], ?_⟩))⟩
      rw [st]
      exact hJ.2.2.2 _ hc.1 s1 (u2 s1)
  rw [if_neg k2]
  by_cases k43 : x.1 = 43
  · rw [if_pos k43]
    exact ⟨_, rfl, Or.inr (Or.inr (Or.inr (Or.inr (Or.inl ⟨k43, rfl⟩))))⟩
  rw [if_neg k43]
  by_cases k45 : x.1 = 45
  · rw [if_pos k45]
    exact ⟨_, rfl, Or.inr (Or.inr (Or.inr (Or.inr (Or.inr (Or.inl ⟨k45, rfl⟩)))))⟩
  rw [if_neg k45]
  by_cases k42 : x.1 = 42
  · rw [if_pos k42]
    exact ⟨_, rfl, Or.inr (Or.inr (Or.inr (Or.inr (Or.inr (Or.inr (Or.inl ⟨k42, rfl⟩))))))⟩
  rw [if_neg k42]
  by_cases k8 : x.1 = 8
  · rw [if_pos k8]
    exact ⟨_, rfl, Or.inr (Or.inr (Or.inr (Or.inr (Or.inr (Or.inr (Or.inr ⟨k8, rfl⟩))))))⟩
  have k9 : x.1 = 9 := by omega
  rw [if_neg k8, if_pos k9]
  have hk := hK (Or.inr k9)
  have hl := h9 k9
  have e := al_lk hv ha hk qT
  rw [nmL_len] at hl
  have hc : fnd (V x.2) E < E.length ∧ qT (Nt.getD (fnd (V x.2) E) (0, 0, 0)).2.1 = true := Decidable.byContradiction (fun q => by
    rw [if_neg q] at e
    omega)
  rw [if_pos hc] at e
  have hlt : fnd (V x.2) E < Nt.length := by rw [← ha.1]; exact hc.1
  have et : tbF (nmL W Nt) W x.2 = (Nt.getD (fnd (V x.2) E) (0, 0, 0)).2.2 := by
    unfold tbF
    rw [e, nmL_len, if_pos hlt, nmL_at W Nt hlt]
  rw [et]
  have hq : (Nt.getD (fnd (V x.2) E) (0, 0, 0)).2.1 = 2 := of_decide_eq_true hc.2
  have hE := ha.2.1 _ hc.1
  rcases hE.2.2 with ⟨q, z⟩ | ⟨q, z⟩ | ⟨q, z, z1, z2⟩
  · omega
  · omega
  · refine ⟨_, rfl, Or.inr (Or.inr (Or.inr (Or.inl ⟨k9, _, z1, rfl, ?_⟩)))⟩
    rw [uJ_stF hJ hc.1, hJ.2.2.1 _ hc.1 (by omega), z, z2]
/-- behind a let -/
theorem uJ_let (ha : al K V tbs E Nt) (hone : ∀ y ∈ Nt, ∀ z ∈ Nt, y.2.1 = 1 → z.2.1 = 1 → y.2.2 = z.2.2 → y.1 = z.1) {E2 : List NE} {LV : List Int} (hJ : uJ E Nt E2 LV) {a : Nat} (hm : (a + 1, 1, LV.length) ∈ Nt) (top : Int) : uJ E Nt (letS (V (a + 1)) top E2) (LV ++ [top]) := by
  obtain ⟨j0, hj0, e0⟩ := List.getElem_of_mem hm
  have d0 : Nt.getD j0 (0, 0, 0) = (a + 1, 1, LV.length) := by rw [List.getD_eq_getElem?_getD, List.getElem?_eq_getElem hj0, e0]; rfl
  have hj1 : j0 < E.length := by rw [ha.1]; exact hj0
  have n0 : (E.getD j0 (0, 0, 0)).1 = V (a + 1) := by
    have := (ha.2.1 j0 hj1).1
    rw [d0] at this
    exact this
  have uniq : ∀ j, j < E.length → (E.getD j (0, 0, 0)).1 = V (a + 1) → j = j0 := fun j hj e => by
    refine Decidable.byContradiction (fun q => ?_)
    by_cases c : j < j0
    · exact ha.2.2 j j0 c hj1 (by rw [e, n0])
    · exact ha.2.2 j0 j (by omega) hj (by rw [e, n0])
  have f0 : fnd (V (a + 1)) E = j0 := by
    have hle : fnd (V (a + 1)) E ≤ j0 := Decidable.byContradiction (fun z => fnd_lt (V (a + 1)) E (0, 0, 0) j0 (by omega) n0)
    exact uniq _ (by omega) (fnd_at _ E (0, 0, 0) (by omega))
  have f2 : fnd (V (a + 1)) E2 = j0 := by rw [uJ_fnd hJ, f0]
  have lt2 : j0 < E2.length := by rw [hJ.1]; exact hj1
  refine ⟨by rw [letS_len]; exact hJ.1, fun j => by rw [letS_1]; exact hJ.2.1 j, fun j hj hs => ?_, fun j hj hs hl => ?_⟩
  · rw [letS_getD, f2, if_neg (fun q => hs (by rw [q.1, d0]))]
    exact hJ.2.2.1 j hj hs
  · rw [letS_getD, f2]
    by_cases c : j = j0
    · rw [if_pos ⟨c, lt2⟩, c, d0]
      show top = (LV ++ [top]).getD LV.length 0
      rw [List.getD_eq_getElem?_getD, List.getElem?_append_right (Nat.le_refl _), Nat.sub_self]
      rfl
    · rw [if_neg (fun q => c q.1)]
      have hm2 := mem_getD (Nt := Nt) (j := j) (by rw [← ha.1]; exact hj)
      have hl2 : (Nt.getD j (0, 0, 0)).2.2 < LV.length := by
        rw [List.length_append, List.length_singleton] at hl
        refine Decidable.byContradiction (fun q => c (uniq j hj ?_))
        have e := hone _ hm2 _ hm hs rfl (by show (Nt.getD j (0, 0, 0)).2.2 = LV.length; omega)
        rw [(ha.2.1 j hj).1, e]
      rw [hJ.2.2.2 j hj hs hl2]
      generalize (Nt.getD j (0, 0, 0)).2.2 = y at hl2
      rw [List.getD_eq_getElem?_getD, List.getD_eq_getElem?_getD, List.getElem?_append_left hl2]
theorem ly_ok (hv : vwOK K V W) (ha : al K V tbs E Nt) (h6 : ∀ y ∈ Nt, y.2.1 = 0 → y.2.2 < 6) (hone : ∀ y ∈ Nt, ∀ z ∈ Nt, y.2.1 = 1 → z.2.1 = 1 → y.2.2 = z.2.2 → y.1 = z.1) : ∀ (gs : List GP) (m : MS) (LV : List Int), (∀ y ∈ lts gs LV.length, y ∈ Nt) → (∀ g ∈ gs, dpF g.1 0 ∧ (g.2.1 = 6 ∨ g.2.1 = 7) ∧ ∀ x ∈ g.1, x.1 ∈ [2, 3, 8, 9, 42, 43, 45] ∧ (x.1 = 2 ∨ x.1 = 9 → K x.2 = 2) ∧ (x.1 = 9 → lk qT (W x.2) (nmL W Nt) < (nmL W Nt).length)) → uG W Nt gs LV.length → uJ E Nt m.1 LV → lyH bs V cnt (cdT (nmL W Nt) V W bs) tbs gs m LV
  | [], m, LV, _, _, _, _ => True.intro
  | g :: r, m, LV, hl, hg, hu, hJ => by
    obtain ⟨g1, g2, g3⟩ := hg g List.mem_cons_self
    refine ⟨g1, g2, fun x hx => ly_cod hv ha h6 hJ (g3 x hx).1 (g3 x hx).2.1 (g3 x hx).2.2 (hu.1 x hx), fun _ => ?_⟩
    have hg' : ∀ y ∈ r, _ := fun y hy => hg y (List.mem_cons_of_mem _ hy)
    have hu2 := hu.2
    rw [lts] at hl
    have em : (enG bs V cnt g m).1 = if g.2.1 = 6 then letS (V (g.2.2 + 1)) (topG bs V cnt g m) m.1 else m.1 := by
      unfold enG endP topG
      rw [← (foF_one bs V cnt g.1 m).1]
      split <;> rfl
    by_cases c : g.2.1 = 6
    · rw [if_pos c] at hl hu2 em
      have eL : lvG bs V cnt g m LV = LV ++ [topG bs V cnt g m] := by unfold lvG; rw [if_pos c]
      rw [eL]
      have el : (LV ++ [topG bs V cnt g m]).length = LV.length + 1 := by rw [List.length_append, List.length_singleton]
      refine ly_ok hv ha h6 hone r _ _ (fun y hy => hl y (by rw [el] at hy; exact List.mem_cons_of_mem _ hy)) hg' (by rw [el]; exact hu2) ?_
      rw [em]
      exact uJ_let ha hone hJ (hl _ List.mem_cons_self) _
    · rw [if_neg c] at hl hu2 em
      have eL : lvG bs V cnt g m LV = LV := by unfold lvG; rw [if_neg c]
      rw [eL]
      refine ly_ok hv ha h6 hone r _ _ hl hg' hu2 ?_
      rw [em]
      exact hJ
end LYH
/-- behind the grammar: no fault in the names, so lays has what it needs -/
theorem ly_gram {K P V W : Nat → Nat} {bs : Nat} {s : GS} (h : gramF K = .inr s) (hv : vwOK K V W) {gs : List GP} (h1 : s.2.1 = flG gs) (h2 : ∀ g ∈ gs, (g.2.1 = 6 ∨ g.2.1 = 7) ∧ ∀ x ∈ g.1, x.1 ≠ 6 ∧ x.1 ≠ 7) (ho : oe s) {E : List NE} (ha : al K V (pmF K P W bs s.2.2).2.2.2.1 E (pmF K P W bs s.2.2).1) (hw : (pmF K P W bs s.2.2).2.2.2.2.1 = 0) (h6 : (pmF K P W bs s.2.2).2.1 ≤ 6) (hk : ∀ e ∈ s.2.2, eok W (nmL W (pmF K P W bs s.2.2).1) e) : lyH bs V s.1 (cdT (nmL W (pmF K P W bs s.2.2).1) V W bs) (pmF K P W bs s.2.2).2.2.2.1 gs (E, [], [], []) [] := by
  obtain ⟨hs, u1, u2, u3⟩ := uS_gram (K := K) (P := P) (W := W) (bs := bs) h
  have ne : ∀ x : Nat × Nat, x.1 ∈ [2, 3, 8, 9, 42, 43, 45] → x.1 ≠ 6 ∧ x.1 ≠ 7 := fun x hx => by
    have : x.1 = 2 ∨ x.1 = 3 ∨ x.1 = 8 ∨ x.1 = 9 ∨ x.1 = 42 ∨ x.1 = 43 ∨ x.1 = 45 := by simpa using hx
    omega
  have e : gs = hs := flG_inj gs hs h2 (fun g hg => ⟨(u2 g hg).1, fun x hx => ne x ((u2 g hg).2 x hx)⟩) (by rw [← h1, ← u1])
  rw [← e] at u2 u3
  obtain ⟨v1, v2, v3, v4⟩ := u3
  have hd := dpA_gram h
  rw [h1] at hd
  have hdp := dp_groups gs h2 hd
  have hev := evw_gram h
  have hK2 : ∀ e ∈ s.2.2, K e.2 = 2 := by
    have aux : ∀ (es : List (Nat × Nat)) (z x : Nat), evw K s.1 es z x → ∀ e ∈ es, K e.2 = 2 := by
      intro es
      induction es with
      | nil => intro z x _ e he; exact absurd he List.not_mem_nil
      | cons a r ih =>
        intro z x q e he
        obtain ⟨q1, q2, q3⟩ := q
        rcases List.mem_cons.mp he with p | p
        · rw [p]; exact q1
        · by_cases k2 : a.1 = 2
          · rw [if_pos k2] at q3; exact ih _ _ q3.2.2 e p
          by_cases k3 : a.1 = 3
          · rw [if_neg k2, if_pos k3] at q3; exact ih _ _ q3.2.2 e p
          by_cases k4 : a.1 = 4 ∨ a.1 = 5
          · rw [if_neg k2, if_neg k3, if_pos k4] at q3; exact ih _ _ q3.2 e p
          · rw [if_neg k2, if_neg k3, if_neg k4] at q3; exact ih _ _ q3.2.2.2 e p
    exact aux _ _ _ hev
  refine ly_ok hv ha (fun y hy k => by have := v3 y hy k; omega) (fun y hy z hz ky kz q => ?_) gs _ [] (fun y hy => (v2 y (lts_in gs 0 y hy).2.2).mpr hy) (fun g hg => ⟨hdp g hg, (u2 g hg).1, fun x hx => ?_⟩) (v4 hw) ⟨rfl, fun _ => rfl, fun _ _ _ => rfl, fun _ _ _ q => absurd q (Nat.not_lt_zero _)⟩
  · exact lts_one gs 0 y z ((v2 y ky).mp hy) ((v2 z kz).mp hz) q
  · have hm : x ∈ s.2.1 := by
      rw [h1]
      exact List.mem_flatMap.mpr ⟨g, hg, List.mem_append_left _ hx⟩
    have hox := ho x hm
    refine ⟨(u2 g hg).2 x hx, fun q => ?_, fun q => (hk _ (hox.2 q)).2 rfl⟩
    rcases q with q | q
    · exact hK2 (5, x.2) (hox.1 q)
    · exact hK2 (4, x.2) (hox.2 q)
