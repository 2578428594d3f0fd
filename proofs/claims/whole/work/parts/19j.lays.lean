/-! THE MODEL LAYS: the tells, pure -/
def enG (bs : Nat) (V : Nat → Nat) (cnt : Nat) (g : GP) (m : MS) : MS := endP V g.2.1 g.2.2 (foF bs V cnt g.1 m)
def mkG (bs : Nat) (V : Nat → Nat) (cnt : Nat) : List GP → MS → Nat ⊕ MS
  | [], m => .inr m
  | g :: r, m => if 40 < (enG bs V cnt g m).2.1.length then .inl g.2.2 else mkG bs V cnt r (enG bs V cnt g m)
theorem makL_fo (bs : Nat) (V : Nat → Nat) (cnt : Nat) (r : List (Nat × Nat)) : ∀ (os : List (Nat × Nat)) (m : MS), (∀ x ∈ os, x.1 ≠ 6 ∧ x.1 ≠ 7) → makL bs V cnt (os ++ r) m = makL bs V cnt r (foF bs V cnt os m)
  | [], m, _ => rfl
  | x :: os, m, h => by
    have hx := h x List.mem_cons_self
    rw [List.cons_append, makL, if_neg (by omega), makL_fo bs V cnt r os _ (fun y hy => h y (List.mem_cons_of_mem _ hy))]
    rfl
theorem makL_mkG (bs : Nat) (V : Nat → Nat) (cnt : Nat) : ∀ (gs : List GP) (m : MS), (∀ g ∈ gs, (g.2.1 = 6 ∨ g.2.1 = 7) ∧ ∀ x ∈ g.1, x.1 ≠ 6 ∧ x.1 ≠ 7) → makL bs V cnt (flG gs) m = mkG bs V cnt gs m
  | [], m, _ => rfl
  | g :: r, m, h => by
    have hg := h g List.mem_cons_self
    have e : flG (g :: r) = g.1 ++ ((g.2.1, g.2.2) :: flG r) := by unfold flG; simp
    rw [e, makL_fo bs V cnt _ g.1 m hg.2, makL, if_pos hg.1, mkG]
    show (if 40 < (enG bs V cnt g m).2.1.length then Sum.inl g.2.2 else makL bs V cnt (flG r) (enG bs V cnt g m)) = _
    rw [makL_mkG bs V cnt r _ (fun y hy => h y (List.mem_cons_of_mem _ hy))]
/-- a code that stands for an order, by the names E, the lets done LV, the tables tbs -/
def codR (bs : Nat) (V : Nat → Nat) (E : List NE) (LV : List Int) (tbs : List Nat) (c : Nat × Nat) (x : Nat × Nat) : Prop :=
  (x.1 = 3 ∧ c = (0, V x.2 % bs)) ∨ (x.1 = 2 ∧ ∃ i, i < 6 ∧ c = (1, i) ∧ stF (V x.2) E = 40 + (i : Int)) ∨
  (x.1 = 2 ∧ ∃ q, q < LV.length ∧ c = (2, q) ∧ stF (V x.2) E = LV.getD q 0) ∨
  (x.1 = 9 ∧ ∃ k, k < tbs.length ∧ c = (7, k) ∧ stF (V x.2) E = (tbs.getD k 0 : Int)) ∨
  (x.1 = 43 ∧ c = (3, 0)) ∨ (x.1 = 45 ∧ c = (4, 0)) ∨ (x.1 = 42 ∧ c = (5, 0)) ∨ (x.1 = 8 ∧ c = (6, 0))
def topG (bs : Nat) (V : Nat → Nat) (cnt : Nat) (g : GP) (m : MS) : Int := (poP (foF bs V cnt g.1 m).2.2.1).1
def lvG (bs : Nat) (V : Nat → Nat) (cnt : Nat) (g : GP) (m : MS) (LV : List Int) : List Int := if g.2.1 = 6 then LV ++ [topG bs V cnt g m] else LV
def lyH (bs : Nat) (V : Nat → Nat) (cnt : Nat) (cd : Nat × Nat → List (Nat × Nat)) (tbs : List Nat) : List GP → MS → List Int → Prop
  | [], _, _ => True
  | g :: r, m, LV => dpF g.1 0 ∧ (g.2.1 = 6 ∨ g.2.1 = 7) ∧ (∀ x ∈ g.1, ∃ c, cd x = [c] ∧ codR bs V m.1 LV tbs c x) ∧ ((enG bs V cnt g m).2.1.length ≤ 40 → lyH bs V cnt cd tbs r (enG bs V cnt g m) (lvG bs V cnt g m LV))
theorem endP_w (V : Nat → Nat) (o a : Nat) (m : MS) : (endP V o a m).2.1 = m.2.1 ∧ (endP V o a m).2.2.1 = (poP m.2.2.1).2 := by
  unfold endP
  split
  · exact ⟨rfl, rfl⟩
  · exact ⟨rfl, rfl⟩
theorem foF_dep {bs : Nat} {V : Nat → Nat} {cnt : Nat} : ∀ (os : List (Nat × Nat)) (m : MS), dpF os m.2.2.1.length → (∀ x ∈ os, x.1 ∈ [2, 3, 8, 9, 42, 43, 45]) → (foF bs V cnt os m).2.2.1.length = 1
  | [], m, h, _ => h
  | x :: r, m, h, hk => by
    show (foF bs V cnt r (folP bs V cnt x.1 x.2 m)).2.2.1.length = 1
    refine foF_dep r _ ?_ (fun y hy => hk y (List.mem_cons_of_mem _ hy))
    rw [dpF] at h
    unfold folP
    have hx := hk x List.mem_cons_self
    have po1 : ∀ S : List Int, (poP S).2.length = S.length - 1 := fun S => by
      cases S with
      | nil => rfl
      | cons a b => rfl
    by_cases k3 : x.1 = 3
    · rw [if_pos (Or.inl k3)] at h
      rw [if_pos k3]
      exact h
    by_cases k2 : x.1 = 2
    · rw [if_pos (Or.inr k2)] at h
      rw [if_neg k3, if_pos k2]
      exact h
    rw [if_neg (by omega)] at h
    by_cases k9 : x.1 = 9
    · rw [if_pos k9] at h
      rw [if_neg k3, if_neg k2, if_pos k9]
      show dpF r ((poP m.2.2.1).2.length + 1)
      rw [po1, show m.2.2.1.length - 1 + 1 = m.2.2.1.length by omega]
      exact h.2
    by_cases k8 : x.1 = 8
    · rw [if_neg k9, if_pos k8] at h
      rw [if_neg k3, if_neg k2, if_neg k9, if_pos k8]
      show dpF r ((poP (poP (poP m.2.2.1).2).2).2.length + 1)
      rw [po1, po1, po1, show m.2.2.1.length - 1 - 1 - 1 + 1 = m.2.2.1.length - 2 by omega]
      exact h.2
    · rw [if_neg k9, if_neg k8] at h
      rw [if_neg k3, if_neg k2, if_neg k9, if_neg k8]
      show dpF r ((poP (poP m.2.2.1).2).2.length + 1)
      rw [po1, po1, show m.2.2.1.length - 1 - 1 + 1 = m.2.2.1.length - 1 by omega]
      exact h.2
theorem foF_one (bs : Nat) (V : Nat → Nat) (cnt : Nat) : ∀ (os : List (Nat × Nat)) (m : MS), (foF bs V cnt os m).1 = m.1 ∧ (foF bs V cnt os m).2.2.2 = m.2.2.2
  | [], m => ⟨rfl, rfl⟩
  | x :: r, m => by
    have h := folP_same bs V cnt x.1 x.2 m
    have h2 := foF_one bs V cnt r (folP bs V cnt x.1 x.2 m)
    exact ⟨h2.1.trans h.1, h2.2.trans h.2⟩
theorem codR_in {bs : Nat} {V : Nat → Nat} {E : List NE} {LV : List Int} {tbs : List Nat} {c x : Nat × Nat} (h : codR bs V E LV tbs c x) : x.1 ∈ [2, 3, 8, 9, 42, 43, 45] := by
  rcases h with ⟨k, _⟩ | ⟨k, _⟩ | ⟨k, _⟩ | ⟨k, _⟩ | ⟨k, _⟩ | ⟨k, _⟩ | ⟨k, _⟩ | ⟨k, _⟩ <;> rw [k] <;> decide
theorem flat_one {cd : Nat × Nat → List (Nat × Nat)} {Q : Nat × Nat → Nat × Nat → Prop} : ∀ (os : List (Nat × Nat)), (∀ x ∈ os, ∃ c, cd x = [c] ∧ Q c x) → (os.flatMap cd).length = os.length ∧ ∀ i, i < os.length → Q ((os.flatMap cd).getD i (0, 0)) (os.getD i (0, 0))
  | [], _ => ⟨rfl, fun i hi => absurd hi (Nat.not_lt_zero _)⟩
  | x :: r, h => by
    obtain ⟨c, h1, h2⟩ := h x List.mem_cons_self
    obtain ⟨e1, e2⟩ := flat_one r (fun y hy => h y (List.mem_cons_of_mem _ hy))
    have e : (x :: r).flatMap cd = c :: r.flatMap cd := by rw [List.flatMap_cons, h1]; rfl
    refine ⟨by rw [e, List.length_cons, e1, List.length_cons], fun i hi => ?_⟩
    rw [e]
    cases i with
    | zero => exact h2
    | succ i => exact e2 i (by simpa using hi)
def laF (pg : Nat) (st u : St) : Prop := (∀ a, a ≠ 31 → ¬ (41 ≤ a ∧ a ≤ 45) → a ≠ 56 → a ≠ 61 → u.1 a = st.1 a) ∧ (∀ j, j ≠ 50 → u.1 31 j = st.1 31 j) ∧ (∀ a, a ≠ 51 → a ≠ 62 → u.2 a = st.2 a) ∧ (∀ i, i ≠ pg → u.1 42 i = st.1 42 i) ∧ (∀ a, 43 ≤ a ∧ a ≤ 45 → ∀ i, i < 40 * pg ∨ 40 * pg + 40 ≤ i → u.1 a i = st.1 a i) ∧ ∀ i, i < 4 * pg ∨ 4 * pg + 4 ≤ i → u.1 41 i = st.1 41 i
theorem laF.refl (pg : Nat) (st : St) : laF pg st st := ⟨fun _ _ _ _ _ => rfl, fun _ _ => rfl, fun _ _ _ => rfl, fun _ _ => rfl, fun _ _ _ _ => rfl, fun _ _ => rfl⟩
theorem laF.trans {pg : Nat} {a b c : St} (h1 : laF pg a b) (h2 : laF pg b c) : laF pg a c := ⟨fun k x y z v => (h2.1 k x y z v).trans (h1.1 k x y z v), fun j x => (h2.2.1 j x).trans (h1.2.1 j x), fun k x y => (h2.2.2.1 k x y).trans (h1.2.2.1 k x y), fun i x => (h2.2.2.2.1 i x).trans (h1.2.2.2.1 i x), fun k x i y => (h2.2.2.2.2.1 k x i y).trans (h1.2.2.2.2.1 k x i y), fun i x => (h2.2.2.2.2.2 i x).trans (h1.2.2.2.2.2 i x)⟩
theorem la_lv {pg : Nat} {a b : St} (h : lvFr pg a b) : laF pg a b := ⟨fun k x y z v => h.1 k x (by omega) v, h.2.1, fun k _ _ => by rw [h.2.2.1], h.2.2.2.1, h.2.2.2.2, fun i _ => by rw [h.1 41 (by decide) (by decide) (by decide)]⟩
theorem la_ip {pg bs k : Nat} {a b : St} (h : ipFr bs k a b) : laF pg a b := ⟨fun _ _ _ _ _ => by rw [h.1], fun _ _ => by rw [h.1], h.2.1, fun _ _ => by rw [h.1], fun _ _ _ _ => by rw [h.1], fun _ _ => by rw [h.1]⟩
theorem la_let (pg : Nat) (st : St) (j : Nat) (x : Int32) : laF pg st (sI st 56 j x) := ⟨fun a _ _ h _ => sI_row h, fun _ _ => by rw [sI_row (by decide)], fun _ _ _ => rfl, fun _ _ => by rw [sI_row (by decide)], fun a h _ _ => by rw [sI_row (by omega)], fun _ _ => by rw [sI_row (by decide)]⟩
theorem la_out (pg : Nat) (st : St) {j : Nat} (hj : j < 4) (x : Int32) : laF pg st (sI st 41 (4 * pg + j) x) := ⟨fun a _ h _ _ => sI_row (by omega), fun _ _ => by rw [sI_row (by decide)], fun _ _ _ => rfl, fun _ _ => by rw [sI_row (by decide)], fun a h _ _ => by rw [sI_row (by omega)], fun i h => by rw [sI_at, if_neg (by omega)]⟩
theorem lsM_la {bs pg : Nat} {st u : St} (h : lsM bs pg st) (hf : laF pg st u) : lsM bs pg u := by
  unfold lsM
  rw [hf.2.1 17 (by decide), hf.2.1 20 (by decide)]
  exact h
theorem exOK_la {K : Nat → Nat} {pg : Nat} {st u : St} {A : EA} (hf : laF pg st u) (h : exOK K st A) : exOK K u A := by
  unfold exOK
  rw [hf.1 57 (by decide) (by decide) (by decide) (by decide), hf.1 58 (by decide) (by decide) (by decide) (by decide), hf.1 59 (by decide) (by decide) (by decide) (by decide), hf.1 60 (by decide) (by decide) (by decide) (by decide)]
  have e : ∀ a j, a = 31 → j ≠ 50 → u.1 a j = st.1 a j := fun a j h1 h2 => by rw [h1]; exact hf.2.1 j h2
  rw [e 31 10 rfl (by decide), e 31 12 rfl (by decide), e 31 11 rfl (by decide), e 31 44 rfl (by decide), e 31 14 rfl (by decide), e 31 15 rfl (by decide), e 31 49 rfl (by decide)]
  exact h
theorem tvM_la {K P V W : Nat → Nat} {pg : Nat} {st u : St} (hf : laF pg st u) (h : tvM K P V W st) : tvM K P V W u := by
  unfold tvM
  rw [hf.1 34 (by decide) (by decide) (by decide) (by decide), hf.1 35 (by decide) (by decide) (by decide) (by decide), hf.1 36 (by decide) (by decide) (by decide) (by decide), hf.2.2.1 37 (by decide) (by decide)]
  exact h
