/-! THE MODEL LAYS: the value of an expression -/
def lvFr (pg : Nat) (st u : St) : Prop := (∀ a, a ≠ 31 → ¬ (42 ≤ a ∧ a ≤ 45) → a ≠ 61 → u.1 a = st.1 a) ∧ (∀ j, j ≠ 50 → u.1 31 j = st.1 31 j) ∧ u.2 = st.2 ∧ (∀ i, i ≠ pg → u.1 42 i = st.1 42 i) ∧ ∀ a, 43 ≤ a ∧ a ≤ 45 → ∀ i, i < 40 * pg ∨ 40 * pg + 40 ≤ i → u.1 a i = st.1 a i
theorem lvFr.refl (pg : Nat) (st : St) : lvFr pg st st := ⟨fun _ _ _ _ => rfl, fun _ _ => rfl, rfl, fun _ _ => rfl, fun _ _ _ _ => rfl⟩
theorem lvFr.trans {pg : Nat} {a b c : St} (h1 : lvFr pg a b) (h2 : lvFr pg b c) : lvFr pg a c := ⟨fun k x y z => (h2.1 k x y z).trans (h1.1 k x y z), fun j x => (h2.2.1 j x).trans (h1.2.1 j x), h2.2.2.1.trans h1.2.2.1, fun i x => (h2.2.2.2.1 i x).trans (h1.2.2.2.1 i x), fun k x i y => (h2.2.2.2.2 k x i y).trans (h1.2.2.2.2 k x i y)⟩
theorem lv_ly {pg : Nat} {a b : St} (h : lyFr pg a b) : lvFr pg a b := ⟨fun k x y _ => h.1 k x y, h.2⟩
theorem lv_pile (pg : Nat) (st : St) (i : Nat) (x : Int32) : lvFr pg st (sI st 61 i x) := ⟨fun a _ _ h => sI_row h, fun j _ => by rw [sI_row (by decide)], rfl, fun j _ => by rw [sI_row (by decide)], fun a h j _ => by rw [sI_row (by omega)]⟩
theorem lsM_lv {bs pg : Nat} {st u : St} (h : lsM bs pg st) (hf : lvFr pg st u) : lsM bs pg u := by
  unfold lsM
  rw [hf.2.1 17 (by decide), hf.2.1 20 (by decide)]
  exact h
theorem mwOK_pile {pg : Nat} {st : St} {w : List WK} (h : mwOK pg st w) (i : Nat) (x : Int32) : mwOK pg (sI st 61 i x) w := by
  unfold mwOK
  rw [sI_row (by decide), sI_row (by decide), sI_row (by decide), sI_row (by decide)]
  exact h
def piOK (u : St) : List Int → Prop
  | [] => True
  | c :: S => (u.1 61 S.length).toInt = toldF c ∧ piOK u S
theorem piOK_eq {st u : St} (h : u.1 61 = st.1 61) : ∀ {S : List Int}, piOK st S → piOK u S
  | [], _ => trivial
  | c :: S, q => ⟨by rw [h]; exact q.1, piOK_eq h q.2⟩
theorem piOK_set {u : St} {i : Nat} (x : Int32) : ∀ {S : List Int}, S.length ≤ i → piOK u S → piOK (sI u 61 i x) S
  | [], _, _ => trivial
  | c :: S, hi, q => by
    have hi2 : S.length + 1 ≤ i := hi
    exact ⟨by rw [sI_at, if_neg (by omega)]; exact q.1, piOK_set x (by omega) q.2⟩
theorem piOK_push {u : St} {S : List Int} {c : Int} {x : Int32} (h : piOK u S) (hx : x.toInt = toldF c) : piOK (sI u 61 S.length x) (c :: S) := ⟨by rw [sI_at, if_pos rfl]; exact hx, piOK_set x (Nat.le_refl _) h⟩
def vkS (bs n : Nat) (S : List Int) : Prop := ∀ c ∈ S, vk bs n c
theorem vkS_mono {bs n n2 : Nat} {S : List Int} (h : vkS bs n S) (hl : n ≤ n2) : vkS bs n2 S := fun c hc => vk_mono (h c hc) hl
theorem vkS_cons {bs n : Nat} {S : List Int} {c : Int} (h : vk bs n c) (hS : vkS bs n S) : vkS bs n (c :: S) := fun x hx => by
  rcases List.mem_cons.mp hx with q | q
  · rw [q]; exact h
  · exact hS x q
theorem vkS_po {bs n : Nat} (h2 : 2 ≤ bs) {S : List Int} (h : vkS bs n S) : vk bs n (poP S).1 ∧ vkS bs n (poP S).2 := by
  cases S with
  | nil => exact ⟨⟨by show -(bs : Int) ≤ -1; omega, Or.inl (by show (-1 : Int) < n; omega)⟩, fun c hc => absurd hc List.not_mem_nil⟩
  | cons c S => exact ⟨h c List.mem_cons_self, fun x hx => h x (List.mem_cons_of_mem _ hx)⟩
theorem jnP_gw {bs : Nat} (h2 : 2 ≤ bs) (o : Nat) {w : List WK} {a b : Int} (ha : vk bs w.length a) (hb : vk bs w.length b) : gw bs w (jnP bs o w a b) := by
  unfold jnP
  split
  · exact plP_gw h2 ha hb
  · split
    · exact miP_gw h2 ha
    · exact muP_gw h2 ha hb
theorem folP_gw {bs : Nat} (h2 : 2 ≤ bs) {V : Nat → Nat} {cnt o a : Nat} {m : MS} (hS : vkS bs m.2.1.length m.2.2.1) (hx : o = 2 → vk bs m.2.1.length (stF (V a) m.1)) : m.2.1.length ≤ (folP bs V cnt o a m).2.1.length ∧ vkS bs (folP bs V cnt o a m).2.1.length (folP bs V cnt o a m).2.2.1 := by
  have p1 := vkS_po h2 hS
  have p2 := vkS_po h2 p1.2
  have p3 := vkS_po h2 p2.2
  unfold folP
  by_cases k3 : o = 3
  · rw [if_pos k3]
    exact ⟨Nat.le_refl _, vkS_cons (vk_open h2 _ _) hS⟩
  by_cases k2 : o = 2
  · rw [if_neg k3, if_pos k2]
    exact ⟨Nat.le_refl _, vkS_cons (hx k2) hS⟩
  by_cases k9 : o = 9
  · rw [if_neg k3, if_neg k2, if_pos k9]
    have h := asP_gw h2 (V := V) (cnt := cnt) (tbl := stF (V a) m.1) (w := m.2.1) p1.1
    exact ⟨h.1, vkS_cons h.2 (vkS_mono p1.2 h.1)⟩
  by_cases k8 : o = 8
  · rw [if_neg k3, if_neg k2, if_neg k9, if_pos k8]
    have h := chP_gw h2 (w := m.2.1) p3.1 p2.1 p1.1
    exact ⟨h.1, vkS_cons h.2 (vkS_mono p3.2 h.1)⟩
  · rw [if_neg k3, if_neg k2, if_neg k9, if_neg k8]
    have h := jnP_gw h2 o (w := m.2.1) p2.1 p1.1
    exact ⟨h.1, vkS_cons h.2 (vkS_mono p2.2 h.1)⟩
theorem folP_same (bs : Nat) (V : Nat → Nat) (cnt o a : Nat) (m : MS) : (folP bs V cnt o a m).1 = m.1 ∧ (folP bs V cnt o a m).2.2.2 = m.2.2.2 := by
  unfold folP
  repeat' split
  all_goals exact ⟨rfl, rfl⟩
def foF (bs : Nat) (V : Nat → Nat) (cnt : Nat) (os : List (Nat × Nat)) (m : MS) : MS := os.foldl (fun m x => folP bs V cnt x.1 x.2 m) m
theorem foF_gw {bs : Nat} (h2 : 2 ≤ bs) {V : Nat → Nat} {cnt : Nat} : ∀ (os : List (Nat × Nat)) {m : MS}, vkS bs m.2.1.length m.2.2.1 → (∀ x ∈ os, x.1 = 2 → vk bs m.2.1.length (stF (V x.2) m.1)) → m.2.1.length ≤ (foF bs V cnt os m).2.1.length ∧ vkS bs (foF bs V cnt os m).2.1.length (foF bs V cnt os m).2.2.1
  | [], m, hS, _ => ⟨Nat.le_refl _, hS⟩
  | x :: r, m, hS, hx => by
    have h := folP_gw (cnt := cnt) h2 hS (hx x List.mem_cons_self)
    have h3 := foF_gw (cnt := cnt) h2 r h.2 (fun y hy q => by rw [(folP_same bs V cnt x.1 x.2 m).1]; exact vk_mono (hx y (List.mem_cons_of_mem _ hy) q) h.1)
    exact ⟨Nat.le_trans h.1 h3.1, h3.2⟩
/-- the orders take no more off the stack than lies there, and leave one -/
def dpF : List (Nat × Nat) → Nat → Prop
  | [], d => d = 1
  | x :: r, d => if x.1 = 3 ∨ x.1 = 2 then dpF r (d + 1) else if x.1 = 9 then 1 ≤ d ∧ dpF r d else if x.1 = 8 then 3 ≤ d ∧ dpF r (d - 2) else 2 ≤ d ∧ dpF r (d - 1)
/-- a code as it stands for an order -/
def cok (bs : Nat) (V : Nat → Nat) (cnt : Nat) (E : List NE) (st : St) (i : Nat) (x : Nat × Nat) : Prop :=
  (x.1 = 3 ∧ st.1 57 i = 0 ∧ st.1 58 i = nI (V x.2 % bs)) ∨
  (x.1 = 2 ∧ st.1 57 i = 1 ∧ ∃ j, st.1 58 i = nI j ∧ j < 6 ∧ stF (V x.2) E = 40 + (j : Int)) ∨
  (x.1 = 2 ∧ st.1 57 i = 2 ∧ ∃ j, st.1 58 i = nI j ∧ j < 100 ∧ (st.1 56 j).toInt = toldF (stF (V x.2) E)) ∨
  (x.1 = 9 ∧ st.1 57 i = 7 ∧ ∃ k, st.1 58 i = nI k ∧ k < 4 ∧ ∀ j, j < bs → (st.2 51 (13 * k + j)).toInt = coP bs V cnt (stF (V x.2) E) j) ∨
  (x.1 = 43 ∧ st.1 57 i = 3) ∨ (x.1 = 45 ∧ st.1 57 i = 4) ∨ (x.1 = 42 ∧ st.1 57 i = 5) ∨ (x.1 = 8 ∧ st.1 57 i = 6)
def vaI (pg : Nat) (st : St) (m : MS) (u : St) : Prop := lvFr pg st u ∧ (m.2.1.length ≤ 40 → u.1 31 50 = 0 ∧ mwOK pg u m.2.1 ∧ piOK u m.2.2.1) ∧ (40 < m.2.1.length → u.1 31 50 = 1 ∧ u.1 42 pg = nI 40)
def vaP (pg : Nat) (st : St) (m : MS) (r : Int32) (u : St) : Prop := lvFr pg st u ∧ (m.2.1.length ≤ 40 → u.1 31 50 = 0 ∧ mwOK pg u m.2.1 ∧ r.toInt = toldF (poP m.2.2.1).1) ∧ (40 < m.2.1.length → u.1 31 50 = 1 ∧ u.1 42 pg = nI 40)
theorem inc_m1 (n : Nat) : nI (n + 1) + Int32.ofInt (-1) = nI n := by
  rw [show Int32.ofInt (-1) = -1 by decide +kernel]
  exact ((Int32.sub_eq_add_neg _ _).symm).trans (nI_pred n)
theorem inc_m2 (n : Nat) : nI (n + 2) + Int32.ofInt (-2) = nI n := by
  rw [show Int32.ofInt (-2) = -2 by decide +kernel, ← Int32.sub_eq_add_neg]
  exact nI_sub (a := n + 2) (b := 2) (by omega)
theorem told_in {j : Nat} (h : j < 6) : toldF (40 + (j : Int)) = -10 - (j : Int) := by
  unfold toldF
  rw [if_neg (by omega), if_neg (by omega)]
  omega
