/-! MAKER: the orders followed (pure, and the class) -/
/-- names, works, the stack (its top first), the outs -/
abbrev MS : Type := List NE × List WK × List Int × List Int
def poP (s : List Int) : Int × List Int := match s with
  | [] => (-1, [])
  | x :: r => (x, r)
def stF (v : Nat) (E : List NE) : Int := if fnd v E < E.length then (E.getD (fnd v E) (0, 0, 0)).2.2 else 0
def jnP (t o : Nat) (w : List WK) (a b : Int) : List WK × Int := if o = 43 then plP t w a b else if o = 45 then miP t w a b else muP t w a b
def folP (t : Nat) (V : Nat → Nat) (cnt o a : Nat) (m : MS) : MS :=
  if o = 3 then (m.1, m.2.1, (-1 - (V a : Int) % (t : Int)) :: m.2.2.1, m.2.2.2)
  else if o = 2 then (m.1, m.2.1, stF (V a) m.1 :: m.2.2.1, m.2.2.2)
  else if o = 9 then (m.1, (asP t V cnt m.2.1 (stF (V a) m.1) (poP m.2.2.1).1).1, (asP t V cnt m.2.1 (stF (V a) m.1) (poP m.2.2.1).1).2 :: (poP m.2.2.1).2, m.2.2.2)
  else if o = 8 then (m.1, (chP t m.2.1 (poP (poP (poP m.2.2.1).2).2).1 (poP (poP m.2.2.1).2).1 (poP m.2.2.1).1).1, (chP t m.2.1 (poP (poP (poP m.2.2.1).2).2).1 (poP (poP m.2.2.1).2).1 (poP m.2.2.1).1).2 :: (poP (poP (poP m.2.2.1).2).2).2, m.2.2.2)
  else (m.1, (jnP t o m.2.1 (poP (poP m.2.2.1).2).1 (poP m.2.2.1).1).1, (jnP t o m.2.1 (poP (poP m.2.2.1).2).1 (poP m.2.2.1).1).2 :: (poP (poP m.2.2.1).2).2, m.2.2.2)
def endP (V : Nat → Nat) (o a : Nat) (m : MS) : MS :=
  if o = 6 then (letS (V (a + 1)) (poP m.2.2.1).1 m.1, m.2.1, (poP m.2.2.1).2, m.2.2.2)
  else (m.1, m.2.1, (poP m.2.2.1).2, if m.2.2.2.length < 4 then m.2.2.2 ++ [(poP m.2.2.1).1] else m.2.2.2)
def makL (t : Nat) (V : Nat → Nat) (cnt : Nat) : List (Nat × Nat) → MS → Nat ⊕ MS
  | [], m => .inr m
  | x :: r, m => if x.1 = 6 ∨ x.1 = 7 then (if 40 < (endP V x.1 x.2 m).2.1.length then .inl x.2 else makL t V cnt r (endP V x.1 x.2 m)) else makL t V cnt r (folP t V cnt x.1 x.2 m)
/-- the ranges that keep -/
def msR (t n : Nat) (m : MS) : Prop := (∀ e ∈ m.1, okc t e.2.2) ∧ m.2.1.length ≤ 30 * n ∧ m.2.2.1.length ≤ n ∧ (∀ c ∈ m.2.2.1, okc t c) ∧ m.2.2.2.length ≤ 4
theorem poP_ok {t : Nat} (ht : 2 ≤ t) {s : List Int} (h : ∀ c ∈ s, okc t c) : okc t (poP s).1 ∧ (∀ c ∈ (poP s).2, okc t c) ∧ (poP s).2.length ≤ s.length := by
  cases s with
  | nil => exact ⟨⟨by show -(t : Int) ≤ -1; omega, by show (-1 : Int) < 100000; omega⟩, fun c hc => absurd hc List.not_mem_nil, Nat.le_refl _⟩
  | cons x r => exact ⟨h x List.mem_cons_self, fun c hc => h c (List.mem_cons_of_mem _ hc), by show r.length ≤ _; simp⟩
theorem stF_ok {t : Nat} {E : List NE} (h : ∀ e ∈ E, okc t e.2.2) (v : Nat) : okc t (stF v E) := by
  unfold stF
  split
  · rename_i q
    rw [List.getD_eq_getElem?_getD, List.getElem?_eq_getElem q]
    exact h _ (List.getElem_mem q)
  · exact ⟨by omega, by omega⟩
theorem mem_set_ok {t : Nat} {E : List NE} (h : ∀ e ∈ E, okc t e.2.2) {v : Nat} {z : Int} (hz : okc t z) : ∀ e ∈ letS v z E, okc t e.2.2 := by
  unfold letS
  split
  · intro e he
    rcases List.mem_or_eq_of_mem_set he with q | q
    · exact h e q
    · rw [q]; exact hz
  · exact h
theorem jnP_ok {t : Nat} (ht : 2 ≤ t) (o : Nat) {w : List WK} {a b : Int} (ha : okc t a) (hb : okc t b) (hl : w.length < 89990) : okc t (jnP t o w a b).2 ∧ (jnP t o w a b).1.length ≤ w.length + 2 := by
  unfold jnP
  split
  · have := plP_ok ht (w := w) ha hb (by omega)
    exact ⟨this.1, by omega⟩
  · split
    · exact miP_ok ht ha (by omega)
    · have := muP_ok ht (w := w) ha hb (by omega)
      exact ⟨this.1, by omega⟩
theorem cons_ok {t : Nat} {s : List Int} {x : Int} (hx : okc t x) (h : ∀ c ∈ s, okc t c) : ∀ c ∈ x :: s, okc t c := fun c hc => by
  rcases List.mem_cons.mp hc with q | q
  · rw [q]; exact hx
  · exact h c q
theorem folP_ok {t : Nat} (ht : 2 ≤ t) (h13 : t ≤ 13) {V : Nat → Nat} {cnt o a n : Nat} {m : MS} (hn : n < 301) (h : msR t n m) : msR t (n + 1) (folP t V cnt o a m) := by
  obtain ⟨h1, h2, h3, h4, h5⟩ := h
  have p1 := poP_ok ht h4
  have p2 := poP_ok ht p1.2.1
  have p3 := poP_ok ht p2.2.1
  unfold folP
  split
  · exact ⟨h1, by show m.2.1.length ≤ _; omega, by show (_ :: m.2.2.1).length ≤ _; rw [List.length_cons]; omega, cons_ok (opc ht _) h4, h5⟩
  · split
    · exact ⟨h1, by show m.2.1.length ≤ _; omega, by show (_ :: m.2.2.1).length ≤ _; rw [List.length_cons]; omega, cons_ok (stF_ok h1 _) h4, h5⟩
    · split
      · have k := asL_ok ht (V := V) (cnt := cnt) (tbl := stF (V a) m.1) p1.1 (t - 1) m.2.1 (-1 - coP t V cnt (stF (V a) m.1) (t - 1) % (t : Int)) (opc ht _) (by omega)
        exact ⟨h1, by show (asL t V cnt _ _ (t - 1) m.2.1 _).1.length ≤ _; omega, by show (_ :: (poP m.2.2.1).2).length ≤ _; rw [List.length_cons]; omega, cons_ok k.1 p1.2.1, h5⟩
      · split
        · have k := chP_ok ht (w := m.2.1) p3.1 p2.1 p1.1 (by omega)
          exact ⟨h1, by show (chP t m.2.1 _ _ _).1.length ≤ _; omega, by show (_ :: (poP (poP (poP m.2.2.1).2).2).2).length ≤ _; rw [List.length_cons]; omega, cons_ok k.1 p3.2.1, h5⟩
        · have k := jnP_ok ht o (w := m.2.1) p2.1 p1.1 (by omega)
          exact ⟨h1, by show (jnP t o m.2.1 _ _).1.length ≤ _; omega, by show (_ :: (poP (poP m.2.2.1).2).2).length ≤ _; rw [List.length_cons]; omega, cons_ok k.1 p2.2.1, h5⟩
theorem endP_ok {t : Nat} (ht : 2 ≤ t) {V : Nat → Nat} {o a n : Nat} {m : MS} (h : msR t n m) : msR t (n + 1) (endP V o a m) := by
  obtain ⟨h1, h2, h3, h4, h5⟩ := h
  have p1 := poP_ok ht h4
  unfold endP
  split
  · exact ⟨mem_set_ok h1 p1.1, by show m.2.1.length ≤ _; omega, by show (poP m.2.2.1).2.length ≤ _; omega, p1.2.1, h5⟩
  · refine ⟨h1, by show m.2.1.length ≤ _; omega, by show (poP m.2.2.1).2.length ≤ _; omega, p1.2.1, ?_⟩
    dsimp only
    split
    · rw [List.length_append, List.length_singleton]; omega
    · exact h5
/-! the class -/
def skOK (st : St) (s : List Int) : Prop := st.1 14 2 = nI s.length ∧ ∀ j, j < s.length → (st.1 15 j).toInt = s.getD (s.length - 1 - j) 0
def ouOK (st : St) (q : Nat) (o : List Int) : Prop := st.1 (95 + 5 * q) 6 = nI o.length ∧ ∀ j, j < o.length → (st.1 (99 + 5 * q) j).toInt = o.getD j 0
def msOK (t q : Nat) (st : St) (m : MS) : Prop := nmOK st m.1 ∧ mrOK t q st m.2.1 ∧ skOK st m.2.2.1 ∧ ouOK st q m.2.2.2 ∧ m.1.length ≤ 300
def mFr (q : Nat) (st u : St) : Prop := (∀ a, a ≠ 13 → a ≠ 14 → a ≠ 15 → a ≠ 95 + 5 * q → a ≠ 96 + 5 * q → a ≠ 97 + 5 * q → a ≠ 98 + 5 * q → a ≠ 99 + 5 * q → u.1 a = st.1 a) ∧ u.2 = st.2 ∧ u.1 14 0 = st.1 14 0 ∧ u.1 (95 + 5 * q) 4 = st.1 (95 + 5 * q) 4 ∧ u.1 14 3 = st.1 14 3
theorem mFr.refl (q : Nat) (st : St) : mFr q st st := ⟨fun _ _ _ _ _ _ _ _ _ => rfl, rfl, rfl, rfl, rfl⟩
theorem mFr.trans {q : Nat} {a b c : St} (h1 : mFr q a b) (h2 : mFr q b c) : mFr q a c := ⟨fun k x1 x2 x3 x4 x5 x6 x7 x8 => (h2.1 k x1 x2 x3 x4 x5 x6 x7 x8).trans (h1.1 k x1 x2 x3 x4 x5 x6 x7 x8), h2.2.1.trans h1.2.1, h2.2.2.1.trans h1.2.2.1, h2.2.2.2.1.trans h1.2.2.2.1, h2.2.2.2.2.trans h1.2.2.2.2⟩
theorem mFr_p {q : Nat} {st u : St} (h : pFr q st u) : mFr q st u := ⟨fun a _ _ _ x4 x5 x6 x7 _ => h.1 a x4 x5 x6 x7, h.2.1, by rw [h.1 14 (by omega) (by omega) (by omega) (by omega)], h.2.2.1, by rw [h.1 14 (by omega) (by omega) (by omega) (by omega)]⟩
theorem ms_works {t q : Nat} {st u : St} {m : MS} (h : msOK t q st m) (hf : pFr q st u) {w : List WK} (hw : pgW u q w) : msOK t q u (m.1, w, m.2.2.1, m.2.2.2) := by
  obtain ⟨h1, h2, h3, h4, h5⟩ := h
  refine ⟨?_, mk_fr h2 hf hw, ?_, ?_, h5⟩
  · unfold nmOK
    rw [hf.1 10 (by omega) (by omega) (by omega) (by omega), hf.1 12 (by omega) (by omega) (by omega) (by omega), hf.1 13 (by omega) (by omega) (by omega) (by omega), hf.2.1]
    exact h1
  · unfold skOK
    rw [hf.1 14 (by omega) (by omega) (by omega) (by omega), hf.1 15 (by omega) (by omega) (by omega) (by omega)]
    exact h3
  · unfold ouOK
    rw [hf.2.2.2, hf.1 (99 + 5 * q) (by omega) (by omega) (by omega) (by omega)]
    exact h4
theorem ms_stack {t q : Nat} {st u : St} {m : MS} (h : msOK t q st m) (h1 : ∀ a, a ≠ 14 → a ≠ 15 → u.1 a = st.1 a) (h2 : u.2 = st.2) (h3 : u.1 14 0 = st.1 14 0) {s : List Int} (hs : skOK u s) : msOK t q u (m.1, m.2.1, s, m.2.2.2) := by
  obtain ⟨a1, a2, a3, a4, a5⟩ := h
  refine ⟨?_, ?_, hs, ?_, a5⟩
  · unfold nmOK
    rw [h1 10 (by omega) (by omega), h1 12 (by omega) (by omega), h1 13 (by omega) (by omega), h2]
    exact a1
  · unfold mrOK pgW
    rw [h3, h1 (95 + 5 * q) (by omega) (by omega), h1 (96 + 5 * q) (by omega) (by omega), h1 (97 + 5 * q) (by omega) (by omega), h1 (98 + 5 * q) (by omega) (by omega)]
    exact a2
  · unfold ouOK
    rw [h1 (95 + 5 * q) (by omega) (by omega), h1 (99 + 5 * q) (by omega) (by omega)]
    exact a4
/-- nothing but the stack -/
def kFr (st u : St) : Prop := (∀ a, a ≠ 14 → a ≠ 15 → u.1 a = st.1 a) ∧ u.2 = st.2 ∧ u.1 14 0 = st.1 14 0 ∧ u.1 14 3 = st.1 14 3
theorem mFr_k {q : Nat} {st u : St} (h : kFr st u) : mFr q st u := ⟨fun a _ x2 x3 _ _ _ _ _ => h.1 a x2 x3, h.2.1, h.2.2.1, by rw [h.1 _ (by omega) (by omega)], h.2.2.2⟩
theorem ms_k {t q : Nat} {st u : St} {m : MS} (h : msOK t q st m) (hk : kFr st u) {s : List Int} (hs : skOK u s) : msOK t q u (m.1, m.2.1, s, m.2.2.2) := ms_stack h hk.1 hk.2.1 hk.2.2.1 hs
section MAKE
variable {l : Launch} {D : va_G} {cy : Nat → ClassId} {t : Nat} {K P V : Nat → Nat} {cnt : Nat}
theorem m_push (st : St) {s : List Int} (hs : skOK st s) (hl : s.length < 300) (c : Int32) : Mv l D cy 0 YX3_push [.ref 14, .int c] st (fun u => kFr st u ∧ skOK u (c.toInt :: s)) := by
  obtain ⟨h1, h2⟩ := hs
  have hin : vp_in (nI s.length) 300 := vp_in_nI (by omega) (by decide)
  have hcl : (nI s.length).toNatClampNeg = s.length := nI_clamp (by omega)
  refine M.ofG [some (.ref 14), some (.int c)] (by decide) (Nat.le_of_ble_eq_true rfl) rfl ?_
  intro xp xe xs xm xa xb xme xc xad xA
  refine g_ald0 eX3_push_0 ?_
  refine g_getI (ci := 3) (j := 2) rfl (Nat.le_of_ble_eq_true rfl) (Nat.le_of_ble_eq_true rfl) (Nat.le_of_ble_eq_true rfl) rfl fl_X3_17 eX3_push_1 ?_
  rw [h1]
  refine g_ald0 eX3_push_4 ?_
  refine g_getR (ci := 3) (j := 1) rfl (Nat.le_of_ble_eq_true rfl) (Nat.le_of_ble_eq_true rfl) (Nat.le_of_ble_eq_true rfl) rfl rfl fl_X3_11 eX3_push_5 ?_
  refine g_alen (by first | decide | (rw [kd_ya hi]; decide)) (by first | decide | (rw [kd_ya hi]; decide)) (Nat.le_of_ble_eq_true rfl) rfl eX3_push_8 ?_
  refine g_icmp_ge eX3_push_9 (fun hb => ?_) (fun hb => ?_)
  · exact absurd hb (nI_ge (a := s.length) (b := 300) (by omega) (by omega))
  · refine g_ald0 eX3_push_12 ?_
    refine g_getR (ci := 3) (j := 1) rfl (Nat.le_of_ble_eq_true rfl) (Nat.le_of_ble_eq_true rfl) (Nat.le_of_ble_eq_true rfl) rfl rfl fl_X3_11 eX3_push_13 ?_
    refine g_ald0 eX3_push_16 ?_
    refine g_getI (ci := 3) (j := 2) rfl (Nat.le_of_ble_eq_true rfl) (Nat.le_of_ble_eq_true rfl) (Nat.le_of_ble_eq_true rfl) rfl fl_X3_17 eX3_push_17 ?_
    rw [h1]
    refine g_ild1 eX3_push_20 ?_
    refine g_iast rfl (Nat.le_of_ble_eq_true rfl) hin eX3_push_21 ?_
    refine g_ald0 eX3_push_22 ?_
    refine g_dup rfl eX3_push_23 ?_
    refine g_getI (ci := 3) (j := 2) rfl (Nat.le_of_ble_eq_true rfl) (Nat.le_of_ble_eq_true rfl) (Nat.le_of_ble_eq_true rfl) rfl fl_X3_17 eX3_push_24 ?_
    rw [hcl, show (sI st 15 s.length c).1 14 2 = nI s.length from h1]
    refine g_iconst (v := 1) (by decide) eX3_push_27 ?_
    refine g_iadd eX3_push_28 ?_
    refine g_putI (ci := 3) (j := 2) rfl rfl (Nat.le_of_ble_eq_true rfl) (Nat.le_of_ble_eq_true rfl) (Nat.le_of_ble_eq_true rfl) rfl fl_X3_17 eX3_push_29 ?_
    rw [show nI s.length + 1 = nI (s.length + 1) from nI_1 _]
    refine g_vret rfl eX3_push_32 ⟨rfl, ?_⟩
    try dsimp only
    refine ⟨⟨fun a x y => ?_, rfl, ?_, ?_⟩, ?_, fun j hj => ?_⟩
    · rw [sI_row x, sI_row y]
    · rw [sI_1, if_neg (by omega)]; rfl
    · rw [sI_1, if_neg (by omega)]; rfl
    · rw [sI_1, if_pos ⟨rfl, rfl⟩]; rfl
    · rw [List.length_cons] at hj ⊢
      rw [sI_row (a := 15) (by decide), sI_at]
      by_cases e : j = s.length
      · rw [if_pos e, show s.length + 1 - 1 - j = 0 by omega]
        rfl
      · rw [if_neg e, h2 j (by omega), show s.length + 1 - 1 - j = (s.length - 1 - j) + 1 by omega]
        rfl
theorem m_pop (st : St) {s : List Int} (hs : skOK st s) (hl : s.length ≤ 300) : Mi l D cy 1 YX3_pop [.ref 14] st (fun r u => kFr st u ∧ r.toInt = (poP s).1 ∧ skOK u (poP s).2) := by
  obtain ⟨h1, h2⟩ := hs
  refine M.ofG [some (.ref 14)] (by decide) (Nat.le_of_ble_eq_true rfl) rfl ?_
  intro xp xe xs xm xa xb xme xc xad xA
  refine g_ald0 eX3_pop_0 ?_
  refine g_getI (ci := 3) (j := 2) rfl (Nat.le_of_ble_eq_true rfl) (Nat.le_of_ble_eq_true rfl) (Nat.le_of_ble_eq_true rfl) rfl fl_X3_17 eX3_pop_1 ?_
  rw [h1]
  refine g_iconst (v := 1) (by decide) eX3_pop_4 ?_
  cases s with
  | nil =>
    refine g_icmp_ge eX3_pop_5 (fun hb => ?_) (fun hb => ?_)
    · exact absurd hb (by decide)
    · refine g_iconst (v := 0) (by decide) eX3_pop_8 ?_
      refine g_callSi (m_codeOfOpen st 0) cs_X3_71 eX3_pop_9 ⟨Nat.le_of_ble_eq_true rfl, Nat.le_of_ble_eq_true rfl⟩ rfl rfl (Nat.le_of_ble_eq_true rfl) (fun r st h => ?_)
      obtain ⟨rfl, rfl⟩ := h
      exact g_iret rfl eX3_pop_12 ⟨_, rfl, ⟨⟨fun _ _ _ => rfl, rfl, rfl, rfl⟩, rfl, h1, h2⟩⟩
  | cons x r =>
    rw [List.length_cons] at hl h1 h2 ⊢
    refine g_icmp_ge eX3_pop_5 (fun hb => ?_) (fun hb => ?_)
    · refine g_ald0 eX3_pop_13 ?_
      refine g_dup rfl eX3_pop_14 ?_
      refine g_getI (ci := 3) (j := 2) rfl (Nat.le_of_ble_eq_true rfl) (Nat.le_of_ble_eq_true rfl) (Nat.le_of_ble_eq_true rfl) rfl fl_X3_17 eX3_pop_15 ?_
      rw [h1]
      refine g_iconst (v := 1) (by decide) eX3_pop_18 ?_
      refine g_isub eX3_pop_19 ?_
      rw [show nI (r.length + 1) - 1 = nI r.length from nI_pred _]
      refine g_putI (ci := 3) (j := 2) rfl rfl (Nat.le_of_ble_eq_true rfl) (Nat.le_of_ble_eq_true rfl) (Nat.le_of_ble_eq_true rfl) rfl fl_X3_17 eX3_pop_20 ?_
      refine g_ald0 eX3_pop_23 ?_
      refine g_getR (ci := 3) (j := 1) rfl (Nat.le_of_ble_eq_true rfl) (Nat.le_of_ble_eq_true rfl) (Nat.le_of_ble_eq_true rfl) rfl rfl fl_X3_11 eX3_pop_24 ?_
      refine g_ald0 eX3_pop_27 ?_
      refine g_getI (ci := 3) (j := 2) rfl (Nat.le_of_ble_eq_true rfl) (Nat.le_of_ble_eq_true rfl) (Nat.le_of_ble_eq_true rfl) rfl fl_X3_17 eX3_pop_28 ?_
      rw [show (sI st 14 2 (nI r.length)).1 14 2 = nI r.length from rfl]
      refine g_iald rfl (Nat.le_of_ble_eq_true rfl) (vp_in_nI (n := r.length) (N := 300) (by omega) (by decide)) eX3_pop_31 ?_
      rw [nI_clamp (by omega)]
      refine g_iret rfl eX3_pop_32 ⟨_, rfl, ?_⟩
      try dsimp only
      refine ⟨⟨fun a x y => sI_row x, rfl, ?_, ?_⟩, ?_, ?_, fun j hj => ?_⟩
      · rw [sI_1, if_neg (by omega)]
      · rw [sI_1, if_neg (by omega)]
      · rw [sI_row (by decide), h2 r.length (by omega), show r.length + 1 - 1 - r.length = 0 by omega]
        rfl
      · rw [sI_1, if_pos ⟨rfl, rfl⟩]
        rfl
      · have hj2 : j < r.length := hj
        rw [sI_row (by decide), h2 j (by omega), show r.length + 1 - 1 - j = (r.length - 1 - j) + 1 by omega]
        rfl
    · exact absurd (nI_le (a := 1) (b := r.length + 1) (by omega) (by omega)) hb
theorem m_addOutG (st : St) {q : Nat} (hq : q < 4) {o : List Int} (ho : ouOK st q o) (h4 : o.length ≤ 4) (v : Int32) : Mv l D cy 0 YX7_addOut [.ref (95 + 5 * q), .int v] st (fun u => (∀ a, a ≠ 95 + 5 * q → a ≠ 99 + 5 * q → u.1 a = st.1 a) ∧ u.2 = st.2 ∧ u.1 (95 + 5 * q) 4 = st.1 (95 + 5 * q) 4 ∧ u.1 (95 + 5 * q) 5 = st.1 (95 + 5 * q) 5 ∧ ouOK u q (if o.length < 4 then o ++ [v.toInt] else o)) := by
  obtain ⟨h1, h2⟩ := ho
  by_cases h : o.length < 4
  · rw [if_pos h]
    refine M.mono (m_addOut st hq o.length h1 h v) (fun z u hu => ?_)
    obtain ⟨rfl, rfl⟩ := hu
    refine ⟨rfl, fun a x y => ?_, rfl, ?_, ?_, ?_, fun j hj => ?_⟩
    · rw [sI_row x, sI_row y]
    · rw [sI_1, if_neg (by omega), sI_row (by omega)]
    · rw [sI_1, if_neg (by omega), sI_row (by omega)]
    · rw [sI_1, if_pos ⟨rfl, rfl⟩, List.length_append]; rfl
    · rw [List.length_append, List.length_singleton] at hj
      rw [getD_app, sI_row (a := 99 + 5 * q) (by omega), sI_at]
      by_cases e : j = o.length
      · simp only [if_pos e, if_neg (show ¬ j < o.length by omega)]
      · simp only [if_neg e, if_pos (show j < o.length by omega)]
        exact h2 j (by omega)
  · rw [if_neg h]
    have e : o.length = 4 := by omega
    refine M.ofG [some (.ref (95 + 5 * q)), some (.int v)] (by decide) (Nat.le_of_ble_eq_true rfl) rfl ?_
    intro xp xe xs xm xa xb xme xc xad xA
    refine g_ald0 eX7_addOut_0 ?_
    refine g_getI (ci := 6) (j := 6) (by first | rfl | exact kd_key hi | exact kd_sh hi | exact kd_ya hi | exact kd_pr hq | exact kd_pk hq | exact kd_pf hq | exact kd_ps hq | exact kd_po hq | exact kd_pr hq2 | exact kd_pk hq2 | exact kd_pf hq2 | exact kd_ps hq2 | exact kd_po hq2) (by first | decide | (unfold N0; omega)) (Nat.le_of_ble_eq_true rfl) (Nat.le_of_ble_eq_true rfl) rfl fl_X7_31 eX7_addOut_1 ?_
    rw [h1, e]
    refine g_iconst (v := 4) (by decide) eX7_addOut_4 ?_
    refine g_icmp_ge eX7_addOut_5 (fun hb => ?_) (fun hb => ?_)
    · exact g_vret rfl eX7_addOut_28 ⟨rfl, ⟨fun _ _ _ => rfl, rfl, rfl, rfl, h1, h2⟩⟩
    · exact absurd (show (4 : Int32) ≤ nI 4 by decide) hb
theorem nv_mfr {q : Nat} {st u : St} (hv : nvOK K P V cnt st) (hf : mFr q st u) : nvOK K P V cnt u := by
  unfold nvOK
  rw [hf.1 4 (by omega) (by omega) (by omega) (by omega) (by omega) (by omega) (by omega) (by omega), hf.1 5 (by omega) (by omega) (by omega) (by omega) (by omega) (by omega) (by omega) (by omega), hf.1 6 (by omega) (by omega) (by omega) (by omega) (by omega) (by omega) (by omega) (by omega), hf.2.1]
  exact hv
theorem m_endTell (st : St) {q : Nat} (hq : q < 4) {m : MS} (hm : msOK t q st m) {n : Nat} (hr : msR t n m) (hn : n ≤ 300) (o a : Nat) (ho : o < 256) (hva : V (a + 1) < 1099511627776) : Mv l D cy 2 YX3_endTell [.ref 14, .int (nI o), .long (lN (V (a + 1))), .ref 10, .ref (95 + 5 * q)] st (fun u => mFr q st u ∧ msOK t q u (endP V o a m)) := by
  have h2 := hm.2.1.2.1
  refine M.ofG [some (.ref 14), some (.int (nI o)), some (.long (lN (V (a + 1)))), none, some (.ref 10), some (.ref (95 + 5 * q)), none] (by decide) (Nat.le_of_ble_eq_true rfl) rfl ?_
  intro xp xe xs xm xa xb xme xc xad xA
  unfold endP
  refine g_ald0 eX3_endTell_0 ?_
  refine g_callVi (ci := 3) (m_pop st hm.2.2.1 (by have := hr.2.2.1; omega)) (by first | rfl | exact kd_key hi | exact kd_sh hi | exact kd_ya hi | exact kd_pr hq | exact kd_pk hq | exact kd_pf hq | exact kd_ps hq | exact kd_po hq | exact kd_pr hq2 | exact kd_pk hq2 | exact kd_pf hq2 | exact kd_ps hq2 | exact kd_po hq2) (by first | decide | (unfold N0; omega)) (Nat.le_of_ble_eq_true rfl) rfl cv_X3_75 eX3_endTell_1 ⟨Nat.le_of_ble_eq_true rfl, Nat.le_of_ble_eq_true rfl⟩ rfl rfl (Nat.le_of_ble_eq_true rfl) (fun c u1 h => ?_)
  obtain ⟨k1, c1, s1⟩ := h
  have hm1 := ms_k hm k1 s1
  refine g_ist6 rfl (Nat.le_of_ble_eq_true rfl) eX3_endTell_4 ?_
  refine g_ild1 eX3_endTell_6 ?_
  refine g_bipush (v := 6) (by decide) eX3_endTell_7 ?_
  refine g_icmp_ne eX3_endTell_9 (fun hb => ?_) (fun hb => ?_)
  · have e : ¬ o = 6 := fun z => hb (by rw [z]; rfl)
    rw [if_neg e]
    refine g_ald5 eX3_endTell_23 ?_
    refine g_ild6 eX3_endTell_25 ?_
    refine g_callVv (ci := 6) (m_addOutG u1 hq hm1.2.2.2.1 hr.2.2.2.2 c) (by first | rfl | exact kd_key hi | exact kd_sh hi | exact kd_ya hi | exact kd_pr hq | exact kd_pk hq | exact kd_pf hq | exact kd_ps hq | exact kd_po hq | exact kd_pr hq2 | exact kd_pk hq2 | exact kd_pf hq2 | exact kd_ps hq2 | exact kd_po hq2) (by first | decide | (unfold N0; omega)) (Nat.le_of_ble_eq_true rfl) rfl cv_X3_83 eX3_endTell_27 ⟨Nat.le_of_ble_eq_true rfl, Nat.le_of_ble_eq_true rfl⟩ rfl rfl (Nat.le_of_ble_eq_true rfl) (fun u2 h => ?_)
    obtain ⟨f1, f2, f3, f4, f5⟩ := h
    rw [c1] at f5
    refine g_vret rfl eX3_endTell_30 ⟨rfl, ?_⟩
    try dsimp only
    refine ⟨(mFr_k k1).trans ⟨fun a _ _ _ x4 _ _ _ x8 => f1 a x4 x8, f2, ?_, f3, ?_⟩, ?_, ?_, ?_, f5, hm.2.2.2.2⟩
    · rw [f1 14 (by omega) (by omega)]
    · rw [f1 14 (by omega) (by omega)]
    · unfold nmOK
      rw [f1 10 (by omega) (by omega), f1 12 (by omega) (by omega), f1 13 (by omega) (by omega), f2]
      exact hm1.1
    · unfold mrOK pgW
      rw [f4, f1 14 (by omega) (by omega), f1 (96 + 5 * q) (by omega) (by omega), f1 (97 + 5 * q) (by omega) (by omega), f1 (98 + 5 * q) (by omega) (by omega)]
      exact hm1.2.1
    · unfold skOK
      rw [f1 14 (by omega) (by omega), f1 15 (by omega) (by omega)]
      exact s1
  · have e : o = 6 := (nI_eq (b := 6) (by omega) (by omega)).mp hb
    rw [if_pos e]
    refine g_ald4 eX3_endTell_12 ?_
    refine g_lld2 eX3_endTell_14 ?_
    refine g_ild6 eX3_endTell_15 ?_
    refine g_callVv (ci := 4) (m_letStandFor u1 hm1.1 hm.2.2.2.2 (V (a + 1)) hva c) (by first | rfl | exact kd_key hi | exact kd_sh hi | exact kd_ya hi | exact kd_pr hq | exact kd_pk hq | exact kd_pf hq | exact kd_ps hq | exact kd_po hq | exact kd_pr hq2 | exact kd_pk hq2 | exact kd_pf hq2 | exact kd_ps hq2 | exact kd_po hq2) (by first | decide | (unfold N0; omega)) (Nat.le_of_ble_eq_true rfl) rfl cv_X3_79 eX3_endTell_17 ⟨Nat.le_of_ble_eq_true rfl, Nat.le_of_ble_eq_true rfl⟩ rfl rfl (Nat.le_of_ble_eq_true rfl) (fun u2 h => ?_)
    obtain ⟨f2, f1, f5⟩ := h
    rw [c1] at f5
    refine g_goto eX3_endTell_20 ?_
    refine g_vret rfl eX3_endTell_30 ⟨rfl, ?_⟩
    try dsimp only
    refine ⟨(mFr_k k1).trans ⟨fun a x1 _ _ _ _ _ _ _ => f1 a x1, f2, ?_, ?_, ?_⟩, f5, ?_, ?_, ?_, ?_⟩
    · rw [f1 14 (by omega)]
    · rw [f1 _ (by omega)]
    · rw [f1 14 (by omega)]
    · unfold mrOK pgW
      rw [f1 14 (by omega), f1 (95 + 5 * q) (by omega), f1 (96 + 5 * q) (by omega), f1 (97 + 5 * q) (by omega), f1 (98 + 5 * q) (by omega)]
      exact hm1.2.1
    · unfold skOK
      rw [f1 14 (by omega), f1 15 (by omega)]
      exact s1
    · unfold ouOK
      rw [f1 (95 + 5 * q) (by omega), f1 (99 + 5 * q) (by omega)]
      exact hm1.2.2.2.1
    · show (letS (V (a + 1)) (poP m.2.2.1).1 m.1).length ≤ 300
      rw [letS_len]; exact hm.2.2.2.2
theorem m_follow (st : St) {q : Nat} (hq : q < 4) (hv : nvOK K P V cnt st) {m : MS} (hm : msOK t q st m) {n : Nat} (hr : msR t n m) (hn : n < 300) (o a : Nat) (ho : o < 256) (ha : a ≤ cnt) : Mv l D cy 5 YX3_follow [.ref 14, .int (nI o), .int (nI a), .ref 4, .ref 10, .ref (95 + 5 * q)] st (fun u => mFr q st u ∧ msOK t q u (folP t V cnt o a m)) := by
  have h2 := hm.2.1.2.1
  have h13 := hm.2.1.2.2.1
  have h300 := hv.2.1
  obtain ⟨r1, r2, r3, r4, r5⟩ := hr
  have p1 := poP_ok h2 r4
  have p2 := poP_ok h2 p1.2.1
  have p3 := poP_ok h2 p2.2.1
  obtain ⟨v1, v2, v3, v4, v5⟩ := hv.2.2 a ha
  have hin : vp_in (nI a) 302 := vp_in_nI (by omega) (by decide)
  have hcl : (nI a).toNatClampNeg = a := nI_clamp (by omega)
  have hst := stF_ok r1 (V a)
  refine M.ofG [some (.ref 14), some (.int (nI o)), some (.int (nI a)), some (.ref 4), some (.ref 10), some (.ref (95 + 5 * q)), none, none] (by decide) (Nat.le_of_ble_eq_true rfl) rfl ?_
  intro xp xe xs xm xa xb xme xc xad xA
  unfold folP
  refine g_ild1 eX3_follow_0 ?_
  refine g_iconst (v := 3) (by decide) eX3_follow_1 ?_
  refine g_icmp_ne eX3_follow_2 (fun hb => ?_) (fun hb => ?_)
  · have e3 : ¬ o = 3 := fun z => hb (by rw [z]; rfl)
    rw [if_neg e3]
    refine g_ild1 eX3_follow_22 ?_
    refine g_iconst (v := 2) (by decide) eX3_follow_23 ?_
    refine g_icmp_ne eX3_follow_24 (fun hb => ?_) (fun hb => ?_)
    · have e2 : ¬ o = 2 := fun z => hb (by rw [z]; rfl)
      rw [if_neg e2]
      refine g_ild1 eX3_follow_45 ?_
      refine g_bipush (v := 9) (by decide) eX3_follow_46 ?_
      refine g_icmp_ne eX3_follow_48 (fun hb => ?_) (fun hb => ?_)
      · have e9 : ¬ o = 9 := fun z => hb (by rw [z]; rfl)
        rw [if_neg e9]
        refine g_ild1 eX3_follow_80 ?_
        refine g_bipush (v := 8) (by decide) eX3_follow_81 ?_
        refine g_icmp_ne eX3_follow_83 (fun hb => ?_) (fun hb => ?_)
        · have e8 : ¬ o = 8 := fun z => hb (by rw [z]; rfl)
          rw [if_neg e8]
          refine g_ald0 eX3_follow_119 ?_
          refine g_callVi (ci := 3) (m_pop st hm.2.2.1 (by omega)) (by first | rfl | exact kd_key hi | exact kd_sh hi | exact kd_ya hi | exact kd_pr hq | exact kd_pk hq | exact kd_pf hq | exact kd_ps hq | exact kd_po hq | exact kd_pr hq2 | exact kd_pk hq2 | exact kd_pf hq2 | exact kd_ps hq2 | exact kd_po hq2) (by first | decide | (unfold N0; omega)) (Nat.le_of_ble_eq_true rfl) rfl cv_X3_75 eX3_follow_120 ⟨Nat.le_of_ble_eq_true rfl, Nat.le_of_ble_eq_true rfl⟩ rfl rfl (Nat.le_of_ble_eq_true rfl) (fun b u1 h => ?_)
          obtain ⟨k1, c1, s1⟩ := h
          have hm1 := ms_k hm k1 s1
          refine g_ist6 rfl (Nat.le_of_ble_eq_true rfl) eX3_follow_123 ?_
          refine g_ald0 eX3_follow_125 ?_
          refine g_ald0 eX3_follow_126 ?_
          refine g_ild1 eX3_follow_127 ?_
          refine g_ald0 eX3_follow_128 ?_
          refine g_callVi (ci := 3) (m_pop u1 s1 (by omega)) (by first | rfl | exact kd_key hi | exact kd_sh hi | exact kd_ya hi | exact kd_pr hq | exact kd_pk hq | exact kd_pf hq | exact kd_ps hq | exact kd_po hq | exact kd_pr hq2 | exact kd_pk hq2 | exact kd_pf hq2 | exact kd_ps hq2 | exact kd_po hq2) (by first | decide | (unfold N0; omega)) (Nat.le_of_ble_eq_true rfl) rfl cv_X3_75 eX3_follow_129 ⟨Nat.le_of_ble_eq_true rfl, Nat.le_of_ble_eq_true rfl⟩ rfl rfl (Nat.le_of_ble_eq_true rfl) (fun a9 u2 h => ?_)
          obtain ⟨k2, c2, s2⟩ := h
          have hm2 := ms_k hm1 k2 s2
          refine g_ild6 eX3_follow_132 ?_
          refine g_ald5 eX3_follow_134 ?_
          refine g_callVi (ci := 3) (m_joinedBy u2 hq hm2.2.1 (by show m.2.1.length < _; omega) o ho a9 b (by rw [c2]; exact p2.1) (by rw [c1]; exact p1.1)) (by first | rfl | exact kd_key hi | exact kd_sh hi | exact kd_ya hi | exact kd_pr hq | exact kd_pk hq | exact kd_pf hq | exact kd_ps hq | exact kd_po hq | exact kd_pr hq2 | exact kd_pk hq2 | exact kd_pf hq2 | exact kd_ps hq2 | exact kd_po hq2) (by first | decide | (unfold N0; omega)) (Nat.le_of_ble_eq_true rfl) rfl cv_X3_104 eX3_follow_136 ⟨Nat.le_of_ble_eq_true rfl, Nat.le_of_ble_eq_true rfl⟩ rfl rfl (Nat.le_of_ble_eq_true rfl) (fun r u3 h => ?_)
          obtain ⟨f3, c3, w3⟩ := h
          rw [c1, c2] at c3 w3
          have hm3 := ms_works hm2 f3 w3
          refine g_callVv (ci := 3) (m_push u3 hm3.2.2.1 (by show (poP (poP m.2.2.1).2).2.length < _; omega) r) (by first | rfl | exact kd_key hi | exact kd_sh hi | exact kd_ya hi | exact kd_pr hq | exact kd_pk hq | exact kd_pf hq | exact kd_ps hq | exact kd_po hq | exact kd_pr hq2 | exact kd_pk hq2 | exact kd_pf hq2 | exact kd_ps hq2 | exact kd_po hq2) (by first | decide | (unfold N0; omega)) (Nat.le_of_ble_eq_true rfl) rfl cv_X3_90 eX3_follow_139 ⟨Nat.le_of_ble_eq_true rfl, Nat.le_of_ble_eq_true rfl⟩ rfl rfl (Nat.le_of_ble_eq_true rfl) (fun u4 h => ?_)
          obtain ⟨k4, s4⟩ := h
          rw [c3] at s4
          refine g_vret rfl eX3_follow_142 ⟨rfl, ?_⟩
          try dsimp only
          exact ⟨((((mFr_k k1).trans (mFr_k k2)).trans (mFr_p f3)).trans (mFr_k k4)), ms_k hm3 k4 s4⟩
        · have e8 : o = 8 := (nI_eq (b := 8) (by omega) (by omega)).mp hb
          rw [if_pos e8]
          refine g_ald0 eX3_follow_86 ?_
          refine g_callVi (ci := 3) (m_pop st hm.2.2.1 (by omega)) (by first | rfl | exact kd_key hi | exact kd_sh hi | exact kd_ya hi | exact kd_pr hq | exact kd_pk hq | exact kd_pf hq | exact kd_ps hq | exact kd_po hq | exact kd_pr hq2 | exact kd_pk hq2 | exact kd_pf hq2 | exact kd_ps hq2 | exact kd_po hq2) (by first | decide | (unfold N0; omega)) (Nat.le_of_ble_eq_true rfl) rfl cv_X3_75 eX3_follow_87 ⟨Nat.le_of_ble_eq_true rfl, Nat.le_of_ble_eq_true rfl⟩ rfl rfl (Nat.le_of_ble_eq_true rfl) (fun b u1 h => ?_)
          obtain ⟨k1, c1, s1⟩ := h
          have hm1 := ms_k hm k1 s1
          refine g_ist6 rfl (Nat.le_of_ble_eq_true rfl) eX3_follow_90 ?_
          refine g_ald0 eX3_follow_92 ?_
          refine g_callVi (ci := 3) (m_pop u1 s1 (by omega)) (by first | rfl | exact kd_key hi | exact kd_sh hi | exact kd_ya hi | exact kd_pr hq | exact kd_pk hq | exact kd_pf hq | exact kd_ps hq | exact kd_po hq | exact kd_pr hq2 | exact kd_pk hq2 | exact kd_pf hq2 | exact kd_ps hq2 | exact kd_po hq2) (by first | decide | (unfold N0; omega)) (Nat.le_of_ble_eq_true rfl) rfl cv_X3_75 eX3_follow_93 ⟨Nat.le_of_ble_eq_true rfl, Nat.le_of_ble_eq_true rfl⟩ rfl rfl (Nat.le_of_ble_eq_true rfl) (fun a9 u2 h => ?_)
          obtain ⟨k2, c2, s2⟩ := h
          have hm2 := ms_k hm1 k2 s2
          refine g_ist7 rfl (Nat.le_of_ble_eq_true rfl) eX3_follow_96 ?_
          refine g_ald0 eX3_follow_98 ?_
          refine g_ald0 eX3_follow_99 ?_
          refine g_ald0 eX3_follow_100 ?_
          refine g_callVi (ci := 3) (m_pop u2 s2 (by omega)) (by first | rfl | exact kd_key hi | exact kd_sh hi | exact kd_ya hi | exact kd_pr hq | exact kd_pk hq | exact kd_pf hq | exact kd_ps hq | exact kd_po hq | exact kd_pr hq2 | exact kd_pk hq2 | exact kd_pf hq2 | exact kd_ps hq2 | exact kd_po hq2) (by first | decide | (unfold N0; omega)) (Nat.le_of_ble_eq_true rfl) rfl cv_X3_75 eX3_follow_101 ⟨Nat.le_of_ble_eq_true rfl, Nat.le_of_ble_eq_true rfl⟩ rfl rfl (Nat.le_of_ble_eq_true rfl) (fun c u3 h => ?_)
          obtain ⟨k3, c3, s3⟩ := h
          have hm3 := ms_k hm2 k3 s3
          refine g_ild7 eX3_follow_104 ?_
          refine g_ild6 eX3_follow_106 ?_
          refine g_ald5 eX3_follow_108 ?_
          refine g_callVi (ci := 3) (m_chosen u3 hq hm3.2.1 (by show m.2.1.length < _; omega) c a9 b (by rw [c3]; exact p3.1) (by rw [c2]; exact p2.1) (by rw [c1]; exact p1.1)) (by first | rfl | exact kd_key hi | exact kd_sh hi | exact kd_ya hi | exact kd_pr hq | exact kd_pk hq | exact kd_pf hq | exact kd_ps hq | exact kd_po hq | exact kd_pr hq2 | exact kd_pk hq2 | exact kd_pf hq2 | exact kd_ps hq2 | exact kd_po hq2) (by first | decide | (unfold N0; omega)) (Nat.le_of_ble_eq_true rfl) rfl cv_X3_100 eX3_follow_110 ⟨Nat.le_of_ble_eq_true rfl, Nat.le_of_ble_eq_true rfl⟩ rfl rfl (Nat.le_of_ble_eq_true rfl) (fun r u4 h => ?_)
          obtain ⟨f4, c4, w4⟩ := h
          rw [c1, c2, c3] at c4 w4
          have hm4 := ms_works hm3 f4 w4
          refine g_callVv (ci := 3) (m_push u4 hm4.2.2.1 (by show (poP (poP (poP m.2.2.1).2).2).2.length < _; omega) r) (by first | rfl | exact kd_key hi | exact kd_sh hi | exact kd_ya hi | exact kd_pr hq | exact kd_pk hq | exact kd_pf hq | exact kd_ps hq | exact kd_po hq | exact kd_pr hq2 | exact kd_pk hq2 | exact kd_pf hq2 | exact kd_ps hq2 | exact kd_po hq2) (by first | decide | (unfold N0; omega)) (Nat.le_of_ble_eq_true rfl) rfl cv_X3_90 eX3_follow_113 ⟨Nat.le_of_ble_eq_true rfl, Nat.le_of_ble_eq_true rfl⟩ rfl rfl (Nat.le_of_ble_eq_true rfl) (fun u5 h => ?_)
          obtain ⟨k5, s5⟩ := h
          rw [c4] at s5
          refine g_goto eX3_follow_116 ?_
          refine g_vret rfl eX3_follow_142 ⟨rfl, ?_⟩
          try dsimp only
          exact ⟨(((((mFr_k k1).trans (mFr_k k2)).trans (mFr_k k3)).trans (mFr_p f4)).trans (mFr_k k5)), ms_k hm4 k5 s5⟩
      · have e9 : o = 9 := (nI_eq (b := 9) (by omega) (by omega)).mp hb
        rw [if_pos e9]
        refine g_ald0 eX3_follow_51 ?_
        refine g_ald0 eX3_follow_52 ?_
        refine g_ald3 eX3_follow_53 ?_
        refine g_ald4 eX3_follow_54 ?_
        refine g_ald3 eX3_follow_56 ?_
        refine g_getR (ci := 9) (j := 2) (by first | rfl | exact kd_key hi | exact kd_sh hi | exact kd_ya hi | exact kd_pr hq | exact kd_pk hq | exact kd_pf hq | exact kd_ps hq | exact kd_po hq | exact kd_pr hq2 | exact kd_pk hq2 | exact kd_pf hq2 | exact kd_ps hq2 | exact kd_po hq2) (by first | decide | (unfold N0; omega)) (Nat.le_of_ble_eq_true rfl) (Nat.le_of_ble_eq_true rfl) rfl (by first | rfl | exact r_key4 hi | exact r_sh0 hi | exact r_p0 hq | exact r_p1 hq | exact r_p2 hq | exact r_p3 hq | exact r_p0 hq2 | exact r_p1 hq2 | exact r_p2 hq2 | exact r_p3 hq2) fl_X3_53 eX3_follow_57 ?_
        refine g_ild2 eX3_follow_60 ?_
        refine g_lald (by first | rfl | exact kd_key hi | exact kd_sh hi | exact kd_ya hi | exact kd_pr hq | exact kd_pk hq | exact kd_pf hq | exact kd_ps hq | exact kd_po hq | exact kd_pr hq2 | exact kd_pk hq2 | exact kd_pf hq2 | exact kd_ps hq2 | exact kd_po hq2) (by first | decide | (unfold N0; omega)) hin eX3_follow_61 ?_
        rw [hcl, v3]
        refine g_callVi (ci := 4) (m_standsFor st hm.1 hm.2.2.2.2 (V a) v5) (by first | rfl | exact kd_key hi | exact kd_sh hi | exact kd_ya hi | exact kd_pr hq | exact kd_pk hq | exact kd_pf hq | exact kd_ps hq | exact kd_po hq | exact kd_pr hq2 | exact kd_pk hq2 | exact kd_pf hq2 | exact kd_ps hq2 | exact kd_po hq2) (by first | decide | (unfold N0; omega)) (Nat.le_of_ble_eq_true rfl) rfl cv_X3_93 eX3_follow_62 ⟨Nat.le_of_ble_eq_true rfl, Nat.le_of_ble_eq_true rfl⟩ rfl rfl (Nat.le_of_ble_eq_true rfl) (fun tb st h => ?_)
        obtain ⟨rfl, h⟩ := h
        have h : tb.toInt = stF (V a) m.1 := h
        refine g_ald0 eX3_follow_65 ?_
        refine g_callVi (ci := 3) (m_pop st hm.2.2.1 (by omega)) (by first | rfl | exact kd_key hi | exact kd_sh hi | exact kd_ya hi | exact kd_pr hq | exact kd_pk hq | exact kd_pf hq | exact kd_ps hq | exact kd_po hq | exact kd_pr hq2 | exact kd_pk hq2 | exact kd_pf hq2 | exact kd_ps hq2 | exact kd_po hq2) (by first | decide | (unfold N0; omega)) (Nat.le_of_ble_eq_true rfl) rfl cv_X3_75 eX3_follow_66 ⟨Nat.le_of_ble_eq_true rfl, Nat.le_of_ble_eq_true rfl⟩ rfl rfl (Nat.le_of_ble_eq_true rfl) (fun x u1 g => ?_)
        obtain ⟨k1, c1, s1⟩ := g
        have hm1 := ms_k hm k1 s1
        refine g_ald5 eX3_follow_69 ?_
        refine g_callVi (ci := 3) (m_asked u1 hq (nv_mfr (q := q) hv (mFr_k k1)) hm1.2.1 (by show m.2.1.length < _; omega) tb x (by rw [h]; exact ⟨by omega, by omega⟩) (by rw [c1]; exact p1.1)) (by first | rfl | exact kd_key hi | exact kd_sh hi | exact kd_ya hi | exact kd_pr hq | exact kd_pk hq | exact kd_pf hq | exact kd_ps hq | exact kd_po hq | exact kd_pr hq2 | exact kd_pk hq2 | exact kd_pf hq2 | exact kd_ps hq2 | exact kd_po hq2) (by first | decide | (unfold N0; omega)) (Nat.le_of_ble_eq_true rfl) rfl cv_X3_96 eX3_follow_71 ⟨Nat.le_of_ble_eq_true rfl, Nat.le_of_ble_eq_true rfl⟩ rfl rfl (Nat.le_of_ble_eq_true rfl) (fun r u3 g => ?_)
        obtain ⟨f3, c3, w3⟩ := g
        rw [c1, h] at c3 w3
        have hm3 := ms_works hm1 f3 w3
        refine g_callVv (ci := 3) (m_push u3 hm3.2.2.1 (by show (poP m.2.2.1).2.length < _; omega) r) (by first | rfl | exact kd_key hi | exact kd_sh hi | exact kd_ya hi | exact kd_pr hq | exact kd_pk hq | exact kd_pf hq | exact kd_ps hq | exact kd_po hq | exact kd_pr hq2 | exact kd_pk hq2 | exact kd_pf hq2 | exact kd_ps hq2 | exact kd_po hq2) (by first | decide | (unfold N0; omega)) (Nat.le_of_ble_eq_true rfl) rfl cv_X3_90 eX3_follow_74 ⟨Nat.le_of_ble_eq_true rfl, Nat.le_of_ble_eq_true rfl⟩ rfl rfl (Nat.le_of_ble_eq_true rfl) (fun u4 g => ?_)
        obtain ⟨k4, s4⟩ := g
        rw [c3] at s4
        refine g_goto eX3_follow_77 ?_
        refine g_vret rfl eX3_follow_142 ⟨rfl, ?_⟩
        try dsimp only
        exact ⟨((mFr_k k1).trans (mFr_p f3)).trans (mFr_k k4), ms_k hm3 k4 s4⟩
    · have e2 : o = 2 := (nI_eq (b := 2) (by omega) (by omega)).mp hb
      rw [if_pos e2]
      refine g_ald0 eX3_follow_27 ?_
      refine g_ald4 eX3_follow_28 ?_
      refine g_ald3 eX3_follow_30 ?_
      refine g_getR (ci := 9) (j := 2) (by first | rfl | exact kd_key hi | exact kd_sh hi | exact kd_ya hi | exact kd_pr hq | exact kd_pk hq | exact kd_pf hq | exact kd_ps hq | exact kd_po hq | exact kd_pr hq2 | exact kd_pk hq2 | exact kd_pf hq2 | exact kd_ps hq2 | exact kd_po hq2) (by first | decide | (unfold N0; omega)) (Nat.le_of_ble_eq_true rfl) (Nat.le_of_ble_eq_true rfl) rfl (by first | rfl | exact r_key4 hi | exact r_sh0 hi | exact r_p0 hq | exact r_p1 hq | exact r_p2 hq | exact r_p3 hq | exact r_p0 hq2 | exact r_p1 hq2 | exact r_p2 hq2 | exact r_p3 hq2) fl_X3_53 eX3_follow_31 ?_
      refine g_ild2 eX3_follow_34 ?_
      refine g_lald (by first | rfl | exact kd_key hi | exact kd_sh hi | exact kd_ya hi | exact kd_pr hq | exact kd_pk hq | exact kd_pf hq | exact kd_ps hq | exact kd_po hq | exact kd_pr hq2 | exact kd_pk hq2 | exact kd_pf hq2 | exact kd_ps hq2 | exact kd_po hq2) (by first | decide | (unfold N0; omega)) hin eX3_follow_35 ?_
      rw [hcl, v3]
      refine g_callVi (ci := 4) (m_standsFor st hm.1 hm.2.2.2.2 (V a) v5) (by first | rfl | exact kd_key hi | exact kd_sh hi | exact kd_ya hi | exact kd_pr hq | exact kd_pk hq | exact kd_pf hq | exact kd_ps hq | exact kd_po hq | exact kd_pr hq2 | exact kd_pk hq2 | exact kd_pf hq2 | exact kd_ps hq2 | exact kd_po hq2) (by first | decide | (unfold N0; omega)) (Nat.le_of_ble_eq_true rfl) rfl cv_X3_93 eX3_follow_36 ⟨Nat.le_of_ble_eq_true rfl, Nat.le_of_ble_eq_true rfl⟩ rfl rfl (Nat.le_of_ble_eq_true rfl) (fun r st h => ?_)
      obtain ⟨rfl, h⟩ := h
      have h : r.toInt = stF (V a) m.1 := h
      refine g_callVv (ci := 3) (m_push st hm.2.2.1 (by omega) r) (by first | rfl | exact kd_key hi | exact kd_sh hi | exact kd_ya hi | exact kd_pr hq | exact kd_pk hq | exact kd_pf hq | exact kd_ps hq | exact kd_po hq | exact kd_pr hq2 | exact kd_pk hq2 | exact kd_pf hq2 | exact kd_ps hq2 | exact kd_po hq2) (by first | decide | (unfold N0; omega)) (Nat.le_of_ble_eq_true rfl) rfl cv_X3_90 eX3_follow_39 ⟨Nat.le_of_ble_eq_true rfl, Nat.le_of_ble_eq_true rfl⟩ rfl rfl (Nat.le_of_ble_eq_true rfl) (fun u4 g => ?_)
      obtain ⟨k4, s4⟩ := g
      rw [h] at s4
      refine g_goto eX3_follow_42 ?_
      refine g_vret rfl eX3_follow_142 ⟨rfl, ?_⟩
      try dsimp only
      exact ⟨mFr_k k4, ms_k hm k4 s4⟩
  · have e3 : o = 3 := (nI_eq (b := 3) (by omega) (by omega)).mp hb
    rw [if_pos e3]
    refine g_ald0 eX3_follow_5 ?_
    refine g_ald0 eX3_follow_6 ?_
    refine g_ald3 eX3_follow_7 ?_
    refine g_getR (ci := 9) (j := 2) (by first | rfl | exact kd_key hi | exact kd_sh hi | exact kd_ya hi | exact kd_pr hq | exact kd_pk hq | exact kd_pf hq | exact kd_ps hq | exact kd_po hq | exact kd_pr hq2 | exact kd_pk hq2 | exact kd_pf hq2 | exact kd_ps hq2 | exact kd_po hq2) (by first | decide | (unfold N0; omega)) (Nat.le_of_ble_eq_true rfl) (Nat.le_of_ble_eq_true rfl) rfl (by first | rfl | exact r_key4 hi | exact r_sh0 hi | exact r_p0 hq | exact r_p1 hq | exact r_p2 hq | exact r_p3 hq | exact r_p0 hq2 | exact r_p1 hq2 | exact r_p2 hq2 | exact r_p3 hq2) fl_X3_53 eX3_follow_8 ?_
    refine g_ild2 eX3_follow_11 ?_
    refine g_lald (by first | rfl | exact kd_key hi | exact kd_sh hi | exact kd_ya hi | exact kd_pr hq | exact kd_pk hq | exact kd_pf hq | exact kd_ps hq | exact kd_po hq | exact kd_pr hq2 | exact kd_pk hq2 | exact kd_pf hq2 | exact kd_ps hq2 | exact kd_po hq2) (by first | decide | (unfold N0; omega)) hin eX3_follow_12 ?_
    rw [hcl, v3]
    refine g_callVi (ci := 3) (m_openOf st hm.2.1.1 h2 h13 _) (by first | rfl | exact kd_key hi | exact kd_sh hi | exact kd_ya hi | exact kd_pr hq | exact kd_pk hq | exact kd_pf hq | exact kd_ps hq | exact kd_po hq | exact kd_pr hq2 | exact kd_pk hq2 | exact kd_pf hq2 | exact kd_ps hq2 | exact kd_po hq2) (by first | decide | (unfold N0; omega)) (Nat.le_of_ble_eq_true rfl) rfl cv_X3_86 eX3_follow_13 ⟨Nat.le_of_ble_eq_true rfl, Nat.le_of_ble_eq_true rfl⟩ rfl rfl (Nat.le_of_ble_eq_true rfl) (fun r st h => ?_)
    obtain ⟨rfl, h⟩ := h
    rw [pk_lT (by omega)] at h
    refine g_callVv (ci := 3) (m_push st hm.2.2.1 (by omega) r) (by first | rfl | exact kd_key hi | exact kd_sh hi | exact kd_ya hi | exact kd_pr hq | exact kd_pk hq | exact kd_pf hq | exact kd_ps hq | exact kd_po hq | exact kd_pr hq2 | exact kd_pk hq2 | exact kd_pf hq2 | exact kd_ps hq2 | exact kd_po hq2) (by first | decide | (unfold N0; omega)) (Nat.le_of_ble_eq_true rfl) rfl cv_X3_90 eX3_follow_16 ⟨Nat.le_of_ble_eq_true rfl, Nat.le_of_ble_eq_true rfl⟩ rfl rfl (Nat.le_of_ble_eq_true rfl) (fun u4 g => ?_)
    obtain ⟨k4, s4⟩ := g
    rw [h] at s4
    refine g_goto eX3_follow_19 ?_
    refine g_vret rfl eX3_follow_142 ⟨rfl, ?_⟩
    try dsimp only
    exact ⟨mFr_k k4, ms_k hm k4 s4⟩
end MAKE
