/-! what the maker makes: works whose codes stand for something -/
def ck (t ins n : Nat) (c : Int) : Prop := (-(t : Int) ≤ c ∧ c < 0) ∨ cOK (n : Int) (ins : Int) c
def wOK (t ins : Nat) (w : List WK) : Prop := ∀ j, j < w.length → wkOK (t : Int) (ins : Int) j ((w.getD j (0, 0, 0)).1 : Int) (w.getD j (0, 0, 0)).2.1 (w.getD j (0, 0, 0)).2.2
def gq (t ins : Nat) (w : List WK) (X : List WK × Int) : Prop := w.length ≤ X.1.length ∧ wOK t ins X.1 ∧ ck t ins X.1.length X.2
section CODES
variable {t ins : Nat}
theorem ck_mono {n n2 : Nat} {c : Int} (h : ck t ins n c) (hl : n ≤ n2) : ck t ins n2 c := by
  rcases h with q | q | q
  · exact Or.inl q
  · exact Or.inr (Or.inl ⟨q.1, by omega⟩)
  · exact Or.inr (Or.inr q)
theorem ck_pos {n : Nat} {c : Int} (h : ck t ins n c) (h0 : ¬ c < 0) : cOK (n : Int) (ins : Int) c := h.elim (fun q => absurd q.2 h0) id
theorem ck_neg {n : Nat} {c : Int} (h : ck t ins n c) (h0 : c < 0) : -(t : Int) ≤ c := by
  rcases h with q | q | q
  · exact q.1
  · omega
  · omega
theorem gq_self {w : List WK} (hw : wOK t ins w) {c : Int} (h : ck t ins w.length c) : gq t ins w (w, c) := ⟨Nat.le_refl _, hw, h⟩
theorem gq_trans {w : List WK} {X Y : List WK × Int} (h : gq t ins w X) (h2 : gq t ins X.1 Y) : gq t ins w Y := ⟨Nat.le_trans h.1 h2.1, h2.2⟩
theorem ck_open (h2 : 2 ≤ t) (n : Nat) (z : Int) : ck t ins n (-1 - z % (t : Int)) := by
  have := em_rng z h2
  generalize z % (t : Int) = y at this
  exact Or.inl ⟨by omega, by omega⟩
theorem adP_gq {w : List WK} (hw : wOK t ins w) {k : Nat} {a b : Int} (h : wkOK (t : Int) (ins : Int) w.length (k : Int) a b) : gq t ins w (adP w k a b) := by
  have e : (adP w k a b).1 = w ++ [(k, a, b)] := rfl
  have e2 : (adP w k a b).2 = (w.length : Int) := rfl
  have el : (adP w k a b).1.length = w.length + 1 := by rw [e]; simp
  refine ⟨by omega, fun j hj => ?_, by rw [e2, el]; exact Or.inr (Or.inl ⟨by omega, by omega⟩)⟩
  rw [el] at hj
  rw [e, getD_app]
  by_cases c : j < w.length
  · rw [if_pos c]; exact hw j c
  · have ej : j = w.length := by omega
    rw [if_neg c, if_pos ej, ej]
    exact h
theorem oaP_gq (h2 : 2 ≤ t) {w : List WK} (hw : wOK t ins w) {a k : Int} (ha : ck t ins w.length a) (hk : 0 ≤ k ∧ k < t) : gq t ins w (oaP t w a k) := by
  unfold oaP
  by_cases c : a < 0
  · rw [if_pos c]; exact gq_self hw (ck_open h2 _ _)
  rw [if_neg c]
  by_cases c2 : k = 0
  · rw [if_pos c2]; exact gq_self hw ha
  · rw [if_neg c2]
    exact adP_gq hw ⟨by decide, by decide, ck_pos ha c, fun z => absurd z (by decide), fun _ => hk, fun z => absurd z (by decide)⟩
theorem plP_gq (h2 : 2 ≤ t) {w : List WK} (hw : wOK t ins w) {a b : Int} (ha : ck t ins w.length a) (hb : ck t ins w.length b) : gq t ins w (plP t w a b) := by
  unfold plP
  by_cases c : a < 0
  · rw [if_pos c]; have := ck_neg ha c; exact oaP_gq h2 hw hb ⟨by omega, by omega⟩
  rw [if_neg c]
  by_cases c2 : b < 0
  · rw [if_pos c2]; have := ck_neg hb c2; exact oaP_gq h2 hw ha ⟨by omega, by omega⟩
  · rw [if_neg c2]
    exact adP_gq hw ⟨by decide, by decide, ck_pos ha c, fun _ => ck_pos hb c2, fun z => absurd z (by decide), fun z => absurd z (by decide)⟩
theorem miP_gq (h2 : 2 ≤ t) {w : List WK} (hw : wOK t ins w) {a b : Int} (ha : ck t ins w.length a) (hb : ck t ins w.length b) : gq t ins w (miP t w a b) := by
  unfold miP
  by_cases c : b < 0
  · rw [if_pos c]; exact oaP_gq h2 hw ha (em_rng _ h2)
  rw [if_neg c]
  by_cases c2 : a < 0
  · rw [if_pos c2]
    have h := adP_gq hw (k := 5) (a := b) (b := -1) ⟨by decide, by decide, ck_pos hb c, fun z => absurd z (by decide), fun z => absurd z (by decide), fun _ => ⟨by omega, by omega⟩⟩
    have := ck_neg ha c2
    exact gq_trans h (oaP_gq h2 h.2.1 h.2.2 ⟨by omega, by omega⟩)
  · rw [if_neg c2]
    exact adP_gq hw ⟨by decide, by decide, ck_pos ha c2, fun _ => ck_pos hb c, fun z => absurd z (by decide), fun z => absurd z (by decide)⟩
theorem omP_gq (h2 : 2 ≤ t) {w : List WK} (hw : wOK t ins w) {a k : Int} (ha : ck t ins w.length a) (hk : 0 ≤ k ∧ k < t) : gq t ins w (omP t w a k) := by
  unfold omP
  by_cases c : a < 0
  · rw [if_pos c]; exact gq_self hw (ck_open h2 _ _)
  rw [if_neg c]
  by_cases c2 : k < 2
  · rw [if_pos c2]
    refine gq_self hw ?_
    split
    · exact Or.inl ⟨by omega, by omega⟩
    · exact ha
  · rw [if_neg c2]
    refine adP_gq hw ⟨by decide, by decide, ck_pos ha c, fun z => absurd z (by decide), fun z => absurd z (by decide), fun _ => ?_⟩
    split <;> exact ⟨by omega, by omega⟩
theorem muP_gq (h2 : 2 ≤ t) {w : List WK} (hw : wOK t ins w) {a b : Int} (ha : ck t ins w.length a) (hb : ck t ins w.length b) : gq t ins w (muP t w a b) := by
  unfold muP
  by_cases c : a < 0
  · rw [if_pos c]; have := ck_neg ha c; exact omP_gq h2 hw hb ⟨by omega, by omega⟩
  rw [if_neg c]
  by_cases c2 : b < 0
  · rw [if_pos c2]; have := ck_neg hb c2; exact omP_gq h2 hw ha ⟨by omega, by omega⟩
  · rw [if_neg c2]
    exact adP_gq hw ⟨by decide, by decide, ck_pos ha c, fun _ => ck_pos hb c2, fun z => absurd z (by decide), fun z => absurd z (by decide)⟩
theorem chP_gq (h2 : 2 ≤ t) {w : List WK} (hw : wOK t ins w) {c a b : Int} (hc : ck t ins w.length c) (ha : ck t ins w.length a) (hb : ck t ins w.length b) : gq t ins w (chP t w c a b) := by
  have h1 := miP_gq h2 hw ha hb
  have h3 := muP_gq h2 h1.2.1 (ck_mono hc h1.1) h1.2.2
  exact gq_trans (gq_trans h1 h3) (plP_gq h2 h3.2.1 h3.2.2 (ck_mono hb (Nat.le_trans h1.1 h3.1)))
theorem asL_gq (h2 : 2 ≤ t) {V : Nat → Nat} {cnt : Nat} {tbl x : Int} : ∀ (m : Nat) {w : List WK} {h : Int}, wOK t ins w → ck t ins w.length x → ck t ins w.length h → gq t ins w (asL t V cnt tbl x m w h)
  | 0, w, h, hw, _, hh => gq_self hw hh
  | m + 1, w, h, hw, hx, hh => by
    rw [asL]
    have h1 := muP_gq h2 hw hh hx
    have h3 := plP_gq (b := -1 - coP t V cnt tbl m % (t : Int)) h2 h1.2.1 h1.2.2 (ck_open h2 _ _)
    have h4 := gq_trans h1 h3
    exact gq_trans h4 (asL_gq h2 m h4.2.1 (ck_mono hx h4.1) h4.2.2)
theorem asP_gq (h2 : 2 ≤ t) {V : Nat → Nat} {cnt : Nat} {tbl x : Int} {w : List WK} (hw : wOK t ins w) (hx : ck t ins w.length x) : gq t ins w (asP t V cnt w tbl x) := asL_gq h2 _ hw hx (ck_open h2 _ _)
def ckS (t ins n : Nat) (S : List Int) : Prop := ∀ c ∈ S, ck t ins n c
theorem ckS_mono {n n2 : Nat} {S : List Int} (h : ckS t ins n S) (hl : n ≤ n2) : ckS t ins n2 S := fun c hc => ck_mono (h c hc) hl
theorem ckS_cons {n : Nat} {S : List Int} {c : Int} (h : ck t ins n c) (hS : ckS t ins n S) : ckS t ins n (c :: S) := fun x hx => by
  rcases List.mem_cons.mp hx with q | q
  · rw [q]; exact h
  · exact hS x q
theorem ckS_po (h2 : 2 ≤ t) {n : Nat} {S : List Int} (h : ckS t ins n S) : ck t ins n (poP S).1 ∧ ckS t ins n (poP S).2 := by
  cases S with
  | nil => exact ⟨Or.inl ⟨by show -(t : Int) ≤ -1; omega, by show (-1 : Int) < 0; decide⟩, fun c hc => absurd hc List.not_mem_nil⟩
  | cons c S => exact ⟨h c List.mem_cons_self, fun x hx => h x (List.mem_cons_of_mem _ hx)⟩
def mOKq (t ins : Nat) (m m2 : MS) : Prop := m.2.1.length ≤ m2.2.1.length ∧ wOK t ins m2.2.1 ∧ ckS t ins m2.2.1.length m2.2.2.1
theorem folP_gq (h2 : 2 ≤ t) {V : Nat → Nat} {cnt o a : Nat} {m : MS} (hw : wOK t ins m.2.1) (hS : ckS t ins m.2.1.length m.2.2.1) (hx : o = 2 → ck t ins m.2.1.length (stF (V a) m.1)) : mOKq t ins m (folP t V cnt o a m) := by
  have p1 := ckS_po h2 hS
  have p2 := ckS_po h2 p1.2
  have p3 := ckS_po h2 p2.2
  unfold folP
  by_cases k3 : o = 3
  · rw [if_pos k3]
    exact ⟨Nat.le_refl _, hw, ckS_cons (ck_open h2 _ _) hS⟩
  by_cases k2 : o = 2
  · rw [if_neg k3, if_pos k2]
    exact ⟨Nat.le_refl _, hw, ckS_cons (hx k2) hS⟩
  by_cases k9 : o = 9
  · rw [if_neg k3, if_neg k2, if_pos k9]
    have h := asP_gq h2 (V := V) (cnt := cnt) (tbl := stF (V a) m.1) hw p1.1
    exact ⟨h.1, h.2.1, ckS_cons h.2.2 (ckS_mono p1.2 h.1)⟩
  by_cases k8 : o = 8
  · rw [if_neg k3, if_neg k2, if_neg k9, if_pos k8]
    have h := chP_gq h2 hw p3.1 p2.1 p1.1
    exact ⟨h.1, h.2.1, ckS_cons h.2.2 (ckS_mono p3.2 h.1)⟩
  · rw [if_neg k3, if_neg k2, if_neg k9, if_neg k8]
    have h : gq t ins m.2.1 (jnP t o m.2.1 (poP (poP m.2.2.1).2).1 (poP m.2.2.1).1) := by
      unfold jnP
      split
      · exact plP_gq h2 hw p2.1 p1.1
      · split
        · exact miP_gq h2 hw p2.1 p1.1
        · exact muP_gq h2 hw p2.1 p1.1
    exact ⟨h.1, h.2.1, ckS_cons h.2.2 (ckS_mono p2.2 h.1)⟩
theorem foF_gq (h2 : 2 ≤ t) {V : Nat → Nat} {cnt : Nat} : ∀ (os : List (Nat × Nat)) {m : MS}, wOK t ins m.2.1 → ckS t ins m.2.1.length m.2.2.1 → (∀ x ∈ os, x.1 = 2 → ck t ins m.2.1.length (stF (V x.2) m.1)) → mOKq t ins m (foF t V cnt os m)
  | [], m, hw, hS, _ => ⟨Nat.le_refl _, hw, hS⟩
  | x :: r, m, hw, hS, hx => by
    have h := folP_gq (cnt := cnt) h2 hw hS (hx x List.mem_cons_self)
    have h3 := foF_gq (cnt := cnt) h2 r h.2.1 h.2.2 (fun y hy q => by rw [(folP_same t V cnt x.1 x.2 m).1]; exact ck_mono (hx y (List.mem_cons_of_mem _ hy) q) h.1)
    exact ⟨Nat.le_trans h.1 h3.1, h3.2⟩
end CODES
section MKOK
variable {K V W : Nat → Nat} {tbs : List Nat} {E : List NE} {Nt : List MN} {bs cnt ins : Nat}
theorem ly_st (hv : vwOK K V W) (ha : al K V tbs E Nt) (h6 : ∀ y ∈ Nt, y.2.1 = 0 → y.2.2 < ins) {E2 : List NE} {LV : List Int} (hJ : uJ E Nt E2 LV) {x : Nat × Nat} (k2 : x.1 = 2) (hk : K x.2 = 2) (hu : uX W Nt LV.length x) : (∃ i, i < ins ∧ stF (V x.2) E2 = 40 + (i : Int)) ∨ ∃ q, q < LV.length ∧ stF (V x.2) E2 = LV.getD q 0 := by
  obtain ⟨u1, u2⟩ := hu k2
  have e := al_lk hv ha hk qV
  have hc : fnd (V x.2) E < E.length ∧ qV (Nt.getD (fnd (V x.2) E) (0, 0, 0)).2.1 = true := Decidable.byContradiction (fun q => by
    rw [if_neg q] at e
    omega)
  rw [if_pos hc] at e
  rw [e] at u1 u2
  have st := uJ_stF hJ hc.1
  have hq : (Nt.getD (fnd (V x.2) E) (0, 0, 0)).2.1 < 2 := of_decide_eq_true hc.2
  have hE := ha.2.1 _ hc.1
  have hm := mem_getD (Nt := Nt) u1
  by_cases s0 : (Nt.getD (fnd (V x.2) E) (0, 0, 0)).2.1 = 0
  · refine Or.inl ⟨_, h6 _ hm s0, ?_⟩
    rw [st, hJ.2.2.1 _ hc.1 (by omega)]
    rcases hE.2.2 with ⟨q, z⟩ | ⟨q, z⟩ | ⟨q, z, -⟩
    · rw [z]
    · omega
    · omega
  · have s1 : (Nt.getD (fnd (V x.2) E) (0, 0, 0)).2.1 = 1 := by omega
    refine Or.inr ⟨_, u2 s1, ?_⟩
    rw [st]
    exact hJ.2.2.2 _ hc.1 s1 (u2 s1)
theorem mk_ok (h2 : 2 ≤ bs) (hv : vwOK K V W) (ha : al K V tbs E Nt) (h6 : ∀ y ∈ Nt, y.2.1 = 0 → y.2.2 < ins) (hone : ∀ y ∈ Nt, ∀ z ∈ Nt, y.2.1 = 1 → z.2.1 = 1 → y.2.2 = z.2.2 → y.1 = z.1) : ∀ (gs : List GP) (m : MS) (LV : List Int) (m2 : MS), (∀ y ∈ lts gs LV.length, y ∈ Nt) → (∀ g ∈ gs, ∀ x ∈ g.1, x.1 = 2 ∨ x.1 = 9 → K x.2 = 2) → uG W Nt gs LV.length → uJ E Nt m.1 LV → wOK bs ins m.2.1 → ckS bs ins m.2.1.length m.2.2.1 → ckS bs ins m.2.1.length LV → ckS bs ins m.2.1.length m.2.2.2 → mkG bs V cnt gs m = .inr m2 → m.2.1.length ≤ m2.2.1.length ∧ wOK bs ins m2.2.1 ∧ ckS bs ins m2.2.1.length m2.2.2.2
  | [], m, LV, m2, _, _, _, _, hw, _, _, ho, hm => by
    cases hm
    exact ⟨Nat.le_refl _, hw, ho⟩
  | g :: r, m, LV, m2, hl, hg, hu, hJ, hw, hS, hL, ho, hm => by
    have fo := foF_one bs V cnt g.1 m
    have hx : ∀ x ∈ g.1, x.1 = 2 → ck bs ins m.2.1.length (stF (V x.2) m.1) := fun x hx k2 => by
      rcases ly_st hv ha h6 hJ k2 (hg g List.mem_cons_self x hx (Or.inl k2)) (hu.1 x hx) with ⟨i, hi, e⟩ | ⟨q, hq, e⟩
      · rw [e]; exact Or.inr (Or.inr ⟨by omega, by omega⟩)
      · rw [e]
        refine hL _ ?_
        rw [List.getD_eq_getElem?_getD, List.getElem?_eq_getElem hq]
        exact List.getElem_mem hq
    have hf := foF_gq (cnt := cnt) h2 g.1 hw hS hx
    have ew := endP_w V g.2.1 g.2.2 (foF bs V cnt g.1 m)
    have hw2 : (enG bs V cnt g m).2.1 = (foF bs V cnt g.1 m).2.1 := ew.1
    have hp := ckS_po h2 hf.2.2
    have hs2 : ckS bs ins (enG bs V cnt g m).2.1.length (enG bs V cnt g m).2.2.1 := by
      rw [hw2]
      show ckS bs ins _ (endP V g.2.1 g.2.2 (foF bs V cnt g.1 m)).2.2.1
      rw [ew.2]
      exact hp.2
    rw [mkG] at hm
    split at hm
    · cases hm
    have hl2 := hl
    have hu2 := hu.2
    rw [lts] at hl2
    have em : (enG bs V cnt g m).1 = if g.2.1 = 6 then letS (V (g.2.2 + 1)) (topG bs V cnt g m) m.1 else m.1 := by
      unfold enG endP topG
      rw [← fo.1]
      split <;> rfl
    have hout : ckS bs ins (enG bs V cnt g m).2.1.length (enG bs V cnt g m).2.2.2 := by
      rw [hw2]
      unfold enG endP
      split
      · show ckS bs ins _ (foF bs V cnt g.1 m).2.2.2
        rw [fo.2]
        exact ckS_mono ho hf.1
      · show ckS bs ins _ (if (foF bs V cnt g.1 m).2.2.2.length < 4 then _ else _)
        split
        · intro c hc
          rcases List.mem_append.mp hc with q | q
          · rw [fo.2] at q
            exact ck_mono (ho c q) hf.1
          · rw [List.mem_singleton.mp q]
            exact hp.1
        · rw [fo.2]
          exact ckS_mono ho hf.1
    have hLm : ckS bs ins (enG bs V cnt g m).2.1.length LV := by rw [hw2]; exact ckS_mono hL hf.1
    have hgr : ∀ y ∈ r, ∀ x ∈ y.1, x.1 = 2 ∨ x.1 = 9 → K x.2 = 2 := fun y hy => hg y (List.mem_cons_of_mem _ hy)
    by_cases c : g.2.1 = 6
    · rw [if_pos c] at hl2 hu2 em
      have el : (LV ++ [topG bs V cnt g m]).length = LV.length + 1 := by rw [List.length_append, List.length_singleton]
      have ih := mk_ok h2 hv ha h6 hone r (enG bs V cnt g m) (LV ++ [topG bs V cnt g m]) m2 (fun y hy => hl2 y (by rw [el] at hy; exact List.mem_cons_of_mem _ hy)) hgr (by rw [el]; exact hu2) (by rw [em]; exact uJ_let ha hone hJ (hl2 _ List.mem_cons_self) _) (by rw [hw2]; exact hf.2.1) hs2 (fun z hz => by
        rcases List.mem_append.mp hz with q | q
        · exact hLm z q
        · rw [List.mem_singleton.mp q, hw2]
          exact hp.1) hout hm
      exact ⟨Nat.le_trans (by rw [hw2]; exact hf.1) ih.1, ih.2⟩
    · rw [if_neg c] at hl2 hu2 em
      have ih := mk_ok h2 hv ha h6 hone r (enG bs V cnt g m) LV m2 hl2 hgr hu2 (by rw [em]; exact hJ) (by rw [hw2]; exact hf.2.1) hs2 hLm hout hm
      exact ⟨Nat.le_trans (by rw [hw2]; exact hf.1) ih.1, ih.2⟩
end MKOK
/-- behind the grammar: the works made, and the outs -/
theorem mk_gram {K P V W : Nat → Nat} {bs : Nat} (hb : 2 ≤ bs) {s : GS} (h : gramF K = .inr s) (hv : vwOK K V W) {gs : List GP} (h1 : s.2.1 = flG gs) (h2 : ∀ g ∈ gs, (g.2.1 = 6 ∨ g.2.1 = 7) ∧ ∀ x ∈ g.1, x.1 ≠ 6 ∧ x.1 ≠ 7) (ho : oe s) {E : List NE} (ha : al K V (pmF K P W bs s.2.2).2.2.2.1 E (pmF K P W bs s.2.2).1) (hw : (pmF K P W bs s.2.2).2.2.2.2.1 = 0) {m : MS} (hm : mkG bs V s.1 gs (E, [], [], []) = .inr m) : wOK bs (pmF K P W bs s.2.2).2.1 m.2.1 ∧ ckS bs (pmF K P W bs s.2.2).2.1 m.2.1.length m.2.2.2 := by
  obtain ⟨hs, u1, u2, u3⟩ := uS_gram (K := K) (P := P) (W := W) (bs := bs) h
  have ne : ∀ x : Nat × Nat, x.1 ∈ [2, 3, 8, 9, 42, 43, 45] → x.1 ≠ 6 ∧ x.1 ≠ 7 := fun x hx => by
    have : x.1 = 2 ∨ x.1 = 3 ∨ x.1 = 8 ∨ x.1 = 9 ∨ x.1 = 42 ∨ x.1 = 43 ∨ x.1 = 45 := by simpa using hx
    omega
  have e : gs = hs := flG_inj gs hs h2 (fun g hg => ⟨(u2 g hg).1, fun x hx => ne x ((u2 g hg).2 x hx)⟩) (by rw [← h1, ← u1])
  rw [← e] at u2 u3
  obtain ⟨v1, v2, v3, v4⟩ := u3
  have hK2 : ∀ e ∈ s.2.2, K e.2 = 2 := by
    have aux : ∀ (es : List (Nat × Nat)) (z x : Nat), evw K s.1 es z x → ∀ e ∈ es, K e.2 = 2 := by
      intro es
      induction es with
      | nil => intro z x _ e he; exact absurd he List.not_mem_nil
      | cons a r ih =>
        intro z x q e he
        obtain ⟨q1, q2, q3⟩ := q
        rcases List.mem_cons.mp he with p | p
        · rw [p]; exact q1
        · by_cases k2 : a.1 = 2
          · rw [if_pos k2] at q3; exact ih _ _ q3.2.2 e p
          by_cases k3 : a.1 = 3
          · rw [if_neg k2, if_pos k3] at q3; exact ih _ _ q3.2.2 e p
          by_cases k4 : a.1 = 4 ∨ a.1 = 5
          · rw [if_neg k2, if_neg k3, if_pos k4] at q3; exact ih _ _ q3.2 e p
          · rw [if_neg k2, if_neg k3, if_neg k4] at q3; exact ih _ _ q3.2.2.2 e p
    exact aux _ _ _ (evw_gram h)
  refine (mk_ok hb hv ha v3 (fun y hy z hz ky kz q => lts_one gs 0 y z ((v2 y ky).mp hy) ((v2 z kz).mp hz) q) gs (E, [], [], []) [] m (fun y hy => (v2 y (lts_in gs 0 y hy).2.2).mpr hy) (fun g hg x hx q => ?_) (v4 hw) ⟨rfl, fun _ => rfl, fun _ _ _ => rfl, fun _ _ _ q => absurd q (Nat.not_lt_zero _)⟩ (fun j hj => absurd hj (Nat.not_lt_zero _)) (fun c hc => absurd hc List.not_mem_nil) (fun c hc => absurd hc List.not_mem_nil) (fun c hc => absurd hc List.not_mem_nil) hm).2
  have hmm : x ∈ s.2.1 := by
    rw [h1]
    exact List.mem_flatMap.mpr ⟨g, hg, List.mem_append_left _ hx⟩
  rcases q with q | q
  · exact hK2 (5, x.2) ((ho x hmm).1 q)
  · exact hK2 (4, x.2) ((ho x hmm).2 q)
