/-! MAKER: what it makes (pure); the class' works -/
abbrev WK : Type := Nat × Int × Int
def adP (w : List WK) (k : Nat) (a b : Int) : List WK × Int := (w ++ [(k, a, b)], (w.length : Int))
def oaP (t : Nat) (w : List WK) (a k : Int) : List WK × Int := if a < 0 then (w, -1 - ((-1 - a) + k) % (t : Int)) else if k = 0 then (w, a) else adP w 4 a k
def plP (t : Nat) (w : List WK) (a b : Int) : List WK × Int := if a < 0 then oaP t w b (-1 - a) else if b < 0 then oaP t w a (-1 - b) else adP w 1 a b
def miP (t : Nat) (w : List WK) (a b : Int) : List WK × Int := if b < 0 then oaP t w a ((-(-1 - b)) % (t : Int)) else if a < 0 then oaP t (adP w 5 b (-1)).1 (adP w 5 b (-1)).2 (-1 - a) else adP w 2 a b
def omP (t : Nat) (w : List WK) (a k : Int) : List WK × Int := if a < 0 then (w, -1 - ((-1 - a) * k) % (t : Int)) else if k < 2 then (w, if k = 0 then -1 else a) else adP w 5 a (if (t : Int) - k < k then k - t else k)
def muP (t : Nat) (w : List WK) (a b : Int) : List WK × Int := if a < 0 then omP t w b (-1 - a) else if b < 0 then omP t w a (-1 - b) else adP w 3 a b
def chP (t : Nat) (w : List WK) (c a b : Int) : List WK × Int := plP t (muP t (miP t w a b).1 c (miP t w a b).2).1 (muP t (miP t w a b).1 c (miP t w a b).2).2 b
/-- a code that may be: an open number below t, a slot, a work -/
abbrev okc (t : Nat) (c : Int) : Prop := -(t : Int) ≤ c ∧ c < 100000
theorem em_rng (x : Int) {t : Nat} (h : 2 ≤ t) : 0 ≤ x % (t : Int) ∧ x % (t : Int) < t := ⟨Int.emod_nonneg _ (by omega), Int.emod_lt_of_pos _ (by omega)⟩
theorem adP_ok {w : List WK} {k : Nat} {a b : Int} {t : Nat} (hl : w.length < 90000) : okc t (adP w k a b).2 ∧ (adP w k a b).1.length = w.length + 1 := by
  unfold adP
  refine ⟨⟨?_, ?_⟩, by simp⟩ <;> dsimp only <;> omega
theorem oaP_ok {t : Nat} (ht : 2 ≤ t) {w : List WK} {a k : Int} (ha : okc t a) (hl : w.length < 90000) : okc t (oaP t w a k).2 ∧ (oaP t w a k).1.length ≤ w.length + 1 := by
  unfold oaP
  have h := em_rng ((-1 - a) + k) ht
  split
  · dsimp only; exact ⟨⟨by omega, by omega⟩, by omega⟩
  · split
    · exact ⟨ha, by dsimp only; omega⟩
    · have := adP_ok (w := w) (k := 4) (a := a) (b := k) (t := t) hl
      exact ⟨this.1, by omega⟩
theorem plP_ok {t : Nat} (ht : 2 ≤ t) {w : List WK} {a b : Int} (ha : okc t a) (hb : okc t b) (hl : w.length < 90000) : okc t (plP t w a b).2 ∧ (plP t w a b).1.length ≤ w.length + 1 := by
  unfold plP
  split
  · exact oaP_ok ht hb hl
  · split
    · exact oaP_ok ht ha hl
    · have := adP_ok (w := w) (k := 1) (a := a) (b := b) (t := t) hl
      exact ⟨this.1, by omega⟩
theorem miP_ok {t : Nat} (ht : 2 ≤ t) {w : List WK} {a b : Int} (ha : okc t a) (hl : w.length < 89999) : okc t (miP t w a b).2 ∧ (miP t w a b).1.length ≤ w.length + 2 := by
  unfold miP
  split
  · have := oaP_ok ht (w := w) (k := (-(-1 - b)) % (t : Int)) ha (by omega)
    exact ⟨this.1, by omega⟩
  · split
    · have h1 := adP_ok (w := w) (k := 5) (a := b) (b := -1) (t := t) (by omega)
      have := oaP_ok ht (w := (adP w 5 b (-1)).1) (k := -1 - a) h1.1 (by omega)
      exact ⟨this.1, by omega⟩
    · have := adP_ok (w := w) (k := 2) (a := a) (b := b) (t := t) (by omega)
      exact ⟨this.1, by omega⟩
theorem omP_ok {t : Nat} (ht : 2 ≤ t) {w : List WK} {a k : Int} (ha : okc t a) (hl : w.length < 90000) : okc t (omP t w a k).2 ∧ (omP t w a k).1.length ≤ w.length + 1 := by
  unfold omP
  have h := em_rng ((-1 - a) * k) ht
  generalize ((-1 - a) * k) % (t : Int) = z at h
  split
  · dsimp only; exact ⟨⟨by omega, by omega⟩, by omega⟩
  · split
    · dsimp only
      refine ⟨?_, by omega⟩
      split
      · exact ⟨by omega, by omega⟩
      · exact ha
    · have := adP_ok (w := w) (k := 5) (a := a) (b := if (t : Int) - k < k then k - t else k) (t := t) hl
      exact ⟨this.1, by omega⟩
theorem muP_ok {t : Nat} (ht : 2 ≤ t) {w : List WK} {a b : Int} (ha : okc t a) (hb : okc t b) (hl : w.length < 90000) : okc t (muP t w a b).2 ∧ (muP t w a b).1.length ≤ w.length + 1 := by
  unfold muP
  split
  · exact omP_ok ht hb hl
  · split
    · exact omP_ok ht ha hl
    · have := adP_ok (w := w) (k := 3) (a := a) (b := b) (t := t) hl
      exact ⟨this.1, by omega⟩
theorem chP_ok {t : Nat} (ht : 2 ≤ t) {w : List WK} {c a b : Int} (hc : okc t c) (ha : okc t a) (hb : okc t b) (hl : w.length < 89990) : okc t (chP t w c a b).2 ∧ (chP t w c a b).1.length ≤ w.length + 4 := by
  unfold chP
  have h1 := miP_ok ht (w := w) (b := b) ha (by omega)
  have h2 := muP_ok ht (w := (miP t w a b).1) hc h1.1 (by omega)
  have h3 := plP_ok ht (w := (muP t (miP t w a b).1 c (miP t w a b).2).1) h2.1 hb (by omega)
  exact ⟨h3.1, by omega⟩
/-! the class -/
def pgW (st : St) (q : Nat) (w : List WK) : Prop := st.1 (95 + 5 * q) 5 = nI w.length ∧ ∀ j, j < w.length → j < 40 → (st.1 (96 + 5 * q) j).toInt = ((w.getD j (0, 0, 0)).1 : Int) ∧ (st.1 (97 + 5 * q) j).toInt = (w.getD j (0, 0, 0)).2.1 ∧ (st.1 (98 + 5 * q) j).toInt = (w.getD j (0, 0, 0)).2.2
def pFr (q : Nat) (st u : St) : Prop := (∀ a, a ≠ 95 + 5 * q → a ≠ 96 + 5 * q → a ≠ 97 + 5 * q → a ≠ 98 + 5 * q → u.1 a = st.1 a) ∧ u.2 = st.2 ∧ u.1 (95 + 5 * q) 4 = st.1 (95 + 5 * q) 4 ∧ u.1 (95 + 5 * q) 6 = st.1 (95 + 5 * q) 6
theorem pFr.refl (q : Nat) (st : St) : pFr q st st := ⟨fun _ _ _ _ _ => rfl, rfl, rfl, rfl⟩
theorem pFr.trans {q : Nat} {a b c : St} (h1 : pFr q a b) (h2 : pFr q b c) : pFr q a c := ⟨fun k x y z v => (h2.1 k x y z v).trans (h1.1 k x y z v), h2.2.1.trans h1.2.1, h2.2.2.1.trans h1.2.2.1, h2.2.2.2.trans h1.2.2.2⟩
def mkPost (q : Nat) (st : St) (X : List WK × Int) (r : Int32) (u : St) : Prop := pFr q st u ∧ r.toInt = X.2 ∧ pgW u q X.1
/-- where the maker stands: t, and the works so far -/
def mrOK (t q : Nat) (st : St) (w : List WK) : Prop := st.1 14 0 = nI t ∧ 2 ≤ t ∧ t ≤ 13 ∧ pgW st q w
theorem mk_fr {t q : Nat} {st u : St} {w w2 : List WK} (h : mrOK t q st w) (hf : pFr q st u) (hw : pgW u q w2) : mrOK t q u w2 := ⟨by rw [hf.1 14 (by omega) (by omega) (by omega) (by omega)]; exact h.1, h.2.1, h.2.2.1, hw⟩
theorem opn {x : Int32} {t : Nat} (ht : t ≤ 13) (h : okc t x.toInt) : (-1 - x).toInt = -1 - x.toInt := by
  have e : (-1 : Int32).toInt = -1 := rfl
  rw [fb_subI (by rw [e]; omega) (by rw [e]; omega), e]
theorem M.mono {l : Launch} {D : va_G} {cy : Nat → ClassId} {d : Nat} {Y : MY} {as : List Value} {st : St} {p1 p2 : Option Value → St → Prop} (h : M l D cy d Y as st p1) (hp : ∀ v u, p1 v u → p2 v u) : M l D cy d Y as st p2 := by
  intro ad sz p e ha hc hk s m args below hf happ hP hK
  obtain ⟨n, o, h1, h2, h3, ⟨⟨v, u, hv, hpp, hrest⟩, hF⟩, hL⟩ := h ad sz p e ha hc hk s m args below hf happ hP hK
  exact ⟨n, o, h1, h2, h3, ⟨⟨v, u, hv, hp v u hpp, hrest⟩, hF⟩, hL⟩
theorem Mi.mono {l : Launch} {D : va_G} {cy : Nat → ClassId} {d : Nat} {Y : MY} {as : List Value} {st : St} {p1 p2 : Int32 → St → Prop} (h : Mi l D cy d Y as st p1) (hp : ∀ v u, p1 v u → p2 v u) : Mi l D cy d Y as st p2 := M.mono h (fun v u q => by
  obtain ⟨r, e, q⟩ := q
  exact ⟨r, e, hp r u q⟩)
section MAKC
variable {l : Launch} {D : va_G} {cy : Nat → ClassId} {t : Nat}
theorem m_adP (st : St) {q : Nat} (hq : q < 4) {w : List WK} (hw : pgW st q w) (hl : w.length < 90000) (k : Nat) (kI a b : Int32) (hk : kI.toInt = k) : Mi l D cy 0 YX7_addWork [.ref (95 + 5 * q), .int kI, .int a, .int b] st (mkPost q st (adP w k a.toInt b.toInt)) := by
  have key : mkPost q st (adP w k a.toInt b.toInt) (nI w.length) (adW st q w.length kI a b) := by
    unfold adW
    refine ⟨?_, nI_toInt (by omega), ?_, fun j hj hj4 => ?_⟩
    · split
      · refine ⟨fun c x y z v => ?_, rfl, ?_, ?_⟩
        · rw [sI_row x, sI_row v, sI_row z, sI_row y]
        · rw [sI_1, if_neg (by omega), sI_row (by omega), sI_row (by omega), sI_row (by omega)]
        · rw [sI_1, if_neg (by omega), sI_row (by omega), sI_row (by omega), sI_row (by omega)]
      · refine ⟨fun c x y z v => sI_row x, rfl, ?_, ?_⟩
        · rw [sI_1, if_neg (by omega)]
        · rw [sI_1, if_neg (by omega)]
    · unfold adP
      rw [List.length_append]
      split
      · rw [sI_1, if_pos ⟨rfl, rfl⟩]; rfl
      · rw [sI_1, if_pos ⟨rfl, rfl⟩]; rfl
    · unfold adP at hj ⊢
      rw [List.length_append, List.length_singleton] at hj
      dsimp only
      rw [getD_app]
      by_cases h4 : w.length < 40
      · rw [if_pos h4]
        rw [sI_row (a := 96 + 5 * q) (by omega), sI_row (a := 96 + 5 * q) (by omega), sI_row (a := 96 + 5 * q) (by omega), sI_at, sI_row (a := 97 + 5 * q) (by omega), sI_row (a := 97 + 5 * q) (by omega), sI_at, sI_row (a := 97 + 5 * q) (by omega), sI_row (a := 98 + 5 * q) (by omega), sI_at, sI_row (a := 98 + 5 * q) (by omega), sI_row (a := 98 + 5 * q) (by omega)]
        by_cases e : j = w.length
        · simp only [if_pos e, if_neg (show ¬ j < w.length by omega)]
          exact ⟨hk, by trivial, by trivial⟩
        · simp only [if_neg e, if_pos (show j < w.length by omega)]
          exact hw.2 j (by omega) hj4
      · rw [if_neg h4, if_pos (show j < w.length by omega)]
        rw [sI_row (a := 96 + 5 * q) (by omega), sI_row (a := 97 + 5 * q) (by omega), sI_row (a := 98 + 5 * q) (by omega)]
        exact hw.2 j (by omega) hj4
  refine Mi.mono (m_addWork st hq w.length hw.1 (by omega) kI a b) (fun r u h => ?_)
  obtain ⟨rfl, rfl⟩ := h
  exact key
theorem m_openOf (st : St) (ht : st.1 14 0 = nI t) (h2 : 2 ≤ t) (h13 : t ≤ 13) (x : Int64) : Mi l D cy 1 YX3_openOf [.ref 14, .long x] st (fun r u => u = st ∧ r.toInt = -1 - x.toInt % (t : Int)) := by
  have hti : (st.1 14 0).toInt = t := by rw [ht, nI_toInt (by omega)]
  refine M.ofG [some (.ref 14), some (.long x), none] (by decide) (Nat.le_of_ble_eq_true rfl) rfl ?_
  intro xp xe xs xm xa xb xme xc xad xA
  refine g_lld1 eX3_openOf_0 ?_
  refine g_ald0 eX3_openOf_1 ?_
  refine g_getI (ci := 3) (j := 0) rfl (Nat.le_of_ble_eq_true rfl) (Nat.le_of_ble_eq_true rfl) (Nat.le_of_ble_eq_true rfl) rfl fl_X3_24 eX3_openOf_2 ?_
  refine g_callSi (m_rest st x _ (by omega)) cs_X3_107 eX3_openOf_5 ⟨Nat.le_of_ble_eq_true rfl, Nat.le_of_ble_eq_true rfl⟩ rfl rfl (Nat.le_of_ble_eq_true rfl) (fun r st h => ?_)
  obtain ⟨rfl, h⟩ := h
  refine g_callSi (m_codeOfOpen st r) cs_X3_71 eX3_openOf_8 ⟨Nat.le_of_ble_eq_true rfl, Nat.le_of_ble_eq_true rfl⟩ rfl rfl (Nat.le_of_ble_eq_true rfl) (fun z st h9 => ?_)
  obtain ⟨rfl, rfl⟩ := h9
  refine g_iret rfl eX3_openOf_11 ⟨_, rfl, ?_⟩
  try dsimp only
  rw [hti] at h
  have hr := em_rng x.toInt h2
  have e : (-1 : Int32).toInt = -1 := rfl
  rw [fb_subI (by rw [e]; omega) (by rw [e]; omega), e, h]
  exact ⟨rfl, rfl⟩
theorem m_openAdded (st : St) {q : Nat} (hq : q < 4) {w : List WK} (hw : mrOK t q st w) (hl : w.length < 90000) (a k : Int32) (ha : okc t a.toInt) (hk : 0 ≤ k.toInt ∧ k.toInt < t) : Mi l D cy 2 YX3_openAdded [.ref 14, .int a, .int k, .ref (95 + 5 * q)] st (mkPost q st (oaP t w a.toInt k.toInt)) := by
  obtain ⟨h1, h2, h3, h4⟩ := hw
  refine M.ofG [some (.ref 14), some (.int a), some (.int k), some (.ref (95 + 5 * q))] (by decide) (Nat.le_of_ble_eq_true rfl) rfl ?_
  intro xp xe xs xm xa xb xme xc xad xA
  unfold oaP
  refine g_ild1 eX3_openAdded_0 ?_
  refine g_callSi (m_isOpen st a) cs_X3_123 eX3_openAdded_1 ⟨Nat.le_of_ble_eq_true rfl, Nat.le_of_ble_eq_true rfl⟩ rfl rfl (Nat.le_of_ble_eq_true rfl) (fun r st h => ?_)
  obtain ⟨rfl, rfl⟩ := h
  refine g_if_eq eX3_openAdded_4 (fun hb => ?_) (fun hb => ?_)
  · rw [b2_eq0] at hb
    rw [if_neg hb]
    refine g_ild2 eX3_openAdded_19 ?_
    refine g_if_ne eX3_openAdded_20 (fun hb2 => ?_) (fun hb2 => ?_)
    · have e : ¬ k.toInt = 0 := fun z => hb2 ((fa_eq k 0).mpr z)
      rw [if_neg e]
      refine g_ald3 eX3_openAdded_27 ?_
      refine g_iconst (v := 4) (by decide) eX3_openAdded_28 ?_
      refine g_ild1 eX3_openAdded_29 ?_
      refine g_ild2 eX3_openAdded_30 ?_
      refine g_callVi (ci := 6) (m_adP st hq h4 hl 4 4 a k rfl) (by first | rfl | exact kd_key hi | exact kd_sh hi | exact kd_ya hi | exact kd_pr hq | exact kd_pk hq | exact kd_pf hq | exact kd_ps hq | exact kd_po hq | exact kd_pr hq2 | exact kd_pk hq2 | exact kd_pf hq2 | exact kd_ps hq2 | exact kd_po hq2) (by first | decide | (unfold N0; omega)) (Nat.le_of_ble_eq_true rfl) rfl cv_X3_133 eX3_openAdded_31 ⟨Nat.le_of_ble_eq_true rfl, Nat.le_of_ble_eq_true rfl⟩ rfl rfl (Nat.le_of_ble_eq_true rfl) (fun r u h => ?_)
      exact g_iret rfl eX3_openAdded_34 ⟨_, rfl, h⟩
    · have e : k.toInt = 0 := (fa_eq k 0).mp hb2
      rw [if_pos e]
      refine g_ild1 eX3_openAdded_23 ?_
      refine g_goto eX3_openAdded_24 ?_
      exact g_iret rfl eX3_openAdded_34 ⟨_, rfl, ⟨pFr.refl _ _, rfl, h4⟩⟩
  · rw [b2_ne0] at hb
    rw [if_pos hb]
    refine g_ald0 eX3_openAdded_7 ?_
    refine g_ild1 eX3_openAdded_8 ?_
    refine g_callSi (m_openNumber st a) cs_X3_127 eX3_openAdded_9 ⟨Nat.le_of_ble_eq_true rfl, Nat.le_of_ble_eq_true rfl⟩ rfl rfl (Nat.le_of_ble_eq_true rfl) (fun r st h => ?_)
    obtain ⟨rfl, rfl⟩ := h
    have hop := opn h3 ha
    refine g_ild2 eX3_openAdded_12 ?_
    refine g_iadd eX3_openAdded_13 ?_
    refine g_i2l eX3_openAdded_14 ?_
    refine g_callVi (ci := 3) (m_openOf st h1 h2 h3 _) (by first | rfl | exact kd_key hi | exact kd_sh hi | exact kd_ya hi | exact kd_pr hq | exact kd_pk hq | exact kd_pf hq | exact kd_ps hq | exact kd_po hq | exact kd_pr hq2 | exact kd_pk hq2 | exact kd_pf hq2 | exact kd_ps hq2 | exact kd_po hq2) (by first | decide | (unfold N0; omega)) (Nat.le_of_ble_eq_true rfl) rfl cv_X3_86 eX3_openAdded_15 ⟨Nat.le_of_ble_eq_true rfl, Nat.le_of_ble_eq_true rfl⟩ rfl rfl (Nat.le_of_ble_eq_true rfl) (fun r st h => ?_)
    obtain ⟨rfl, h⟩ := h
    refine g_iret rfl eX3_openAdded_18 ⟨_, rfl, ?_⟩
    try dsimp only
    refine ⟨pFr.refl _ _, ?_, h4⟩
    rw [h, tl, fb_addI (by rw [hop]; omega) (by rw [hop]; omega), hop]
theorem m_added (st : St) {q : Nat} (hq : q < 4) {w : List WK} (hw : mrOK t q st w) (hl : w.length < 90000) (a b : Int32) (ha : okc t a.toInt) (hb : okc t b.toInt) : Mi l D cy 3 YX3_added [.ref 14, .int a, .int b, .ref (95 + 5 * q)] st (mkPost q st (plP t w a.toInt b.toInt)) := by
  have hoa := opn hw.2.2.1 ha
  have hob := opn hw.2.2.1 hb
  refine M.ofG [some (.ref 14), some (.int a), some (.int b), some (.ref (95 + 5 * q))] (by decide) (Nat.le_of_ble_eq_true rfl) rfl ?_
  intro xp xe xs xm xa xb xme xc xad xA
  unfold plP
  refine g_ild1 eX3_added_0 ?_
  refine g_callSi (m_isOpen st a) cs_X3_123 eX3_added_1 ⟨Nat.le_of_ble_eq_true rfl, Nat.le_of_ble_eq_true rfl⟩ rfl rfl (Nat.le_of_ble_eq_true rfl) (fun r st h => ?_)
  obtain ⟨rfl, rfl⟩ := h
  refine g_if_eq eX3_added_4 (fun hb1 => ?_) (fun hb1 => ?_)
  · rw [b2_eq0] at hb1
    rw [if_neg hb1]
    refine g_ild2 eX3_added_18 ?_
    refine g_callSi (m_isOpen st b) cs_X3_123 eX3_added_19 ⟨Nat.le_of_ble_eq_true rfl, Nat.le_of_ble_eq_true rfl⟩ rfl rfl (Nat.le_of_ble_eq_true rfl) (fun r st h => ?_)
    obtain ⟨rfl, rfl⟩ := h
    refine g_if_eq eX3_added_22 (fun hb2 => ?_) (fun hb2 => ?_)
    · rw [b2_eq0] at hb2
      rw [if_neg hb2]
      refine g_ald3 eX3_added_36 ?_
      refine g_iconst (v := 1) (by decide) eX3_added_37 ?_
      refine g_ild1 eX3_added_38 ?_
      refine g_ild2 eX3_added_39 ?_
      refine g_callVi (ci := 6) (m_adP st hq hw.2.2.2 hl 1 1 a b rfl) (by first | rfl | exact kd_key hi | exact kd_sh hi | exact kd_ya hi | exact kd_pr hq | exact kd_pk hq | exact kd_pf hq | exact kd_ps hq | exact kd_po hq | exact kd_pr hq2 | exact kd_pk hq2 | exact kd_pf hq2 | exact kd_ps hq2 | exact kd_po hq2) (by first | decide | (unfold N0; omega)) (Nat.le_of_ble_eq_true rfl) rfl cv_X3_133 eX3_added_40 ⟨Nat.le_of_ble_eq_true rfl, Nat.le_of_ble_eq_true rfl⟩ rfl rfl (Nat.le_of_ble_eq_true rfl) (fun r u h => ?_)
      exact g_iret rfl eX3_added_43 ⟨_, rfl, h⟩
    · rw [b2_ne0] at hb2
      rw [if_pos hb2]
      refine g_ald0 eX3_added_25 ?_
      refine g_ild1 eX3_added_26 ?_
      refine g_ild2 eX3_added_27 ?_
      refine g_callSi (m_openNumber st b) cs_X3_127 eX3_added_28 ⟨Nat.le_of_ble_eq_true rfl, Nat.le_of_ble_eq_true rfl⟩ rfl rfl (Nat.le_of_ble_eq_true rfl) (fun r st h => ?_)
      obtain ⟨rfl, rfl⟩ := h
      refine g_ald3 eX3_added_31 ?_
      refine g_callVi (ci := 3) (m_openAdded st hq hw hl a (-1 - b) ha (by omega)) rfl (Nat.le_of_ble_eq_true rfl) (Nat.le_of_ble_eq_true rfl) rfl cv_X3_130 eX3_added_32 ⟨Nat.le_of_ble_eq_true rfl, Nat.le_of_ble_eq_true rfl⟩ rfl rfl (Nat.le_of_ble_eq_true rfl) (fun r u h => ?_)
      rw [hob] at h
      exact g_iret rfl eX3_added_35 ⟨_, rfl, h⟩
  · rw [b2_ne0] at hb1
    rw [if_pos hb1]
    refine g_ald0 eX3_added_7 ?_
    refine g_ild2 eX3_added_8 ?_
    refine g_ild1 eX3_added_9 ?_
    refine g_callSi (m_openNumber st a) cs_X3_127 eX3_added_10 ⟨Nat.le_of_ble_eq_true rfl, Nat.le_of_ble_eq_true rfl⟩ rfl rfl (Nat.le_of_ble_eq_true rfl) (fun r st h => ?_)
    obtain ⟨rfl, rfl⟩ := h
    refine g_ald3 eX3_added_13 ?_
    refine g_callVi (ci := 3) (m_openAdded st hq hw hl b (-1 - a) hb (by omega)) rfl (Nat.le_of_ble_eq_true rfl) (Nat.le_of_ble_eq_true rfl) rfl cv_X3_130 eX3_added_14 ⟨Nat.le_of_ble_eq_true rfl, Nat.le_of_ble_eq_true rfl⟩ rfl rfl (Nat.le_of_ble_eq_true rfl) (fun r u h => ?_)
    rw [hoa] at h
    exact g_iret rfl eX3_added_17 ⟨_, rfl, h⟩
theorem m_taken (st : St) {q : Nat} (hq : q < 4) {w : List WK} (hw : mrOK t q st w) (hl : w.length < 89999) (a b : Int32) (ha : okc t a.toInt) (hb : okc t b.toInt) : Mi l D cy 3 YX3_taken [.ref 14, .int a, .int b, .ref (95 + 5 * q)] st (mkPost q st (miP t w a.toInt b.toInt)) := by
  have hoa := opn hw.2.2.1 ha
  have hob := opn hw.2.2.1 hb
  have h2 := hw.2.1
  have h3 := hw.2.2.1
  have hti : (st.1 14 0).toInt = t := by rw [hw.1, nI_toInt (by omega)]
  refine M.ofG [some (.ref 14), some (.int a), some (.int b), some (.ref (95 + 5 * q))] (by decide) (Nat.le_of_ble_eq_true rfl) rfl ?_
  intro xp xe xs xm xa xb xme xc xad xA
  unfold miP
  refine g_ild2 eX3_taken_0 ?_
  refine g_callSi (m_isOpen st b) cs_X3_123 eX3_taken_1 ⟨Nat.le_of_ble_eq_true rfl, Nat.le_of_ble_eq_true rfl⟩ rfl rfl (Nat.le_of_ble_eq_true rfl) (fun r st h => ?_)
  obtain ⟨rfl, rfl⟩ := h
  refine g_if_eq eX3_taken_4 (fun hb1 => ?_) (fun hb1 => ?_)
  · rw [b2_eq0] at hb1
    rw [if_neg hb1]
    refine g_ild1 eX3_taken_27 ?_
    refine g_callSi (m_isOpen st a) cs_X3_123 eX3_taken_28 ⟨Nat.le_of_ble_eq_true rfl, Nat.le_of_ble_eq_true rfl⟩ rfl rfl (Nat.le_of_ble_eq_true rfl) (fun r st h => ?_)
    obtain ⟨rfl, rfl⟩ := h
    refine g_if_eq eX3_taken_31 (fun hb2 => ?_) (fun hb2 => ?_)
    · rw [b2_eq0] at hb2
      rw [if_neg hb2]
      refine g_ald3 eX3_taken_51 ?_
      refine g_iconst (v := 2) (by decide) eX3_taken_52 ?_
      refine g_ild1 eX3_taken_53 ?_
      refine g_ild2 eX3_taken_54 ?_
      refine g_callVi (ci := 6) (m_adP st hq hw.2.2.2 (by omega) 2 2 a b rfl) (by first | rfl | exact kd_key hi | exact kd_sh hi | exact kd_ya hi | exact kd_pr hq | exact kd_pk hq | exact kd_pf hq | exact kd_ps hq | exact kd_po hq | exact kd_pr hq2 | exact kd_pk hq2 | exact kd_pf hq2 | exact kd_ps hq2 | exact kd_po hq2) (by first | decide | (unfold N0; omega)) (Nat.le_of_ble_eq_true rfl) rfl cv_X3_133 eX3_taken_55 ⟨Nat.le_of_ble_eq_true rfl, Nat.le_of_ble_eq_true rfl⟩ rfl rfl (Nat.le_of_ble_eq_true rfl) (fun r u h => ?_)
      exact g_iret rfl eX3_taken_58 ⟨_, rfl, h⟩
    · rw [b2_ne0] at hb2
      rw [if_pos hb2]
      refine g_ald0 eX3_taken_34 ?_
      refine g_ald3 eX3_taken_35 ?_
      refine g_iconst (v := 5) (by decide) eX3_taken_36 ?_
      refine g_ild2 eX3_taken_37 ?_
      refine g_iconst (v := (-1)) (by decide) eX3_taken_38 ?_
      refine g_callVi (ci := 6) (m_adP st hq hw.2.2.2 (by omega) 5 5 b (-1) rfl) (by first | rfl | exact kd_key hi | exact kd_sh hi | exact kd_ya hi | exact kd_pr hq | exact kd_pk hq | exact kd_pf hq | exact kd_ps hq | exact kd_po hq | exact kd_pr hq2 | exact kd_pk hq2 | exact kd_pf hq2 | exact kd_ps hq2 | exact kd_po hq2) (by first | decide | (unfold N0; omega)) (Nat.le_of_ble_eq_true rfl) rfl cv_X3_133 eX3_taken_39 ⟨Nat.le_of_ble_eq_true rfl, Nat.le_of_ble_eq_true rfl⟩ rfl rfl (Nat.le_of_ble_eq_true rfl) (fun r u h => ?_)
      obtain ⟨hf, hr, hu⟩ := h
      refine g_ild1 eX3_taken_42 ?_
      refine g_callSi (m_openNumber u a) cs_X3_127 eX3_taken_43 ⟨Nat.le_of_ble_eq_true rfl, Nat.le_of_ble_eq_true rfl⟩ rfl rfl (Nat.le_of_ble_eq_true rfl) (fun z u h => ?_)
      obtain ⟨rfl, rfl⟩ := h
      have hk := adP_ok (w := w) (k := 5) (a := b.toInt) (b := -1) (t := t) (by omega)
      refine g_ald3 eX3_taken_46 ?_
      refine g_callVi (ci := 3) (m_openAdded u hq (mk_fr hw hf hu) (by show (adP w 5 b.toInt (-1)).1.length < _; omega) r (-1 - a) (by rw [hr]; exact hk.1) (by omega)) rfl (Nat.le_of_ble_eq_true rfl) (Nat.le_of_ble_eq_true rfl) rfl cv_X3_130 eX3_taken_47 ⟨Nat.le_of_ble_eq_true rfl, Nat.le_of_ble_eq_true rfl⟩ rfl rfl (Nat.le_of_ble_eq_true rfl) (fun z u2 h => ?_)
      rw [hoa, hr] at h
      obtain ⟨hf2, h⟩ := h
      exact g_iret rfl eX3_taken_50 ⟨_, rfl, ⟨hf.trans hf2, h⟩⟩
  · rw [b2_ne0] at hb1
    rw [if_pos hb1]
    refine g_ald0 eX3_taken_7 ?_
    refine g_ild1 eX3_taken_8 ?_
    refine g_ild2 eX3_taken_9 ?_
    refine g_callSi (m_openNumber st b) cs_X3_127 eX3_taken_10 ⟨Nat.le_of_ble_eq_true rfl, Nat.le_of_ble_eq_true rfl⟩ rfl rfl (Nat.le_of_ble_eq_true rfl) (fun r st h => ?_)
    obtain ⟨rfl, rfl⟩ := h
    refine g_ineg eX3_taken_13 ?_
    refine g_i2l eX3_taken_14 ?_
    refine g_ald0 eX3_taken_15 ?_
    refine g_getI (ci := 3) (j := 0) rfl (Nat.le_of_ble_eq_true rfl) (Nat.le_of_ble_eq_true rfl) (Nat.le_of_ble_eq_true rfl) rfl fl_X3_24 eX3_taken_16 ?_
    refine g_callSi (m_rest st _ _ (by omega)) cs_X3_107 eX3_taken_19 ⟨Nat.le_of_ble_eq_true rfl, Nat.le_of_ble_eq_true rfl⟩ rfl rfl (Nat.le_of_ble_eq_true rfl) (fun k st h => ?_)
    obtain ⟨rfl, h⟩ := h
    rw [hti, tl, fb_negI (by rw [hob]; omega), hob] at h
    have hr := em_rng (-(-1 - b.toInt)) h2
    refine g_ald3 eX3_taken_22 ?_
    refine g_callVi (ci := 3) (m_openAdded st hq hw (by omega) a k ha (by omega)) rfl (Nat.le_of_ble_eq_true rfl) (Nat.le_of_ble_eq_true rfl) rfl cv_X3_130 eX3_taken_23 ⟨Nat.le_of_ble_eq_true rfl, Nat.le_of_ble_eq_true rfl⟩ rfl rfl (Nat.le_of_ble_eq_true rfl) (fun r u h9 => ?_)
    rw [h] at h9
    exact g_iret rfl eX3_taken_26 ⟨_, rfl, h9⟩
theorem m_openMultiplied (st : St) {q : Nat} (hq : q < 4) {w : List WK} (hw : mrOK t q st w) (hl : w.length < 90000) (a k : Int32) (ha : okc t a.toInt) (hk : 0 ≤ k.toInt ∧ k.toInt < t) : Mi l D cy 2 YX3_openMultiplied [.ref 14, .int a, .int k, .ref (95 + 5 * q)] st (mkPost q st (omP t w a.toInt k.toInt)) := by
  obtain ⟨h1, h2, h3, h4⟩ := hw
  have hti : (st.1 14 0).toInt = t := by rw [h1, nI_toInt (by omega)]
  refine M.ofG [some (.ref 14), some (.int a), some (.int k), some (.ref (95 + 5 * q))] (by decide) (Nat.le_of_ble_eq_true rfl) rfl ?_
  intro xp xe xs xm xa xb xme xc xad xA
  refine g_ild1 eX3_openMultiplied_0 ?_
  refine g_callSi (m_isOpen st a) cs_X3_123 eX3_openMultiplied_1 ⟨Nat.le_of_ble_eq_true rfl, Nat.le_of_ble_eq_true rfl⟩ rfl rfl (Nat.le_of_ble_eq_true rfl) (fun r st h => ?_)
  obtain ⟨rfl, rfl⟩ := h
  refine g_if_eq eX3_openMultiplied_4 (fun hb => ?_) (fun hb => ?_)
  · rw [b2_eq0] at hb
    refine g_ild2 eX3_openMultiplied_19 ?_
    refine g_iconst (v := 2) (by decide) eX3_openMultiplied_20 ?_
    refine g_icmp_ge eX3_openMultiplied_21 (fun hb2 => ?_) (fun hb2 => ?_)
    · rw [fa_le] at hb2
      have hb2 : 2 ≤ k.toInt := hb2
      have e9 : (omP t w a.toInt k.toInt) = adP w 5 a.toInt (if (t : Int) - k.toInt < k.toInt then k.toInt - t else k.toInt) := by
        unfold omP
        rw [if_neg hb, if_neg (by omega)]
      have go : ∀ x : Int32, x.toInt = (if (t : Int) - k.toInt < k.toInt then k.toInt - t else k.toInt) → G xp l xe (rmd (2)) xs xm xa xb xme xc D cy xad xA (YX3_openMultiplied.2.1, YX3_openMultiplied.1.cls, YX3_openMultiplied.2.2.1, YX3_openMultiplied.2.2.2) (Pi (mkPost q st (omP t w a.toInt k.toInt))) 61 ([some (.ref 14), some (.int a), some (.int k), some (.ref (95 + 5 * q))]) ([.int x, .int a, .int 5, .ref (95 + 5 * q)]) (st) := by
        intro x hx
        refine g_callVi (ci := 6) (m_adP st hq h4 hl 5 5 a x rfl) (by first | rfl | exact kd_key hi | exact kd_sh hi | exact kd_ya hi | exact kd_pr hq | exact kd_pk hq | exact kd_pf hq | exact kd_ps hq | exact kd_po hq | exact kd_pr hq2 | exact kd_pk hq2 | exact kd_pf hq2 | exact kd_ps hq2 | exact kd_po hq2) (by first | decide | (unfold N0; omega)) (Nat.le_of_ble_eq_true rfl) rfl cv_X3_133 eX3_openMultiplied_61 ⟨Nat.le_of_ble_eq_true rfl, Nat.le_of_ble_eq_true rfl⟩ rfl rfl (Nat.le_of_ble_eq_true rfl) (fun r u h => ?_)
        rw [hx, ← e9] at h
        exact g_iret rfl eX3_openMultiplied_64 ⟨_, rfl, h⟩
      have s1 : (st.1 14 0 - k).toInt = t - k.toInt := by rw [fb_subI (by omega) (by omega), hti]
      have s2 : (k - st.1 14 0).toInt = k.toInt - t := by rw [fb_subI (by omega) (by omega), hti]
      refine g_ald3 eX3_openMultiplied_38 ?_
      refine g_iconst (v := 5) (by decide) eX3_openMultiplied_39 ?_
      refine g_ild1 eX3_openMultiplied_40 ?_
      refine g_ald0 eX3_openMultiplied_41 ?_
      refine g_getI (ci := 3) (j := 0) rfl (Nat.le_of_ble_eq_true rfl) (Nat.le_of_ble_eq_true rfl) (Nat.le_of_ble_eq_true rfl) rfl fl_X3_24 eX3_openMultiplied_42 ?_
      refine g_ild2 eX3_openMultiplied_45 ?_
      refine g_isub eX3_openMultiplied_46 ?_
      refine g_ild2 eX3_openMultiplied_47 ?_
      refine g_icmp_ge eX3_openMultiplied_48 (fun hb3 => ?_) (fun hb3 => ?_)
      · rw [fa_le, s1] at hb3
        refine g_ild2 eX3_openMultiplied_60 ?_
        exact go k (by rw [if_neg (by omega)])
      · rw [fa_le, s1] at hb3
        refine g_ild2 eX3_openMultiplied_51 ?_
        refine g_ald0 eX3_openMultiplied_52 ?_
        refine g_getI (ci := 3) (j := 0) rfl (Nat.le_of_ble_eq_true rfl) (Nat.le_of_ble_eq_true rfl) (Nat.le_of_ble_eq_true rfl) rfl fl_X3_24 eX3_openMultiplied_53 ?_
        refine g_isub eX3_openMultiplied_56 ?_
        refine g_goto eX3_openMultiplied_57 ?_
        exact go _ (by rw [if_pos (by omega)]; exact s2)
    · rw [fa_le] at hb2
      have hb2 : ¬ 2 ≤ k.toInt := hb2
      refine g_ild2 eX3_openMultiplied_24 ?_
      refine g_if_ne eX3_openMultiplied_25 (fun hb3 => ?_) (fun hb3 => ?_)
      · have e : ¬ k.toInt = 0 := fun z => hb3 ((fa_eq k 0).mpr z)
        refine g_ild1 eX3_openMultiplied_36 ?_
        refine g_iret rfl eX3_openMultiplied_37 ⟨_, rfl, ?_⟩
        try dsimp only
        unfold omP
        rw [if_neg hb, if_pos (by omega), if_neg e]
        exact ⟨pFr.refl _ _, rfl, h4⟩
      · have e : k.toInt = 0 := (fa_eq k 0).mp hb3
        refine g_ald0 eX3_openMultiplied_28 ?_
        refine g_lconst (v := 0) rfl eX3_openMultiplied_29 ?_
        refine g_callVi (ci := 3) (m_openOf st h1 h2 h3 0) rfl (Nat.le_of_ble_eq_true rfl) (Nat.le_of_ble_eq_true rfl) rfl cv_X3_86 eX3_openMultiplied_30 ⟨Nat.le_of_ble_eq_true rfl, Nat.le_of_ble_eq_true rfl⟩ rfl rfl (Nat.le_of_ble_eq_true rfl) (fun r st h => ?_)
        obtain ⟨rfl, h⟩ := h
        refine g_goto eX3_openMultiplied_33 ?_
        refine g_iret rfl eX3_openMultiplied_37 ⟨_, rfl, ?_⟩
        try dsimp only
        unfold omP
        rw [if_neg hb, if_pos (by omega), if_pos e]
        refine ⟨pFr.refl _ _, ?_, h4⟩
        rw [h, z64, Int.zero_emod]
        rfl
  · rw [b2_ne0] at hb
    refine g_ald0 eX3_openMultiplied_7 ?_
    refine g_ild1 eX3_openMultiplied_8 ?_
    refine g_callSi (m_openNumber st a) cs_X3_127 eX3_openMultiplied_9 ⟨Nat.le_of_ble_eq_true rfl, Nat.le_of_ble_eq_true rfl⟩ rfl rfl (Nat.le_of_ble_eq_true rfl) (fun r st h => ?_)
    obtain ⟨rfl, rfl⟩ := h
    have hop := opn h3 ha
    have hmul : -1000 ≤ (-1 - a.toInt) * k.toInt ∧ (-1 - a.toInt) * k.toInt ≤ 1000 := by
      have q1 : 0 ≤ (-1 - a.toInt) * k.toInt := Int.mul_nonneg (by omega) hk.1
      have q2 : (-1 - a.toInt) * k.toInt ≤ 13 * 13 := Int.mul_le_mul (by omega) (by omega) hk.1 (by decide)
      omega
    refine g_ild2 eX3_openMultiplied_12 ?_
    refine g_imul eX3_openMultiplied_13 ?_
    refine g_i2l eX3_openMultiplied_14 ?_
    refine g_callVi (ci := 3) (m_openOf st h1 h2 h3 _) rfl (Nat.le_of_ble_eq_true rfl) (Nat.le_of_ble_eq_true rfl) rfl cv_X3_86 eX3_openMultiplied_15 ⟨Nat.le_of_ble_eq_true rfl, Nat.le_of_ble_eq_true rfl⟩ rfl rfl (Nat.le_of_ble_eq_true rfl) (fun r st h => ?_)
    obtain ⟨rfl, h⟩ := h
    refine g_iret rfl eX3_openMultiplied_18 ⟨_, rfl, ?_⟩
    try dsimp only
    unfold omP
    rw [if_pos hb]
    refine ⟨pFr.refl _ _, ?_, h4⟩
    rw [h, tl, fb_mulI (by rw [hop]; omega) (by rw [hop]; omega), hop]
theorem m_multiplied (st : St) {q : Nat} (hq : q < 4) {w : List WK} (hw : mrOK t q st w) (hl : w.length < 90000) (a b : Int32) (ha : okc t a.toInt) (hb : okc t b.toInt) : Mi l D cy 3 YX3_multiplied [.ref 14, .int a, .int b, .ref (95 + 5 * q)] st (mkPost q st (muP t w a.toInt b.toInt)) := by
  have hoa := opn hw.2.2.1 ha
  have hob := opn hw.2.2.1 hb
  refine M.ofG [some (.ref 14), some (.int a), some (.int b), some (.ref (95 + 5 * q))] (by decide) (Nat.le_of_ble_eq_true rfl) rfl ?_
  intro xp xe xs xm xa xb xme xc xad xA
  unfold muP
  refine g_ild1 eX3_multiplied_0 ?_
  refine g_callSi (m_isOpen st a) cs_X3_123 eX3_multiplied_1 ⟨Nat.le_of_ble_eq_true rfl, Nat.le_of_ble_eq_true rfl⟩ rfl rfl (Nat.le_of_ble_eq_true rfl) (fun r st h => ?_)
  obtain ⟨rfl, rfl⟩ := h
  refine g_if_eq eX3_multiplied_4 (fun hb1 => ?_) (fun hb1 => ?_)
  · rw [b2_eq0] at hb1
    rw [if_neg hb1]
    refine g_ild2 eX3_multiplied_18 ?_
    refine g_callSi (m_isOpen st b) cs_X3_123 eX3_multiplied_19 ⟨Nat.le_of_ble_eq_true rfl, Nat.le_of_ble_eq_true rfl⟩ rfl rfl (Nat.le_of_ble_eq_true rfl) (fun r st h => ?_)
    obtain ⟨rfl, rfl⟩ := h
    refine g_if_eq eX3_multiplied_22 (fun hb2 => ?_) (fun hb2 => ?_)
    · rw [b2_eq0] at hb2
      rw [if_neg hb2]
      refine g_ald3 eX3_multiplied_36 ?_
      refine g_iconst (v := 3) (by decide) eX3_multiplied_37 ?_
      refine g_ild1 eX3_multiplied_38 ?_
      refine g_ild2 eX3_multiplied_39 ?_
      refine g_callVi (ci := 6) (m_adP st hq hw.2.2.2 hl 3 3 a b rfl) (by first | rfl | exact kd_key hi | exact kd_sh hi | exact kd_ya hi | exact kd_pr hq | exact kd_pk hq | exact kd_pf hq | exact kd_ps hq | exact kd_po hq | exact kd_pr hq2 | exact kd_pk hq2 | exact kd_pf hq2 | exact kd_ps hq2 | exact kd_po hq2) (by first | decide | (unfold N0; omega)) (Nat.le_of_ble_eq_true rfl) rfl cv_X3_133 eX3_multiplied_40 ⟨Nat.le_of_ble_eq_true rfl, Nat.le_of_ble_eq_true rfl⟩ rfl rfl (Nat.le_of_ble_eq_true rfl) (fun r u h => ?_)
      exact g_iret rfl eX3_multiplied_43 ⟨_, rfl, h⟩
    · rw [b2_ne0] at hb2
      rw [if_pos hb2]
      refine g_ald0 eX3_multiplied_25 ?_
      refine g_ild1 eX3_multiplied_26 ?_
      refine g_ild2 eX3_multiplied_27 ?_
      refine g_callSi (m_openNumber st b) cs_X3_127 eX3_multiplied_28 ⟨Nat.le_of_ble_eq_true rfl, Nat.le_of_ble_eq_true rfl⟩ rfl rfl (Nat.le_of_ble_eq_true rfl) (fun r st h => ?_)
      obtain ⟨rfl, rfl⟩ := h
      refine g_ald3 eX3_multiplied_31 ?_
      refine g_callVi (ci := 3) (m_openMultiplied st hq hw hl a (-1 - b) ha (by omega)) rfl (Nat.le_of_ble_eq_true rfl) (Nat.le_of_ble_eq_true rfl) rfl cv_X3_137 eX3_multiplied_32 ⟨Nat.le_of_ble_eq_true rfl, Nat.le_of_ble_eq_true rfl⟩ rfl rfl (Nat.le_of_ble_eq_true rfl) (fun r u h => ?_)
      rw [hob] at h
      exact g_iret rfl eX3_multiplied_35 ⟨_, rfl, h⟩
  · rw [b2_ne0] at hb1
    rw [if_pos hb1]
    refine g_ald0 eX3_multiplied_7 ?_
    refine g_ild2 eX3_multiplied_8 ?_
    refine g_ild1 eX3_multiplied_9 ?_
    refine g_callSi (m_openNumber st a) cs_X3_127 eX3_multiplied_10 ⟨Nat.le_of_ble_eq_true rfl, Nat.le_of_ble_eq_true rfl⟩ rfl rfl (Nat.le_of_ble_eq_true rfl) (fun r st h => ?_)
    obtain ⟨rfl, rfl⟩ := h
    refine g_ald3 eX3_multiplied_13 ?_
    refine g_callVi (ci := 3) (m_openMultiplied st hq hw hl b (-1 - a) hb (by omega)) rfl (Nat.le_of_ble_eq_true rfl) (Nat.le_of_ble_eq_true rfl) rfl cv_X3_137 eX3_multiplied_14 ⟨Nat.le_of_ble_eq_true rfl, Nat.le_of_ble_eq_true rfl⟩ rfl rfl (Nat.le_of_ble_eq_true rfl) (fun r u h => ?_)
    rw [hoa] at h
    exact g_iret rfl eX3_multiplied_17 ⟨_, rfl, h⟩
end MAKC
