/-! READ: the class -/
theorem numF_lt {b z : Nat} (hb : 0 < b) {B : Nat → Nat} {i : Nat} : ∀ k, (∀ j, j < k → B (i + j) - z < b) → numF b z B i k < b ^ k
  | 0, _ => by show 0 < b ^ 0; rw [Nat.pow_zero]; exact Nat.one_pos
  | k + 1, h => by
    have h1 := numF_lt hb k (fun j hj => h j (by omega))
    have h2 := h k (by omega)
    rw [numF, Nat.pow_succ]
    have h3 : (numF b z B i k + 1) * b ≤ b ^ k * b := Nat.mul_le_mul_right b h1
    rw [Nat.add_mul, Nat.one_mul] at h3
    omega
theorem vlF_lt {B : Nat → Nat} {n i : Nat} (hi : i < n) (hk : kdF B n i ≠ 1) : vlF B n i < 1099511627776 := by
  unfold kdF at hk
  unfold vlF
  by_cases h1 : ltr (B i)
  · rw [if_pos h1] at hk ⊢
    have h8 : ¬ 8 < endT B n i - i := fun q => hk (by rw [if_pos q])
    refine Nat.lt_of_lt_of_le (numF_lt (by decide) _ (fun j hj => ?_)) ?_
    · have h2 := (stp_in (P := ltr) (B := B) (n := n) (i := i) (j := i + j) (by omega) (by rw [← endT_ltr hi h1]; omega)).2
      omega
    · calc 32 ^ (endT B n i - i) ≤ 32 ^ 8 := Nat.pow_le_pow_right (by decide) (by omega)
        _ = 1099511627776 := by decide
  · rw [if_neg h1] at hk ⊢
    by_cases h2 : dgt (B i)
    · rw [if_pos h2] at hk ⊢
      have h8 : ¬ 4 < endT B n i - i := fun q => hk (by rw [if_pos q])
      refine Nat.lt_of_lt_of_le (numF_lt (by decide) _ (fun j hj => ?_)) ?_
      · have h3 := (stp_in (P := dgt) (B := B) (n := n) (i := i) (j := i + j) (by omega) (by rw [← endT_dgt hi h2]; omega)).2
        omega
      · calc 10 ^ (endT B n i - i) ≤ 10 ^ 4 := Nat.pow_le_pow_right (by decide) (by omega)
          _ ≤ 1099511627776 := by decide
    · rw [if_neg h2]
      decide
theorem tkV_lt {B : Nat → Nat} {n k : Nat} (hk : tkK B n k ≠ 1) : tkV B n k < 1099511627776 := by
  unfold tkV
  split
  · rename_i h
    refine vlF_lt h ?_
    unfold tkK at hk
    rw [if_pos h] at hk
    exact hk
  · decide
theorem scn_ok {t : Nat} {K V : Nat → Nat} {cnt : Nat} : ∀ (f i : Nat) (E : List NE) (ins lt : Nat), i + f ≤ 400 → ins ≤ i → lt ≤ i → (∀ e ∈ E, 0 ≤ e.2.2 ∧ e.2.2 < 1000) → match scnL t K V cnt f i E ins lt with
    | .inl e => e.1 ≠ 0 ∧ e.1 ≤ 5 ∧ e.2 < i + f
    | .inr x => ∀ e ∈ x.1, 0 ≤ e.2.2 ∧ e.2.2 < 1000
  | 0, i, E, ins, lt, hi, h1, h2, hE => hE
  | f + 1, i, E, ins, lt, hi, h1, h2, hE => by
    have hap : ∀ (x : NE), (0 ≤ x.2.2 ∧ x.2.2 < 1000) → ∀ e ∈ E ++ [x], 0 ≤ e.2.2 ∧ e.2.2 < 1000 := by
      intro x hx e he
      rcases List.mem_append.mp he with q | q
      · exact hE e q
      · rw [List.mem_singleton.mp q]; exact hx
    have step : ∀ (E2 : List NE) (ins2 l2 : Nat), ins2 ≤ i + 1 → l2 ≤ i + 1 → (∀ e ∈ E2, 0 ≤ e.2.2 ∧ e.2.2 < 1000) → (match scnL t K V cnt f (i + 1) E2 ins2 l2 with
        | .inl e => e.1 ≠ 0 ∧ e.1 ≤ 5 ∧ e.2 < i + (f + 1)
        | .inr x => ∀ e ∈ x.1, 0 ≤ e.2.2 ∧ e.2.2 < 1000) := by
      intro E2 ins2 l2 a1 a2 a3
      have h := scn_ok (t := t) (K := K) (V := V) (cnt := cnt) f (i + 1) E2 ins2 l2 (by omega) a1 a2 a3
      rcases hq : scnL t K V cnt f (i + 1) E2 ins2 l2 with e | x
      · rw [hq] at h
        exact ⟨h.1, h.2.1, by have := h.2.2; omega⟩
      · rw [hq] at h
        exact h
    rw [scnL]
    by_cases k2 : K i = 2
    · rw [if_pos k2]
      have hl := fau_len (t := t) (K := K) (V := V) (cnt := cnt) (i := i) (E := E) (ins := ins)
      by_cases k0 : (fauF t K V cnt i E ins).1 = 0
      · rw [if_pos k0]
        refine step _ _ _ (by omega) (by split <;> omega) ?_
        unfold fauF
        repeat' split
        all_goals first | exact hE | exact hap _ ⟨by show (0 : Int) ≤ ((_ : Nat) : Int); omega, by show ((_ : Nat) : Int) < 1000; omega⟩
      · rw [if_neg k0]
        exact ⟨k0, hl.2.2, by omega⟩
    · rw [if_neg k2]
      by_cases k5 : K i = 59 ∧ 0 < lt
      · rw [if_pos k5]
        exact step (E ++ [(V lt, 6, (lt : Int))]) ins 0 (by omega) (by omega) (hap (V lt, 6, (lt : Int)) ⟨by show (0 : Int) ≤ (lt : Int); omega, by show (lt : Int) < 1000; omega⟩)
      · rw [if_neg k5]
        exact step E ins lt (by omega) (by omega) hE
/-- what read says: a fault and its place, or the ins and what was made -/
def redF (t : Nat) (B : Nat → Nat) (n : Nat) : (Nat × Nat) ⊕ (Nat × MS) := match gramF (tkK B n) with
  | .inl e => .inl (e.1, tkP B n e.2)
  | .inr s => match scnF t (tkK B n) (tkV B n) s.1 with
    | .inl e => .inl (e.1, tkP B n e.2)
    | .inr x => match makL t (tkV B n) s.1 s.2.1 (x.1, [], [], []) with
      | .inl a => .inl (6, tkP B n a)
      | .inr m => .inr (x.2, m)
def rdFr (q : Nat) (st u : St) : Prop := (∀ a, a ≠ 0 → a ≠ 1 → (a < 3 ∨ 15 < a) → a ≠ 95 + 5 * q → a ≠ 96 + 5 * q → a ≠ 97 + 5 * q → a ≠ 98 + 5 * q → a ≠ 99 + 5 * q → u.1 a = st.1 a) ∧ (∀ a, a ≠ 7 → a ≠ 11 → u.2 a = st.2 a) ∧ u.1 10 0 = st.1 10 0 ∧ u.1 14 0 = st.1 14 0 ∧ ∀ j, j ≠ 5 → j ≠ 10 → u.1 0 j = st.1 0 j
theorem rdFr.trans {q : Nat} {a b c : St} (h1 : rdFr q a b) (h2 : rdFr q b c) : rdFr q a c := ⟨fun k x1 x2 x3 x4 x5 x6 x7 x8 => (h2.1 k x1 x2 x3 x4 x5 x6 x7 x8).trans (h1.1 k x1 x2 x3 x4 x5 x6 x7 x8), fun k x y => (h2.2.1 k x y).trans (h1.2.1 k x y), h2.2.2.1.trans h1.2.2.1, h2.2.2.2.1.trans h1.2.2.2.1, fun j x y => (h2.2.2.2.2 j x y).trans (h1.2.2.2.2 j x y)⟩
theorem rd_ck {q : Nat} {a b : St} (h : ckFr a b) : rdFr q a b := ⟨fun k _ _ x3 _ _ _ _ _ => h.1 k (by omega) (by omega) (by omega) (by omega) (by omega) (by omega), fun k x _ => h.2 k x, by rw [h.1 10 (by decide) (by decide) (by decide) (by decide) (by decide) (by decide)], by rw [h.1 14 (by decide) (by decide) (by decide) (by decide) (by decide) (by decide)], fun j _ _ => by rw [h.1 0 (by decide) (by decide) (by decide) (by decide) (by decide) (by decide)]⟩
theorem rd_n {q : Nat} {a b : St} (h : nFr a b) : rdFr q a b := ⟨fun k _ _ x3 _ _ _ _ _ => h.1 k (by omega) (by omega) (by omega), fun k _ y => h.2.1 k y, h.2.2, by rw [h.1 14 (by decide) (by decide) (by decide)], fun j _ _ => by rw [h.1 0 (by decide) (by decide) (by decide)]⟩
theorem rd_x {q : Nat} {a b : St} (h : xFr q a b) : rdFr q a b := ⟨fun k _ _ x3 x4 x5 x6 x7 x8 => h.1 k (by omega) (by omega) (by omega) x4 x5 x6 x7 x8, fun k _ _ => by rw [h.2.1], by rw [h.1 10 (by omega) (by omega) (by omega) (by omega) (by omega) (by omega) (by omega) (by omega)], h.2.2, fun j _ _ => by rw [h.1 0 (by omega) (by omega) (by omega) (by omega) (by omega) (by omega) (by omega) (by omega)]⟩
theorem rd_fp {q : Nat} (st : St) (x : Int32) : rdFr q st (sI st 0 5 x) := ⟨fun k x1 _ _ _ _ _ _ _ => sI_row x1, fun _ _ _ => rfl, rfl, rfl, fun j h5 _ => by rw [sI_1, if_neg (by omega)]⟩
def rdPost (t q : Nat) (B : Nat → Nat) (n : Nat) (st : St) (r : Int32) (u : St) : Prop := rdFr q st u ∧ u.1 1 1 = 0 ∧ match redF t B n with
  | .inl e => r = nI e.1 ∧ u.1 0 5 = nI e.2 ∧ u.1 0 10 = nI q ∧ e.1 ≠ 0
  | .inr x => r = 0 ∧ u.1 0 5 = -1 ∧ u.1 0 10 = nI (q + 1) ∧ u.1 (95 + 5 * q) 4 = nI x.1 ∧ pgW u q x.2.2.1 ∧ ouOK u q x.2.2.2.2
section REDC
variable {l : Launch} {D : va_G} {cy : Nat → ClassId} {t : Nat}
theorem m_read4 (st : St) (hp : st.1 0 10 = nI 4) : Mi l D cy 25 YX11_read [.ref 0] st (fun r u => r = -2 ∧ u = st) := by
  refine M.ofG [some (.ref 0), none] (by decide) (Nat.le_of_ble_eq_true rfl) rfl ?_
  intro xp xe xs xm xa xb xme xc xad xA
  refine g_ald0 eX11_read_0 ?_
  refine g_getI (ci := 10) (j := 10) rfl (Nat.le_of_ble_eq_true rfl) (Nat.le_of_ble_eq_true rfl) (Nat.le_of_ble_eq_true rfl) rfl fl_X11_49 eX11_read_1 ?_
  rw [hp]
  refine g_iconst (v := 4) (by decide) eX11_read_4 ?_
  refine g_icmp_lt eX11_read_5 (fun hb => ?_) (fun hb => ?_)
  · exact absurd hb (by decide)
  · refine g_bipush (v := (-2)) (by decide) eX11_read_8 ?_
    exact g_iret rfl eX11_read_10 ⟨_, rfl, ⟨rfl, rfl⟩⟩
theorem m_read (st : St) {B : Nat → Nat} {n : Nat} (hT : tapOK st B n) {q : Nat} (hq : q < 4) (hp : st.1 0 10 = nI q) (hn : st.1 10 0 = nI t) (hm : st.1 14 0 = nI t) (h2 : 2 ≤ t) (h13 : t ≤ 13) : Mi l D cy 25 YX11_read [.ref 0] st (rdPost t q B n st) := by
  refine M.ofG [some (.ref 0), none] (by decide) (Nat.le_of_ble_eq_true rfl) rfl ?_
  intro xp xe xs xm xa xb xme xc xad xA
  have hend : ∀ (u : St) (r : Int32) (c : Nat), rdFr q st u → u.1 0 10 = nI q → (r = 0 → c = 1) → (¬ r = 0 → c = 0) → rdPost t q B n st r (sI (sI u 1 1 0) 0 10 (nI (q + c))) → G xp l xe (rmd (25)) xs xm xa xb xme xc D cy xad xA (YX11_read.2.1, YX11_read.1.cls, YX11_read.2.2.1, YX11_read.2.2.2) (Pi (rdPost t q B n st)) 104 ([some (.ref 0), some (.int r)]) ([]) (u) := by
    intro u r c hF hpc h0 h1 h
    refine g_ald0 eX11_read_104 ?_
    refine g_getR (ci := 10) (j := 1) rfl (Nat.le_of_ble_eq_true rfl) (Nat.le_of_ble_eq_true rfl) (Nat.le_of_ble_eq_true rfl) rfl rfl fl_X11_10 eX11_read_105 ?_
    refine g_iconst (v := 0) (by decide) eX11_read_108 ?_
    refine g_putI (ci := 8) (j := 1) rfl rfl (Nat.le_of_ble_eq_true rfl) (Nat.le_of_ble_eq_true rfl) (Nat.le_of_ble_eq_true rfl) rfl fl_X11_100 eX11_read_109 ?_
    refine g_ald0 eX11_read_112 ?_
    refine g_dup rfl eX11_read_113 ?_
    refine g_getI (ci := 10) (j := 10) rfl (Nat.le_of_ble_eq_true rfl) (Nat.le_of_ble_eq_true rfl) (Nat.le_of_ble_eq_true rfl) rfl fl_X11_49 eX11_read_114 ?_
    rw [show (sI u 1 1 0).1 0 10 = nI q from hpc]
    refine g_ild1 eX11_read_117 ?_
    refine g_if_ne eX11_read_118 (fun hb => ?_) (fun hb => ?_)
    · rw [h1 hb] at h
      refine g_iconst (v := 0) (by decide) eX11_read_125 ?_
      refine g_iadd eX11_read_126 ?_
      rw [show nI q + 0 = nI (q + 0) from nI_add q 0]
      refine g_putI (ci := 10) (j := 10) rfl rfl (Nat.le_of_ble_eq_true rfl) (Nat.le_of_ble_eq_true rfl) (Nat.le_of_ble_eq_true rfl) rfl fl_X11_49 eX11_read_127 ?_
      refine g_ild1 eX11_read_130 ?_
      exact g_iret rfl eX11_read_131 ⟨_, rfl, h⟩
    · rw [h0 hb] at h
      refine g_iconst (v := 1) (by decide) eX11_read_121 ?_
      refine g_goto eX11_read_122 ?_
      refine g_iadd eX11_read_126 ?_
      rw [show nI q + 1 = nI (q + 1) from nI_1 q]
      refine g_putI (ci := 10) (j := 10) rfl rfl (Nat.le_of_ble_eq_true rfl) (Nat.le_of_ble_eq_true rfl) (Nat.le_of_ble_eq_true rfl) rfl fl_X11_49 eX11_read_127 ?_
      refine g_ild1 eX11_read_130 ?_
      exact g_iret rfl eX11_read_131 ⟨_, rfl, h⟩
  have hen2 : ∀ (u : St) (c : Nat), rdFr q st u → rdFr q st (sI (sI u 1 1 0) 0 10 (nI (q + c))) := fun u c hF => hF.trans ⟨fun k x1 x2 _ _ _ _ _ _ => by rw [sI_row x1, sI_row x2], fun _ _ _ => rfl, rfl, rfl, fun j _ h10 => by rw [sI_1, if_neg (by omega)]; rfl⟩
  have hbad : ∀ (u : St) (f p : Nat), rdFr q st u → u.1 0 10 = nI q → redF t B n = .inl (f, p) → f ≠ 0 → f < 10 → u.1 0 5 = nI p → G xp l xe (rmd (25)) xs xm xa xb xme xc D cy xad xA (YX11_read.2.1, YX11_read.1.cls, YX11_read.2.2.1, YX11_read.2.2.2) (Pi (rdPost t q B n st)) 104 ([some (.ref 0), some (.int (nI f))]) ([]) (u) := by
    intro u f p hF hpc hR hf hf9 hfp
    refine hend u (nI f) 0 hF hpc (fun z => absurd ((nI_eq (a := f) (b := 0) (by omega) (by omega)).mp z) hf) (fun _ => rfl) ?_
    unfold rdPost
    rw [hR]
    refine ⟨hen2 u 0 hF, ?_, rfl, ?_, ?_, hf⟩
    · rw [sI_row (by decide), sI_1, if_pos ⟨rfl, rfl⟩]
    · rw [sI_1, if_neg (by omega), sI_row (by decide)]; exact hfp
    · rw [sI_1, if_pos ⟨rfl, rfl⟩]; rfl
  refine g_ald0 eX11_read_0 ?_
  refine g_getI (ci := 10) (j := 10) rfl (Nat.le_of_ble_eq_true rfl) (Nat.le_of_ble_eq_true rfl) (Nat.le_of_ble_eq_true rfl) rfl fl_X11_49 eX11_read_1 ?_
  rw [hp]
  refine g_iconst (v := 4) (by decide) eX11_read_4 ?_
  refine g_icmp_lt eX11_read_5 (fun hb => ?_) (fun hb => ?_)
  · refine g_ald0 eX11_read_11 ?_
    refine g_getR (ci := 10) (j := 2) rfl (Nat.le_of_ble_eq_true rfl) (Nat.le_of_ble_eq_true rfl) (Nat.le_of_ble_eq_true rfl) rfl rfl fl_X11_19 eX11_read_12 ?_
    refine g_ald0 eX11_read_15 ?_
    refine g_getR (ci := 10) (j := 1) rfl (Nat.le_of_ble_eq_true rfl) (Nat.le_of_ble_eq_true rfl) (Nat.le_of_ble_eq_true rfl) rfl rfl fl_X11_10 eX11_read_16 ?_
    refine g_callVi (ci := 1) (m_check st hT) rfl (Nat.le_of_ble_eq_true rfl) (Nat.le_of_ble_eq_true rfl) rfl cv_X11_103 eX11_read_19 ⟨Nat.le_of_ble_eq_true rfl, Nat.le_of_ble_eq_true rfl⟩ rfl rfl (Nat.le_of_ble_eq_true rfl) (fun r u1 h => ?_)
    obtain ⟨hF1, h⟩ := h
    have hgp := gK_gram (K := tkK B n)
    refine g_ist1 rfl (Nat.le_of_ble_eq_true rfl) eX11_read_22 ?_
    refine g_ald0 eX11_read_23 ?_
    refine g_ald0 eX11_read_24 ?_
    refine g_getR (ci := 10) (j := 2) rfl (Nat.le_of_ble_eq_true rfl) (Nat.le_of_ble_eq_true rfl) (Nat.le_of_ble_eq_true rfl) rfl rfl fl_X11_19 eX11_read_25 ?_
    refine g_getI (ci := 1) (j := 4) rfl (Nat.le_of_ble_eq_true rfl) (Nat.le_of_ble_eq_true rfl) (Nat.le_of_ble_eq_true rfl) rfl fl_X11_107 eX11_read_28 ?_
    refine g_putI (ci := 10) (j := 5) rfl rfl (Nat.le_of_ble_eq_true rfl) (Nat.le_of_ble_eq_true rfl) (Nat.le_of_ble_eq_true rfl) rfl fl_X11_23 eX11_read_31 ?_
    have hFa := (rd_ck (q := q) hF1).trans (rd_fp (q := q) u1 (u1.1 3 4))
    have hpa : (sI u1 0 5 (u1.1 3 4)).1 0 10 = nI q := by
      rw [sI_1, if_neg (by omega), hF1.1 0 (by decide) (by decide) (by decide) (by decide) (by decide) (by decide)]; exact hp
    rcases eG : gramF (tkK B n) with e | s
    · rw [eG] at h hgp
      obtain ⟨rfl, hfp⟩ := h
      have hR : redF t B n = .inl (e.1, tkP B n e.2) := by unfold redF; rw [eG]
      refine g_ild1 eX11_read_34 ?_
      have he := hgp.1
      refine g_if_ne eX11_read_35 (fun hb2 => ?_) (fun hb2 => ?_)
      · refine g_ild1 eX11_read_64 ?_
        refine g_if_ne eX11_read_65 (fun hb3 => ?_) (fun hb3 => ?_)
        · exact hbad _ e.1 _ hFa hpa hR (by omega) (by omega) (by rw [sI_1, if_pos ⟨rfl, rfl⟩]; exact hfp)
        · exact absurd hb3 hb2
      · exact absurd ((nI_eq (a := e.1) (b := 0) (by omega) (by omega)).mp hb2) (by omega)
    · rw [eG] at h hgp
      obtain ⟨rfl, hfp, hg, hcn⟩ := h
      obtain ⟨hgal, hK0⟩ := hgp
      obtain ⟨hc1, hc2⟩ := hcn hK0
      have hs3 := hgal.1
      have hva : nvOK (tkK B n) (tkP B n) (tkV B n) s.1 (sI u1 0 5 (u1.1 3 4)) := by
        refine ⟨hc1, hs3, fun k hk => ?_⟩
        obtain ⟨c1, c2, c3⟩ := hc2 k (by omega)
        refine ⟨c1, c2, c3, tkK_lt (fun i hi => (hT.2.2 i hi).2) k, tkV_lt ?_⟩
        by_cases e : k = s.1
        · rw [e, hK0]; decide
        · exact (hg.2.2.1 k (by omega)).2
      have hna : (sI u1 0 5 (u1.1 3 4)).1 10 0 = nI t := by rw [hFa.2.2.1]; exact hn
      have hlenA : (sI u1 0 5 (u1.1 3 4)).1 3 3 = nI s.2.1.length := by
        show u1.1 3 3 = _
        rw [hg.2.2.2.1.1]
        congr 1
        have := hgal.2.1
        omega
      have hordA : ∀ j, j < s.2.1.length → (sI u1 0 5 (u1.1 3 4)).1 8 j = nI (s.2.1.getD j (0, 0)).1 ∧ (sI u1 0 5 (u1.1 3 4)).1 9 j = nI (s.2.1.getD j (0, 0)).2 := fun j hj => hg.2.2.2.2 j hj (by have := hgal.2.1; omega)
      generalize sI u1 0 5 (u1.1 3 4) = ua at hFa hpa hva hna hlenA hordA
      refine g_ild1 eX11_read_34 ?_
      refine g_if_ne eX11_read_35 (fun hb2 => ?_) (fun hb2 => ?_)
      · exact absurd rfl hb2
      · refine g_ald0 eX11_read_38 ?_
        refine g_getR (ci := 10) (j := 3) rfl (Nat.le_of_ble_eq_true rfl) (Nat.le_of_ble_eq_true rfl) (Nat.le_of_ble_eq_true rfl) rfl rfl fl_X11_73 eX11_read_39 ?_
        refine g_ald0 eX11_read_42 ?_
        refine g_getR (ci := 10) (j := 2) rfl (Nat.le_of_ble_eq_true rfl) (Nat.le_of_ble_eq_true rfl) (Nat.le_of_ble_eq_true rfl) rfl rfl fl_X11_19 eX11_read_43 ?_
        refine g_getR (ci := 1) (j := 0) rfl (Nat.le_of_ble_eq_true rfl) (Nat.le_of_ble_eq_true rfl) (Nat.le_of_ble_eq_true rfl) rfl rfl fl_X11_108 eX11_read_46 ?_
        refine g_callVi (ci := 4) (m_ncheck ua hva hna (by omega)) rfl (Nat.le_of_ble_eq_true rfl) (Nat.le_of_ble_eq_true rfl) rfl cv_X11_112 eX11_read_49 ⟨Nat.le_of_ble_eq_true rfl, Nat.le_of_ble_eq_true rfl⟩ rfl rfl (Nat.le_of_ble_eq_true rfl) (fun r u2 h => ?_)
        obtain ⟨hF2, h⟩ := h
        refine g_ist1 rfl (Nat.le_of_ble_eq_true rfl) eX11_read_52 ?_
        refine g_ald0 eX11_read_53 ?_
        refine g_ald0 eX11_read_54 ?_
        refine g_getR (ci := 10) (j := 3) rfl (Nat.le_of_ble_eq_true rfl) (Nat.le_of_ble_eq_true rfl) (Nat.le_of_ble_eq_true rfl) rfl rfl fl_X11_73 eX11_read_55 ?_
        refine g_getI (ci := 4) (j := 6) rfl (Nat.le_of_ble_eq_true rfl) (Nat.le_of_ble_eq_true rfl) (Nat.le_of_ble_eq_true rfl) rfl fl_X11_115 eX11_read_58 ?_
        refine g_putI (ci := 10) (j := 5) rfl rfl (Nat.le_of_ble_eq_true rfl) (Nat.le_of_ble_eq_true rfl) (Nat.le_of_ble_eq_true rfl) rfl fl_X11_23 eX11_read_61 ?_
        have hFb := (hFa.trans (rd_n (q := q) hF2)).trans (rd_fp (q := q) u2 (u2.1 10 6))
        have hpb : (sI u2 0 5 (u2.1 10 6)).1 0 10 = nI q := by
          rw [sI_1, if_neg (by omega), hF2.1 0 (by decide) (by decide) (by decide)]; exact hpa
        have hsk := scn_ok (t := t) (K := tkK B n) (V := tkV B n) (cnt := s.1) (s.1 - 1) 1 [] 0 0 (by omega) (by omega) (by omega) (fun e he => absurd he List.not_mem_nil)
        have hsd : scnL t (tkK B n) (tkV B n) s.1 (s.1 - 1) 1 [] 0 0 = scnF t (tkK B n) (tkV B n) s.1 := rfl
        rw [hsd] at hsk
        rcases eS : scnF t (tkK B n) (tkV B n) s.1 with e | x
        · rw [eS] at h hsk
          obtain ⟨rfl, hfp2⟩ := h
          have hR : redF t B n = .inl (e.1, tkP B n e.2) := by unfold redF; rw [eG]; dsimp only; rw [eS]
          refine g_ild1 eX11_read_64 ?_
          refine g_if_ne eX11_read_65 (fun hb3 => ?_) (fun hb3 => ?_)
          · exact hbad _ e.1 _ hFb hpb hR hsk.1 (by have := hsk.2.1; omega) (by rw [sI_1, if_pos ⟨rfl, rfl⟩]; exact hfp2)
          · exact absurd ((nI_eq (a := e.1) (b := 0) (by have := hsk.2.1; omega) (by omega)).mp hb3) hsk.1
        · rw [eS] at h hsk
          obtain ⟨rfl, hnu, hEl, hil⟩ := h
          have hvb : nvOK (tkK B n) (tkP B n) (tkV B n) s.1 (sI u2 0 5 (u2.1 10 6)) := show nvOK (tkK B n) (tkP B n) (tkV B n) s.1 u2 from nv_fr hva hF2
          have hnb : nuOK t (sI u2 0 5 (u2.1 10 6)) x.1 x.2 := hnu
          have hmb : (sI u2 0 5 (u2.1 10 6)).1 14 0 = nI t := by rw [hFb.2.2.2.1]; exact hm
          have hlenB : (sI u2 0 5 (u2.1 10 6)).1 3 3 = nI s.2.1.length := by
            show u2.1 3 3 = _
            rw [hF2.1 3 (by decide) (by decide) (by decide)]; exact hlenA
          have hordB : ∀ j, j < s.2.1.length → (sI u2 0 5 (u2.1 10 6)).1 8 j = nI (s.2.1.getD j (0, 0)).1 ∧ (sI u2 0 5 (u2.1 10 6)).1 9 j = nI (s.2.1.getD j (0, 0)).2 := by
            intro j hj
            show u2.1 8 j = _ ∧ u2.1 9 j = _
            rw [hF2.1 8 (by decide) (by decide) (by decide), hF2.1 9 (by decide) (by decide) (by decide)]
            exact hordA j hj
          generalize sI u2 0 5 (u2.1 10 6) = ub at hFb hpb hvb hnb hmb hlenB hordB
          refine g_ild1 eX11_read_64 ?_
          refine g_if_ne eX11_read_65 (fun hb3 => ?_) (fun hb3 => ?_)
          · exact absurd rfl hb3
          · refine g_ald0 eX11_read_68 ?_
            refine g_getR (ci := 10) (j := 4) rfl (Nat.le_of_ble_eq_true rfl) (Nat.le_of_ble_eq_true rfl) (Nat.le_of_ble_eq_true rfl) rfl rfl fl_X11_80 eX11_read_69 ?_
            refine g_ald0 eX11_read_72 ?_
            refine g_getR (ci := 10) (j := 2) rfl (Nat.le_of_ble_eq_true rfl) (Nat.le_of_ble_eq_true rfl) (Nat.le_of_ble_eq_true rfl) rfl rfl fl_X11_19 eX11_read_73 ?_
            refine g_ald0 eX11_read_76 ?_
            refine g_getR (ci := 10) (j := 3) rfl (Nat.le_of_ble_eq_true rfl) (Nat.le_of_ble_eq_true rfl) (Nat.le_of_ble_eq_true rfl) rfl rfl fl_X11_73 eX11_read_77 ?_
            refine g_ald0 eX11_read_80 ?_
            refine g_getR (ci := 10) (j := 9) rfl (Nat.le_of_ble_eq_true rfl) (Nat.le_of_ble_eq_true rfl) (Nat.le_of_ble_eq_true rfl) rfl rfl fl_X11_45 eX11_read_81 ?_
            refine g_ald0 eX11_read_84 ?_
            refine g_getI (ci := 10) (j := 10) rfl (Nat.le_of_ble_eq_true rfl) (Nat.le_of_ble_eq_true rfl) (Nat.le_of_ble_eq_true rfl) rfl fl_X11_49 eX11_read_85 ?_
            rw [hpb]
            refine g_aald (by decide) (Nat.le_of_ble_eq_true rfl) (progIx hq).1 (progIx hq).2 eX11_read_88 ?_
            refine g_callVi (ci := 3) (m_make ub hq hvb hnb hEl (fun e he => by have := hsk e he; exact ⟨by omega, by omega⟩) hmb h2 h13 hgal rfl hlenB hordB) (by first | rfl | exact kd_key hi | exact kd_sh hi | exact kd_ya hi | exact kd_pr hq | exact kd_pk hq | exact kd_pf hq | exact kd_ps hq | exact kd_po hq | exact kd_pr hq2 | exact kd_pk hq2 | exact kd_pf hq2 | exact kd_ps hq2 | exact kd_po hq2) (by first | decide | (unfold N0; omega)) (Nat.le_of_ble_eq_true rfl) rfl cv_X11_116 eX11_read_89 ⟨Nat.le_of_ble_eq_true rfl, Nat.le_of_ble_eq_true rfl⟩ rfl rfl (Nat.le_of_ble_eq_true rfl) (fun r u3 h => ?_)
            obtain ⟨hF3, h⟩ := h
            refine g_ist1 rfl (Nat.le_of_ble_eq_true rfl) eX11_read_92 ?_
            refine g_ald0 eX11_read_93 ?_
            refine g_ald0 eX11_read_94 ?_
            refine g_getR (ci := 10) (j := 4) rfl (Nat.le_of_ble_eq_true rfl) (Nat.le_of_ble_eq_true rfl) (Nat.le_of_ble_eq_true rfl) rfl rfl fl_X11_80 eX11_read_95 ?_
            refine g_getI (ci := 3) (j := 3) rfl (Nat.le_of_ble_eq_true rfl) (Nat.le_of_ble_eq_true rfl) (Nat.le_of_ble_eq_true rfl) rfl fl_X11_120 eX11_read_98 ?_
            refine g_putI (ci := 10) (j := 5) rfl rfl (Nat.le_of_ble_eq_true rfl) (Nat.le_of_ble_eq_true rfl) (Nat.le_of_ble_eq_true rfl) rfl fl_X11_23 eX11_read_101 ?_
            have hFc := (hFb.trans (rd_x hF3)).trans (rd_fp (q := q) u3 (u3.1 14 3))
            have hpc : (sI u3 0 5 (u3.1 14 3)).1 0 10 = nI q := by
              rw [sI_1, if_neg (by omega), hF3.1 0 (by omega) (by omega) (by omega) (by omega) (by omega) (by omega) (by omega) (by omega)]; exact hpb
            rcases eM : makL t (tkV B n) s.1 s.2.1 (x.1, [], [], []) with a | m
            · rw [eM] at h
              obtain ⟨rfl, hfp3⟩ := h
              have hR : redF t B n = .inl (6, tkP B n a) := by unfold redF; rw [eG]; dsimp only; rw [eS]; dsimp only; rw [eM]
              exact hbad _ 6 _ hFc hpc hR (by decide) (by decide) (by rw [sI_1, if_pos ⟨rfl, rfl⟩]; exact hfp3)
            · rw [eM] at h
              obtain ⟨rfl, hfp3, hms, hin⟩ := h
              have hR : redF t B n = .inr (x.2, m) := by unfold redF; rw [eG]; dsimp only; rw [eS]; dsimp only; rw [eM]
              refine hend _ 0 1 hFc hpc (fun _ => rfl) (fun z => absurd rfl z) ?_
              unfold rdPost
              rw [hR]
              have hrow : ∀ a, 90 < a → (sI (sI (sI u3 0 5 (u3.1 14 3)) 1 1 0) 0 10 (nI (q + 1))).1 a = u3.1 a := fun a ha => by rw [sI_row (by omega), sI_row (by omega), sI_row (by omega)]
              refine ⟨hen2 _ 1 hFc, ?_, rfl, ?_, ?_, ?_, ?_, ?_⟩
              · rw [sI_row (by decide), sI_1, if_pos ⟨rfl, rfl⟩]
              · rw [sI_1, if_neg (by omega), sI_row (by decide), sI_1, if_pos ⟨rfl, rfl⟩]; exact hfp3
              · rw [sI_1, if_pos ⟨rfl, rfl⟩]
              · rw [hrow _ (by omega)]; exact hin
              · unfold pgW
                rw [hrow _ (by omega), hrow _ (by omega), hrow _ (by omega), hrow _ (by omega)]
                exact hms.2.1.2.2.2
              · unfold ouOK
                rw [hrow _ (by omega), hrow _ (by omega)]
                exact hms.2.2.2.1
  · exact absurd (nI_lt (a := q) (b := 4) hq (by omega)) hb
end REDC
