/-! GRAMMAR: what it is (pure). A state: the token ahead, the orders, the events (0 an in, 1 a table, 2 a let's name, 3 a let's end, 4 a table asked, 5 a value) -/
abbrev GS : Type := Nat × List (Nat × Nat) × List (Nat × Nat)
abbrev GR : Type := (Nat × Nat) ⊕ GS
def gb (r : GR) (f : GS → GR) : GR := match r with
  | .inl e => .inl e
  | .inr s => f s
theorem gb_ok {r : GR} {s : GS} (h : r = .inr s) {f : GS → GR} : gb r f = f s := by rw [h]; rfl
theorem gb_no {r : GR} {e : Nat × Nat} (h : r = .inl e) {f : GS → GR} : gb r f = .inl e := by rw [h]; rfl
def psF (s : GS) : GR := if 300 ≤ s.1 then .inl (2, s.1) else .inr (s.1 + 1, s.2)
def tkF (K : Nat → Nat) (k : Nat) (s : GS) : GR := if K s.1 = k then psF s else .inl (1, s.1)
def wrF (o a : Nat) (s : GS) : GS := (s.1, s.2.1 ++ [(o, a)], s.2.2)
def gvF (g a : Nat) (s : GS) : GS := (s.1, s.2.1, s.2.2 ++ [(g, a)])
def prodL (K : Nat → Nat) (u : GS → GR) : Nat → GS → GR
  | 0, s => .inr s
  | f + 1, s => if K s.1 = 42 then gb (psF s) (fun s1 => gb (u s1) (fun s2 => prodL K u f (wrF 42 s2.1 s2))) else .inr s
def prodF (K : Nat → Nat) (u : GS → GR) (s : GS) : GR := gb (u s) (prodL K u 300)
def sumL (K : Nat → Nat) (p : GS → GR) : Nat → GS → GR
  | 0, s => .inr s
  | f + 1, s => if K s.1 = 43 ∨ K s.1 = 45 then gb (psF s) (fun s1 => gb (p s1) (fun s2 => sumL K p f (wrF (K s.1) s2.1 s2))) else .inr s
def sumF (K : Nat → Nat) (p : GS → GR) (s : GS) : GR := gb (p s) (sumL K p 300)
def unitF (K : Nat → Nat) : Nat → GS → GR
  | 0, s => if K s.1 = 2 then psF (gvF 5 s.1 (wrF 2 s.1 s)) else if K s.1 = 3 then psF (wrF 3 s.1 s) else if K s.1 = 40 ∨ K s.1 = 8 ∨ K s.1 = 9 then .inl (2, s.1) else .inl (1, s.1)
  | d + 1, s => if K s.1 = 2 then psF (gvF 5 s.1 (wrF 2 s.1 s)) else if K s.1 = 3 then psF (wrF 3 s.1 s)
    else if K s.1 = 40 then gb (psF s) (fun s1 => gb (sumF K (prodF K (unitF K d)) s1) (fun s2 => gb (tkF K 41 s2) .inr))
    else if K s.1 = 8 then gb (psF s) (fun s1 => gb (unitF K d s1) (fun s2 => gb (unitF K d s2) (fun s3 => gb (unitF K d s3) (fun s4 => .inr (wrF 8 s.1 s4)))))
    else if K s.1 = 9 then gb (psF s) (fun s1 => gb (tkF K 2 (gvF 4 s1.1 s1)) (fun s2 => gb (unitF K d s2) (fun s3 => .inr (wrF 9 (s.1 + 1) s3))))
    else .inl (1, s.1)
def exprF (K : Nat → Nat) (s : GS) : GR := sumF K (prodF K (unitF K 6)) s
def numsL (K : Nat → Nat) : Nat → GS → GR
  | 0, s => .inr s
  | f + 1, s => if K s.1 = 44 then gb (psF s) (fun s1 => gb (tkF K 3 s1) (numsL K f)) else .inr s
def numsF (K : Nat → Nat) (s : GS) : GR := gb (tkF K 3 s) (numsL K 300)
/-- a tell, and the numbers of ins, tables, outs behind it -/
abbrev CT : Type := Nat × Nat × Nat
def tellF (K : Nat → Nat) (c : CT) (s : GS) : GR :=
  if K s.1 = 4 then gb (if 6 < c.1 + 1 then .inl (2, s.1) else psF s) (fun s1 => gb (tkF K 2 (gvF 0 s1.1 s1)) (fun s2 => gb (tkF K 59 s2) .inr))
  else if K s.1 = 5 then gb (if 4 < c.2.1 + 1 then .inl (2, s.1) else psF s) (fun s1 => gb (tkF K 2 (gvF 1 s1.1 s1)) (fun s2 => gb (tkF K 58 s2) (fun s3 => gb (numsF K s3) (fun s4 => gb (tkF K 59 s4) .inr))))
  else if K s.1 = 6 then gb (psF s) (fun s1 => gb (tkF K 2 (gvF 2 s1.1 s1)) (fun s2 => gb (tkF K 61 s2) (fun s3 => gb (exprF K s3) (fun s4 => gb (tkF K 59 s4) (fun s5 => .inr (gvF 3 (s.1 + 1) (wrF 6 s.1 s5)))))))
  else if K s.1 = 7 then gb (if 4 < c.2.2 + 1 then .inl (2, s.1) else psF s) (fun s1 => gb (exprF K s1) (fun s2 => gb (tkF K 59 s2) (fun s3 => .inr (wrF 7 s.1 s3))))
  else .inl (1, s.1)
def ctF (k : Nat) (c : CT) : CT := (c.1 + (if k = 4 then 1 else 0), c.2.1 + (if k = 5 then 1 else 0), c.2.2 + (if k = 7 then 1 else 0))
def tellsL (K : Nat → Nat) : Nat → CT → GS → GR
  | 0, _, s => .inr s
  | f + 1, c, s => if K s.1 = 0 then .inr s else gb (tellF K c s) (tellsL K f (ctF (K s.1) c))
def gramF (K : Nat → Nat) : GR := tellsL K 301 (0, 0, 0) (0, [], [])
/-! the class -/
/-- the rows hold the tokens, up to the first that is bad or the end -/
def tvOK (K P : Nat → Nat) (st : St) : Prop := ∀ k, k ≤ 300 → (∀ j, j < k → K j ≠ 0 ∧ K j ≠ 1) → st.1 5 k = nI (K k) ∧ st.1 6 k = nI (P k) ∧ K k < 256
def gOK (K : Nat → Nat) (st : St) (s : GS) : Prop := st.1 3 5 = nI s.1 ∧ s.1 ≤ 300 ∧ (∀ j, j < s.1 → K j ≠ 0 ∧ K j ≠ 1) ∧ (st.1 3 3 = nI (min s.2.1.length 300) ∧ st.1 3 9 = 0 ∧ st.1 3 4 = -1) ∧ ∀ j, j < s.2.1.length → j < 300 → st.1 8 j = nI (s.2.1.getD j (0, 0)).1 ∧ st.1 9 j = nI (s.2.1.getD j (0, 0)).2
def gFr (st u : St) : Prop := (∀ a, a ≠ 3 → a ≠ 8 → a ≠ 9 → u.1 a = st.1 a) ∧ u.2 = st.2 ∧ u.1 3 6 = st.1 3 6 ∧ u.1 3 7 = st.1 3 7 ∧ u.1 3 8 = st.1 3 8
theorem gFr.refl (st : St) : gFr st st := ⟨fun _ _ _ _ => rfl, rfl, rfl, rfl, rfl⟩
theorem gFr.trans {a b c : St} (h1 : gFr a b) (h2 : gFr b c) : gFr a c := ⟨fun k h3 h8 h9 => (h2.1 k h3 h8 h9).trans (h1.1 k h3 h8 h9), h2.2.1.trans h1.2.1, h2.2.2.1.trans h1.2.2.1, h2.2.2.2.1.trans h1.2.2.2.1, h2.2.2.2.2.trans h1.2.2.2.2⟩
theorem tv_fr {K P : Nat → Nat} {st u : St} (h : tvOK K P st) (hf : gFr st u) : tvOK K P u := by
  intro k hk hj
  rw [hf.1 5 (by decide) (by decide) (by decide), hf.1 6 (by decide) (by decide) (by decide)]
  exact h k hk hj
def gBad (P : Nat → Nat) (u : St) (e : Nat × Nat) : Prop := u.1 3 9 = nI e.1 ∧ u.1 3 4 = nI (P e.2)
def gPost (K P : Nat → Nat) (st : St) (R : GR) (r : Int32) (u : St) : Prop := match R with
  | .inl e => gFr st u ∧ r = 0 ∧ gBad P u e
  | .inr s => gFr st u ∧ r = 1 ∧ gOK K u s
theorem gfail {K P : Nat → Nat} {st u : St} {R : GR} {e : Nat × Nat} (h : R = .inl e) (hf : gFr st u) (hb : gBad P u e) : gPost K P st R 0 u := by
  subst h
  exact ⟨hf, rfl, hb⟩
theorem gwell {K P : Nat → Nat} {st u : St} {R : GR} {s : GS} (h : R = .inr s) (hf : gFr st u) (hb : gOK K u s) : gPost K P st R 1 u := by
  subst h
  exact ⟨hf, rfl, hb⟩
theorem gthen {K P : Nat → Nat} {st u w : St} {R : GR} {r : Int32} (hf : gFr st u) (h : gPost K P u R r w) : gPost K P st R r w := by
  cases R with
  | inl e => exact ⟨hf.trans h.1, h.2⟩
  | inr s => exact ⟨hf.trans h.1, h.2⟩
theorem gbool {K P : Nat → Nat} {st u : St} {R : GR} {r : Int32} (h : gPost K P st R r u) : narrow .boolean (.int r) = .int r := by
  cases R with
  | inl e => rw [h.2.1]; rfl
  | inr s => rw [h.2.1]; rfl
theorem gev {K : Nat → Nat} {st : St} {s : GS} (h : gOK K st s) (g a : Nat) : gOK K st (gvF g a s) := h
/-- a field of the grammar other than its counts -/
theorem gFr_put (st : St) (j : Nat) (x : Int32) (h : j = 3 ∨ j = 4 ∨ j = 5 ∨ j = 9) : gFr st (sI st 3 j x) := by
  refine ⟨fun a h3 _ _ => sI_row h3, rfl, ?_, ?_, ?_⟩
  · rw [sI_1, if_neg (by omega)]
  · rw [sI_1, if_neg (by omega)]
  · rw [sI_1, if_neg (by omega)]
theorem gFr_row (st : St) (k j : Nat) (x : Int32) (h : k = 8 ∨ k = 9) : gFr st (sI st k j x) := by
  refine ⟨fun a h3 h8 h9 => sI_row (by omega), rfl, ?_, ?_, ?_⟩
  · rw [sI_row (by omega)]
  · rw [sI_row (by omega)]
  · rw [sI_row (by omega)]
theorem sI_at (st : St) (k j : Nat) (x : Int32) (b : Nat) : (sI st k j x).1 k b = if b = j then x else st.1 k b := by
  rw [sI_1]
  by_cases h : b = j
  · rw [if_pos ⟨rfl, h⟩, if_pos h]
  · rw [if_neg (fun q => h q.2), if_neg h]
section GRAMC
variable {l : Launch} {D : va_G} {cy : Nat → ClassId}
theorem m_now (st : St) {K P : Nat → Nat} {s : GS} (hv : tvOK K P st) (hg : gOK K st s) : Mi l D cy 0 YX1_now [.ref 3] st (fun r u => u = st ∧ r = nI (K s.1)) := by
  obtain ⟨h1, h2, h3, h4, h5⟩ := hg
  refine M.ofG [some (.ref 3)] (by decide) (Nat.le_of_ble_eq_true rfl) rfl ?_
  intro xp xe xs xm xa xb xme xc xad xA
  refine g_ald0 eX1_now_0 ?_
  refine g_getR (ci := 1) (j := 0) rfl (Nat.le_of_ble_eq_true rfl) (Nat.le_of_ble_eq_true rfl) (Nat.le_of_ble_eq_true rfl) rfl rfl fl_X1_12 eX1_now_1 ?_
  refine g_getR (ci := 9) (j := 0) rfl (Nat.le_of_ble_eq_true rfl) (Nat.le_of_ble_eq_true rfl) (Nat.le_of_ble_eq_true rfl) rfl rfl fl_X1_59 eX1_now_4 ?_
  refine g_ald0 eX1_now_7 ?_
  refine g_getI (ci := 1) (j := 5) rfl (Nat.le_of_ble_eq_true rfl) (Nat.le_of_ble_eq_true rfl) (Nat.le_of_ble_eq_true rfl) rfl fl_X1_32 eX1_now_8 ?_
  rw [h1]
  refine g_iald rfl (Nat.le_of_ble_eq_true rfl) (vp_in_nI (n := s.1) (N := 302) (by omega) (by decide)) eX1_now_11 ?_
  rw [nI_clamp (by omega), (hv s.1 h2 h3).1]
  exact g_iret rfl eX1_now_12 ⟨_, rfl, ⟨rfl, rfl⟩⟩
theorem m_refuse (st : St) {K P : Nat → Nat} {s : GS} (hv : tvOK K P st) (hg : gOK K st s) (f : Nat) : Mi l D cy 0 YX1_refuse [.ref 3, .int (nI f)] st (gPost K P st (.inl (f, s.1))) := by
  obtain ⟨h1, h2, h3, h4, h5⟩ := hg
  refine M.ofG [some (.ref 3), some (.int (nI f))] (by decide) (Nat.le_of_ble_eq_true rfl) rfl ?_
  intro xp xe xs xm xa xb xme xc xad xA
  refine g_ald0 eX1_refuse_0 ?_
  refine g_ild1 eX1_refuse_1 ?_
  refine g_putI (ci := 1) (j := 9) rfl rfl (Nat.le_of_ble_eq_true rfl) (Nat.le_of_ble_eq_true rfl) (Nat.le_of_ble_eq_true rfl) rfl fl_X1_44 eX1_refuse_2 ?_
  refine g_ald0 eX1_refuse_5 ?_
  refine g_ald0 eX1_refuse_6 ?_
  refine g_getR (ci := 1) (j := 0) rfl (Nat.le_of_ble_eq_true rfl) (Nat.le_of_ble_eq_true rfl) (Nat.le_of_ble_eq_true rfl) rfl rfl fl_X1_12 eX1_refuse_7 ?_
  refine g_getR (ci := 9) (j := 1) rfl (Nat.le_of_ble_eq_true rfl) (Nat.le_of_ble_eq_true rfl) (Nat.le_of_ble_eq_true rfl) rfl rfl fl_X1_62 eX1_refuse_10 ?_
  refine g_ald0 eX1_refuse_13 ?_
  refine g_getI (ci := 1) (j := 5) rfl (Nat.le_of_ble_eq_true rfl) (Nat.le_of_ble_eq_true rfl) (Nat.le_of_ble_eq_true rfl) rfl fl_X1_32 eX1_refuse_14 ?_
  rw [show (sI st 3 9 (nI f)).1 3 5 = nI s.1 from h1]
  refine g_iald rfl (Nat.le_of_ble_eq_true rfl) (vp_in_nI (n := s.1) (N := 302) (by omega) (by decide)) eX1_refuse_17 ?_
  rw [nI_clamp (by omega), show (sI st 3 9 (nI f)).1 6 s.1 = nI (P s.1) from (hv s.1 h2 h3).2.1]
  refine g_putI (ci := 1) (j := 4) rfl rfl (Nat.le_of_ble_eq_true rfl) (Nat.le_of_ble_eq_true rfl) (Nat.le_of_ble_eq_true rfl) rfl fl_X1_29 eX1_refuse_18 ?_
  refine g_iconst (v := 0) (by decide) eX1_refuse_21 ?_
  refine g_zret (ty := .boolean) rfl (by first | rfl | assumption) eX1_refuse_22 ⟨_, rfl, ?_⟩
  try dsimp only
  refine ⟨(gFr_put _ _ _ (by omega)).trans (gFr_put _ _ _ (by omega)), rfl, ?_, ?_⟩
  · rw [sI_1, if_neg (by omega), sI_1, if_pos ⟨rfl, rfl⟩]
  · rw [sI_1, if_pos ⟨rfl, rfl⟩]
theorem m_pass (st : St) {K P : Nat → Nat} {s : GS} (hv : tvOK K P st) (hg : gOK K st s) (h0 : K s.1 ≠ 0 ∧ K s.1 ≠ 1) : Mi l D cy 0 YX1_pass [.ref 3] st (gPost K P st (psF s)) := by
  obtain ⟨h1, h2, h3, h4, h5⟩ := hg
  refine M.ofG [some (.ref 3)] (by decide) (Nat.le_of_ble_eq_true rfl) rfl ?_
  intro xp xe xs xm xa xb xme xc xad xA
  unfold psF
  refine g_ald0 eX1_pass_0 ?_
  refine g_getI (ci := 1) (j := 5) rfl (Nat.le_of_ble_eq_true rfl) (Nat.le_of_ble_eq_true rfl) (Nat.le_of_ble_eq_true rfl) rfl fl_X1_32 eX1_pass_1 ?_
  rw [h1]
  refine g_sipush (v := 300) (by decide) eX1_pass_4 ?_
  refine g_icmp_lt eX1_pass_7 (fun hb => ?_) (fun hb => ?_)
  · rw [show (300 : Int32) = nI 300 from rfl, nI_ltI (by omega) (by omega)] at hb
    rw [if_neg (by omega)]
    refine g_ald0 eX1_pass_33 ?_
    refine g_dup rfl eX1_pass_34 ?_
    refine g_getI (ci := 1) (j := 5) rfl (Nat.le_of_ble_eq_true rfl) (Nat.le_of_ble_eq_true rfl) (Nat.le_of_ble_eq_true rfl) rfl fl_X1_32 eX1_pass_35 ?_
    rw [h1]
    refine g_iconst (v := 1) (by decide) eX1_pass_38 ?_
    refine g_iadd eX1_pass_39 ?_
    refine g_putI (ci := 1) (j := 5) rfl rfl (Nat.le_of_ble_eq_true rfl) (Nat.le_of_ble_eq_true rfl) (Nat.le_of_ble_eq_true rfl) rfl fl_X1_32 eX1_pass_40 ?_
    refine g_iconst (v := 1) (by decide) eX1_pass_43 ?_
    rw [show nI s.1 + 1 = nI (s.1 + 1) from nI_1 s.1]
    refine g_zret (ty := .boolean) rfl (by first | rfl | assumption) eX1_pass_44 ⟨_, rfl, ?_⟩
    try dsimp only
    refine ⟨gFr_put _ _ _ (by omega), rfl, ?_, ?_, fun j hj => ?_, ?_, fun j hj hj2 => ?_⟩
    · rw [sI_1, if_pos ⟨rfl, rfl⟩]
    · show s.1 + 1 ≤ 300
      omega
    · by_cases e : j = s.1
      · rw [e]; exact h0
      · exact h3 j (by have : j < s.1 + 1 := hj; omega)
    · exact ⟨by rw [sI_1, if_neg (by omega)]; exact h4.1, by rw [sI_1, if_neg (by omega)]; exact h4.2.1, by rw [sI_1, if_neg (by omega)]; exact h4.2.2⟩
    · exact h5 j hj hj2
  · rw [show (300 : Int32) = nI 300 from rfl, nI_ltI (by omega) (by omega)] at hb
    rw [if_pos (by omega)]
    refine g_ald0 eX1_pass_10 ?_
    refine g_iconst (v := 2) (by decide) eX1_pass_11 ?_
    refine g_putI (ci := 1) (j := 9) rfl rfl (Nat.le_of_ble_eq_true rfl) (Nat.le_of_ble_eq_true rfl) (Nat.le_of_ble_eq_true rfl) rfl fl_X1_44 eX1_pass_12 ?_
    refine g_ald0 eX1_pass_15 ?_
    refine g_ald0 eX1_pass_16 ?_
    refine g_getR (ci := 1) (j := 0) rfl (Nat.le_of_ble_eq_true rfl) (Nat.le_of_ble_eq_true rfl) (Nat.le_of_ble_eq_true rfl) rfl rfl fl_X1_12 eX1_pass_17 ?_
    refine g_getR (ci := 9) (j := 1) rfl (Nat.le_of_ble_eq_true rfl) (Nat.le_of_ble_eq_true rfl) (Nat.le_of_ble_eq_true rfl) rfl rfl fl_X1_62 eX1_pass_20 ?_
    refine g_ald0 eX1_pass_23 ?_
    refine g_getI (ci := 1) (j := 5) rfl (Nat.le_of_ble_eq_true rfl) (Nat.le_of_ble_eq_true rfl) (Nat.le_of_ble_eq_true rfl) rfl fl_X1_32 eX1_pass_24 ?_
    rw [show (sI st 3 9 2).1 3 5 = nI s.1 from h1]
    refine g_iald rfl (Nat.le_of_ble_eq_true rfl) (vp_in_nI (n := s.1) (N := 302) (by omega) (by decide)) eX1_pass_27 ?_
    rw [nI_clamp (by omega), show (sI st 3 9 2).1 6 s.1 = nI (P s.1) from (hv s.1 h2 h3).2.1]
    refine g_putI (ci := 1) (j := 4) rfl rfl (Nat.le_of_ble_eq_true rfl) (Nat.le_of_ble_eq_true rfl) (Nat.le_of_ble_eq_true rfl) rfl fl_X1_29 eX1_pass_28 ?_
    refine g_iconst (v := 0) (by decide) eX1_pass_31 ?_
    refine g_zret (ty := .boolean) rfl (by first | rfl | assumption) eX1_pass_32 ⟨_, rfl, ?_⟩
    try dsimp only
    refine ⟨(gFr_put _ _ _ (by omega)).trans (gFr_put _ _ _ (by omega)), rfl, ?_, ?_⟩
    · rw [sI_1, if_neg (by omega), sI_1, if_pos ⟨rfl, rfl⟩]; rfl
    · rw [sI_1, if_pos ⟨rfl, rfl⟩]
theorem m_take (st : St) {K P : Nat → Nat} {s : GS} (hv : tvOK K P st) (hg : gOK K st s) (k : Nat) (hk : 1 < k) (hk2 : k < 256) : Mi l D cy 1 YX1_take [.ref 3, .int (nI k)] st (gPost K P st (tkF K k s)) := by
  have h9 := (hv s.1 hg.2.1 hg.2.2.1).2.2
  refine M.ofG [some (.ref 3), some (.int (nI k))] (by decide) (Nat.le_of_ble_eq_true rfl) rfl ?_
  intro xp xe xs xm xa xb xme xc xad xA
  unfold tkF
  refine g_ald0 eX1_take_0 ?_
  refine g_callVi (ci := 1) (m_now st hv hg) rfl (Nat.le_of_ble_eq_true rfl) (Nat.le_of_ble_eq_true rfl) rfl cv_X1_51 eX1_take_1 ⟨Nat.le_of_ble_eq_true rfl, Nat.le_of_ble_eq_true rfl⟩ rfl rfl (Nat.le_of_ble_eq_true rfl) (fun r u h => ?_)
  obtain ⟨rfl, rfl⟩ := h
  refine g_ild1 eX1_take_4 ?_
  refine g_icmp_ne eX1_take_5 (fun hb => ?_) (fun hb => ?_)
  · rw [nI_eq (by omega) (by omega)] at hb
    rw [if_neg hb]
    refine g_ald0 eX1_take_15 ?_
    refine g_iconst (v := 1) (by decide) eX1_take_16 ?_
    refine g_callVi (ci := 1) (m_refuse u hv hg 1) rfl (Nat.le_of_ble_eq_true rfl) (Nat.le_of_ble_eq_true rfl) rfl cv_X1_68 eX1_take_17 ⟨Nat.le_of_ble_eq_true rfl, Nat.le_of_ble_eq_true rfl⟩ rfl rfl (Nat.le_of_ble_eq_true rfl) (fun r u2 h => ?_)
    have hz := gbool h
    exact g_zret (ty := .boolean) rfl (by first | rfl | assumption) eX1_take_20 ⟨_, rfl, h⟩
  · have hb2 : K s.1 = k := (nI_eq (by omega) (by omega)).mp hb
    rw [if_pos hb2]
    refine g_ald0 eX1_take_8 ?_
    refine g_callVi (ci := 1) (m_pass u hv hg (by omega)) rfl (Nat.le_of_ble_eq_true rfl) (Nat.le_of_ble_eq_true rfl) rfl cv_X1_65 eX1_take_9 ⟨Nat.le_of_ble_eq_true rfl, Nat.le_of_ble_eq_true rfl⟩ rfl rfl (Nat.le_of_ble_eq_true rfl) (fun r u2 h => ?_)
    have hz := gbool h
    refine g_goto eX1_take_12 ?_
    exact g_zret (ty := .boolean) rfl (by first | rfl | assumption) eX1_take_20 ⟨_, rfl, h⟩
theorem getD_app {α : Type} (l : List α) (x d : α) (j : Nat) : (l ++ [x]).getD j d = if j < l.length then l.getD j d else if j = l.length then x else d := by
  rw [List.getD_eq_getElem?_getD, List.getElem?_append]
  split
  · rw [List.getD_eq_getElem?_getD]
  · split
    · rename_i h1 h2
      rw [h2]; simp
    · rw [List.getElem?_eq_none (by simp; omega)]; rfl
theorem m_writeDown (st : St) {K : Nat → Nat} {s : GS} (hg : gOK K st s) (o a : Nat) : Mi l D cy 0 YX1_writeDown [.ref 3, .int (nI o), .int (nI a)] st (fun r u => gFr st u ∧ r = 1 ∧ gOK K u (wrF o a s)) := by
  obtain ⟨h1, h2, h3, ⟨h4, h46, h47⟩, h5⟩ := hg
  have hlen : (wrF o a s).2.1.length = s.2.1.length + 1 := by unfold wrF; simp
  refine M.ofG [some (.ref 3), some (.int (nI o)), some (.int (nI a))] (by decide) (Nat.le_of_ble_eq_true rfl) rfl ?_
  intro xp xe xs xm xa xb xme xc xad xA
  refine g_ald0 eX1_writeDown_0 ?_
  refine g_getI (ci := 1) (j := 3) rfl (Nat.le_of_ble_eq_true rfl) (Nat.le_of_ble_eq_true rfl) (Nat.le_of_ble_eq_true rfl) rfl fl_X1_25 eX1_writeDown_1 ?_
  rw [h4]
  refine g_ald0 eX1_writeDown_4 ?_
  refine g_getR (ci := 1) (j := 1) rfl (Nat.le_of_ble_eq_true rfl) (Nat.le_of_ble_eq_true rfl) (Nat.le_of_ble_eq_true rfl) rfl rfl fl_X1_18 eX1_writeDown_5 ?_
  refine g_alen (by first | decide | (rw [kd_ya hi]; decide)) (by first | decide | (rw [kd_ya hi]; decide)) (Nat.le_of_ble_eq_true rfl) rfl eX1_writeDown_8 ?_
  refine g_icmp_ge eX1_writeDown_9 (fun hb => ?_) (fun hb => ?_)
  · rw [show Int32.ofNat (ln 8) = nI 300 from rfl, nI_leI (by omega) (by omega)] at hb
    refine g_iconst (v := 1) (by decide) eX1_writeDown_42 ?_
    refine g_zret (ty := .boolean) rfl (by first | rfl | assumption) eX1_writeDown_43 ⟨_, rfl, ?_⟩
    try dsimp only
    refine ⟨gFr.refl _, rfl, h1, h2, h3, ?_, fun j hj hj2 => ?_⟩
    · refine ⟨?_, h46, h47⟩
      rw [hlen, h4]
      congr 1
      omega
    · have e : (wrF o a s).2.1.getD j (0, 0) = s.2.1.getD j (0, 0) := by
        show (s.2.1 ++ [(o, a)]).getD j (0, 0) = _
        rw [getD_app, if_pos (by omega)]
      rw [e]
      exact h5 j (by omega) hj2
  · rw [show Int32.ofNat (ln 8) = nI 300 from rfl, nI_leI (by omega) (by omega)] at hb
    have hl : min s.2.1.length 300 = s.2.1.length := by omega
    rw [hl] at h4
    have hcl : (nI s.2.1.length).toNatClampNeg = s.2.1.length := nI_clamp (by omega)
    have hin : vp_in (nI s.2.1.length) 300 := vp_in_nI (by omega) (by decide)
    refine g_ald0 eX1_writeDown_12 ?_
    refine g_getR (ci := 1) (j := 1) rfl (Nat.le_of_ble_eq_true rfl) (Nat.le_of_ble_eq_true rfl) (Nat.le_of_ble_eq_true rfl) rfl rfl fl_X1_18 eX1_writeDown_13 ?_
    refine g_ald0 eX1_writeDown_16 ?_
    refine g_getI (ci := 1) (j := 3) rfl (Nat.le_of_ble_eq_true rfl) (Nat.le_of_ble_eq_true rfl) (Nat.le_of_ble_eq_true rfl) rfl fl_X1_25 eX1_writeDown_17 ?_
    rw [h4]
    refine g_ild1 eX1_writeDown_20 ?_
    refine g_iast rfl (Nat.le_of_ble_eq_true rfl) hin eX1_writeDown_21 ?_
    refine g_ald0 eX1_writeDown_22 ?_
    refine g_getR (ci := 1) (j := 2) rfl (Nat.le_of_ble_eq_true rfl) (Nat.le_of_ble_eq_true rfl) (Nat.le_of_ble_eq_true rfl) rfl rfl fl_X1_22 eX1_writeDown_23 ?_
    refine g_ald0 eX1_writeDown_26 ?_
    refine g_getI (ci := 1) (j := 3) rfl (Nat.le_of_ble_eq_true rfl) (Nat.le_of_ble_eq_true rfl) (Nat.le_of_ble_eq_true rfl) rfl fl_X1_25 eX1_writeDown_27 ?_
    rw [hcl, show (sI st 8 s.2.1.length (nI o)).1 3 3 = nI s.2.1.length from h4]
    refine g_ild2 eX1_writeDown_30 ?_
    refine g_iast rfl (Nat.le_of_ble_eq_true rfl) hin eX1_writeDown_31 ?_
    refine g_ald0 eX1_writeDown_32 ?_
    refine g_dup rfl eX1_writeDown_33 ?_
    refine g_getI (ci := 1) (j := 3) rfl (Nat.le_of_ble_eq_true rfl) (Nat.le_of_ble_eq_true rfl) (Nat.le_of_ble_eq_true rfl) rfl fl_X1_25 eX1_writeDown_34 ?_
    rw [hcl, show (sI (sI st 8 s.2.1.length (nI o)) 9 s.2.1.length (nI a)).1 3 3 = nI s.2.1.length from h4]
    refine g_iconst (v := 1) (by decide) eX1_writeDown_37 ?_
    refine g_iadd eX1_writeDown_38 ?_
    refine g_putI (ci := 1) (j := 3) rfl rfl (Nat.le_of_ble_eq_true rfl) (Nat.le_of_ble_eq_true rfl) (Nat.le_of_ble_eq_true rfl) rfl fl_X1_25 eX1_writeDown_39 ?_
    refine g_iconst (v := 1) (by decide) eX1_writeDown_42 ?_
    rw [show nI s.2.1.length + 1 = nI (s.2.1.length + 1) from nI_1 _]
    refine g_zret (ty := .boolean) rfl (by first | rfl | assumption) eX1_writeDown_43 ⟨_, rfl, ?_⟩
    try dsimp only
    refine ⟨((gFr_row _ _ _ _ (by omega)).trans (gFr_row _ _ _ _ (by omega))).trans (gFr_put _ _ _ (by omega)), rfl, ?_, h2, h3, ?_, fun j hj hj2 => ?_⟩
    · rw [sI_1, if_neg (by omega)]; exact h1
    · refine ⟨?_, by rw [sI_1, if_neg (by omega)]; exact h46, by rw [sI_1, if_neg (by omega)]; exact h47⟩
      rw [sI_1, if_pos ⟨rfl, rfl⟩, hlen]
      congr 1
      omega
    · rw [sI_row (a := 8) (by decide), sI_row (a := 8) (by decide), sI_at, sI_row (a := 9) (by decide), sI_at, sI_row (a := 9) (by decide)]
      show _ = nI ((s.2.1 ++ [(o, a)]).getD j (0, 0)).1 ∧ _ = nI ((s.2.1 ++ [(o, a)]).getD j (0, 0)).2
      rw [getD_app]
      by_cases e : j = s.2.1.length
      · rw [if_pos e, if_pos e, if_neg (by omega), if_pos e]
        exact ⟨rfl, rfl⟩
      · rw [if_neg e, if_neg e, if_neg e, if_pos (by omega)]
        exact h5 j (by omega) hj2
theorem m_wordWithin (st : St) {K P : Nat → Nat} {s : GS} (hv : tvOK K P st) (hg : gOK K st s) (h0 : K s.1 ≠ 0 ∧ K s.1 ≠ 1) (c m : Nat) (hc : c < 1000) (hm : m < 1000) : Mi l D cy 1 YX1_wordWithin [.ref 3, .int (nI c), .int (nI m)] st (gPost K P st (if m < c then .inl (2, s.1) else psF s)) := by
  refine M.ofG [some (.ref 3), some (.int (nI c)), some (.int (nI m))] (by decide) (Nat.le_of_ble_eq_true rfl) rfl ?_
  intro xp xe xs xm xa xb xme xc xad xA
  refine g_ild1 eX1_wordWithin_0 ?_
  refine g_ild2 eX1_wordWithin_1 ?_
  refine g_icmp_le eX1_wordWithin_2 (fun hb => ?_) (fun hb => ?_)
  · rw [nI_leI (by omega) (by omega)] at hb
    rw [if_neg (by omega)]
    refine g_ald0 eX1_wordWithin_13 ?_
    refine g_callVi (ci := 1) (m_pass st hv hg h0) rfl (Nat.le_of_ble_eq_true rfl) (Nat.le_of_ble_eq_true rfl) rfl cv_X1_65 eX1_wordWithin_14 ⟨Nat.le_of_ble_eq_true rfl, Nat.le_of_ble_eq_true rfl⟩ rfl rfl (Nat.le_of_ble_eq_true rfl) (fun r u2 h => ?_)
    have hz := gbool h
    exact g_zret (ty := .boolean) rfl (by first | rfl | assumption) eX1_wordWithin_17 ⟨_, rfl, h⟩
  · rw [nI_leI (by omega) (by omega)] at hb
    rw [if_pos (by omega)]
    refine g_ald0 eX1_wordWithin_5 ?_
    refine g_iconst (v := 2) (by decide) eX1_wordWithin_6 ?_
    refine g_callVi (ci := 1) (m_refuse st hv hg 2) rfl (Nat.le_of_ble_eq_true rfl) (Nat.le_of_ble_eq_true rfl) rfl cv_X1_68 eX1_wordWithin_7 ⟨Nat.le_of_ble_eq_true rfl, Nat.le_of_ble_eq_true rfl⟩ rfl rfl (Nat.le_of_ble_eq_true rfl) (fun r u2 h => ?_)
    have hz := gbool h
    refine g_goto eX1_wordWithin_10 ?_
    exact g_zret (ty := .boolean) rfl (by first | rfl | assumption) eX1_wordWithin_17 ⟨_, rfl, h⟩
theorem m_goWithin (st : St) {K P : Nat → Nat} {s : GS} (hv : tvOK K P st) (hg : gOK K st s) (h0 : K s.1 ≠ 0 ∧ K s.1 ≠ 1) (d : Nat) (hd : d ≤ 6) : Mi l D cy 1 YX1_goWithin [.ref 3, .int (nI (6 - d))] st (gPost K P st (if d = 0 then .inl (2, s.1) else psF s)) := by
  refine M.ofG [some (.ref 3), some (.int (nI (6 - d)))] (by decide) (Nat.le_of_ble_eq_true rfl) rfl ?_
  intro xp xe xs xm xa xb xme xc xad xA
  refine g_ild1 eX1_goWithin_0 ?_
  refine g_bipush (v := 6) (by decide) eX1_goWithin_1 ?_
  refine g_icmp_lt eX1_goWithin_3 (fun hb => ?_) (fun hb => ?_)
  · rw [show (6 : Int32) = nI 6 from rfl, nI_ltI (by omega) (by omega)] at hb
    rw [if_neg (by omega)]
    refine g_ald0 eX1_goWithin_14 ?_
    refine g_callVi (ci := 1) (m_pass st hv hg h0) rfl (Nat.le_of_ble_eq_true rfl) (Nat.le_of_ble_eq_true rfl) rfl cv_X1_65 eX1_goWithin_15 ⟨Nat.le_of_ble_eq_true rfl, Nat.le_of_ble_eq_true rfl⟩ rfl rfl (Nat.le_of_ble_eq_true rfl) (fun r u2 h => ?_)
    have hz := gbool h
    exact g_zret (ty := .boolean) rfl (by first | rfl | assumption) eX1_goWithin_18 ⟨_, rfl, h⟩
  · rw [show (6 : Int32) = nI 6 from rfl, nI_ltI (by omega) (by omega)] at hb
    rw [if_pos (by omega)]
    refine g_ald0 eX1_goWithin_6 ?_
    refine g_iconst (v := 2) (by decide) eX1_goWithin_7 ?_
    refine g_callVi (ci := 1) (m_refuse st hv hg 2) rfl (Nat.le_of_ble_eq_true rfl) (Nat.le_of_ble_eq_true rfl) rfl cv_X1_68 eX1_goWithin_8 ⟨Nat.le_of_ble_eq_true rfl, Nat.le_of_ble_eq_true rfl⟩ rfl rfl (Nat.le_of_ble_eq_true rfl) (fun r u2 h => ?_)
    have hz := gbool h
    refine g_goto eX1_goWithin_11 ?_
    exact g_zret (ty := .boolean) rfl (by first | rfl | assumption) eX1_goWithin_18 ⟨_, rfl, h⟩
end GRAMC
