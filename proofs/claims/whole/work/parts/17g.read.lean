/-! READ: the class makes, and reads -/
section MAKG
variable {l : Launch} {D : va_G} {cy : Nat → ClassId} {t : Nat} {K P V : Nat → Nat} {cnt : Nat}
def xFr (q : Nat) (st u : St) : Prop := (∀ a, a ≠ 13 → a ≠ 14 → a ≠ 15 → a ≠ 95 + 5 * q → a ≠ 96 + 5 * q → a ≠ 97 + 5 * q → a ≠ 98 + 5 * q → a ≠ 99 + 5 * q → u.1 a = st.1 a) ∧ u.2 = st.2 ∧ u.1 14 0 = st.1 14 0
theorem xFr.trans {q : Nat} {a b c : St} (h1 : xFr q a b) (h2 : xFr q b c) : xFr q a c := ⟨fun k x1 x2 x3 x4 x5 x6 x7 x8 => (h2.1 k x1 x2 x3 x4 x5 x6 x7 x8).trans (h1.1 k x1 x2 x3 x4 x5 x6 x7 x8), h2.2.1.trans h1.2.1, h2.2.2.trans h1.2.2⟩
theorem xFr_m {q : Nat} {a b : St} (h : mFr q a b) : xFr q a b := ⟨h.1, h.2.1, h.2.2.1⟩
def mePost (t q : Nat) (P : Nat → Nat) (st : St) (ins : Nat) (R : Nat ⊕ MS) (r : Int32) (u : St) : Prop := xFr q st u ∧ match R with
  | .inl a => r = 6 ∧ u.1 14 3 = nI (P a)
  | .inr m => r = 0 ∧ u.1 14 3 = -1 ∧ msOK t q u m ∧ u.1 (95 + 5 * q) 4 = nI ins
theorem m_make (st : St) {q : Nat} (hq : q < 4) (hv : nvOK K P V cnt st) {E : List NE} {ins : Nat} (hn : nuOK t st E ins) (hE : E.length ≤ 300) (hEr : ∀ e ∈ E, okc t e.2.2) (ht : st.1 14 0 = nI t) (h2 : 2 ≤ t) (h13 : t ≤ 13) {s : GS} (hs : gal s) (hsc : s.1 = cnt) (hlen : st.1 3 3 = nI s.2.1.length) (hord : ∀ j, j < s.2.1.length → st.1 8 j = nI (s.2.1.getD j (0, 0)).1 ∧ st.1 9 j = nI (s.2.1.getD j (0, 0)).2) : Mi l D cy 6 YX3_make [.ref 14, .ref 3, .ref 10, .ref (95 + 5 * q)] st (mePost t q P st ins (makL t V cnt s.2.1 (E, [], [], []))) := by
  have hl3 : s.2.1.length ≤ 300 := by have := hs.1; have := hs.2.1; omega
  have h300 := hv.2.1
  generalize hR : makL t V cnt s.2.1 (E, [], [], []) = R
  refine M.ofG [some (.ref 14), some (.ref 3), some (.ref 10), some (.ref (95 + 5 * q)), none, none, none] (by decide) (Nat.le_of_ble_eq_true rfl) rfl ?_
  intro xp xe xs xm xa xb xme xc xad xA
  refine g_ald3 eX3_make_0 ?_
  refine g_ald2 eX3_make_1 ?_
  refine g_getI (ci := 4) (j := 5) (by first | rfl | exact kd_key hi | exact kd_sh hi | exact kd_ya hi | exact kd_pr hq | exact kd_pk hq | exact kd_pf hq | exact kd_ps hq | exact kd_po hq | exact kd_pr hq2 | exact kd_pk hq2 | exact kd_pf hq2 | exact kd_ps hq2 | exact kd_po hq2) (by first | decide | (unfold N0; omega)) (Nat.le_of_ble_eq_true rfl) (Nat.le_of_ble_eq_true rfl) rfl fl_X3_27 eX3_make_2 ?_
  rw [hn.2.1]
  refine g_callVv (ci := 6) (m_startAfresh st hq (nI ins)) (by first | rfl | exact kd_key hi | exact kd_sh hi | exact kd_ya hi | exact kd_pr hq | exact kd_pk hq | exact kd_pf hq | exact kd_ps hq | exact kd_po hq | exact kd_pr hq2 | exact kd_pk hq2 | exact kd_pf hq2 | exact kd_ps hq2 | exact kd_po hq2) (by first | decide | (unfold N0; omega)) (Nat.le_of_ble_eq_true rfl) rfl cv_X3_32 eX3_make_5 ⟨Nat.le_of_ble_eq_true rfl, Nat.le_of_ble_eq_true rfl⟩ rfl rfl (Nat.le_of_ble_eq_true rfl) (fun u h => ?_)
  subst h
  refine g_ald0 eX3_make_8 ?_
  refine g_iconst (v := 0) (by decide) eX3_make_9 ?_
  refine g_putI (ci := 3) (j := 2) rfl (by first | rfl | exact kd_key hi | exact kd_sh hi | exact kd_ya hi | exact kd_pr hq | exact kd_pk hq | exact kd_pf hq | exact kd_ps hq | exact kd_po hq | exact kd_pr hq2 | exact kd_pk hq2 | exact kd_pf hq2 | exact kd_ps hq2 | exact kd_po hq2) (by first | decide | (unfold N0; omega)) (Nat.le_of_ble_eq_true rfl) (Nat.le_of_ble_eq_true rfl) rfl fl_X3_17 eX3_make_10 ?_
  refine g_ald0 eX3_make_13 ?_
  refine g_iconst (v := (-1)) (by decide) eX3_make_14 ?_
  refine g_putI (ci := 3) (j := 3) rfl (by first | rfl | exact kd_key hi | exact kd_sh hi | exact kd_ya hi | exact kd_pr hq | exact kd_pk hq | exact kd_pf hq | exact kd_ps hq | exact kd_po hq | exact kd_pr hq2 | exact kd_pk hq2 | exact kd_pf hq2 | exact kd_ps hq2 | exact kd_po hq2) (by first | decide | (unfold N0; omega)) (Nat.le_of_ble_eq_true rfl) (Nat.le_of_ble_eq_true rfl) rfl fl_X3_21 eX3_make_15 ?_
  refine g_iconst (v := 0) (by decide) eX3_make_18 ?_
  refine g_ist4 rfl (Nat.le_of_ble_eq_true rfl) eX3_make_19 ?_
  generalize hu : sI (sI (sI (sI (sI st (95 + 5 * q) 4 (nI ins)) (95 + 5 * q) 5 0) (95 + 5 * q) 6 0) 14 2 0) 14 3 (-1) = u0
  have hF0 : xFr q st u0 := by
    rw [← hu]
    refine ⟨fun a x1 x2 x3 x4 x5 x6 x7 x8 => ?_, rfl, ?_⟩
    · rw [sI_row x2, sI_row x2, sI_row x4, sI_row x4, sI_row x4]
    · rw [sI_1, if_neg (by omega), sI_1, if_neg (by omega), sI_row (by omega), sI_row (by omega), sI_row (by omega)]
  have hp5 : u0.1 (95 + 5 * q) 5 = 0 ∧ u0.1 (95 + 5 * q) 6 = 0 ∧ u0.1 (95 + 5 * q) 4 = nI ins := by
    rw [← hu]
    refine ⟨?_, ?_, ?_⟩
    · rw [sI_row (by omega), sI_row (by omega), sI_1, if_neg (by omega), sI_1, if_pos ⟨rfl, rfl⟩]
    · rw [sI_row (by omega), sI_row (by omega), sI_1, if_pos ⟨rfl, rfl⟩]
    · rw [sI_row (by omega), sI_row (by omega), sI_1, if_neg (by omega), sI_1, if_neg (by omega), sI_1, if_pos ⟨rfl, rfl⟩]
  have hfp : u0.1 14 3 = -1 := by rw [← hu, sI_1, if_pos ⟨rfl, rfl⟩]
  have hm0 : msOK t q u0 (E, [], [], []) := by
    refine ⟨?_, ⟨by rw [hF0.2.2]; exact ht, h2, h13, hp5.1, fun j hj => absurd hj (Nat.not_lt_zero _)⟩, ⟨?_, fun j hj => absurd hj (Nat.not_lt_zero _)⟩, ⟨hp5.2.1, fun j hj => absurd hj (Nat.not_lt_zero _)⟩, hE⟩
    · unfold nmOK
      have e13 : u0.1 13 = st.1 13 := by rw [← hu, sI_row (by omega), sI_row (by omega), sI_row (by omega), sI_row (by omega), sI_row (by omega)]
      rw [hF0.1 10 (by omega) (by omega) (by omega) (by omega) (by omega) (by omega) (by omega) (by omega), hF0.1 12 (by omega) (by omega) (by omega) (by omega) (by omega) (by omega) (by omega) (by omega), e13, hF0.2.1]
      exact hn.1
    · rw [← hu, sI_1, if_neg (by omega), sI_1, if_pos ⟨rfl, rfl⟩]; rfl
  have hr0 : msR t 0 (E, [], [], []) := ⟨hEr, Nat.le_refl _, Nat.le_refl _, fun c hc => absurd hc List.not_mem_nil, Nat.zero_le _⟩
  have hgr : ∀ u, xFr q st u → u.1 3 = st.1 3 ∧ u.1 8 = st.1 8 ∧ u.1 9 = st.1 9 := fun u h => ⟨h.1 3 (by omega) (by omega) (by omega) (by omega) (by omega) (by omega) (by omega) (by omega), h.1 8 (by omega) (by omega) (by omega) (by omega) (by omega) (by omega) (by omega) (by omega), h.1 9 (by omega) (by omega) (by omega) (by omega) (by omega) (by omega) (by omega) (by omega)⟩
  have loop : ∀ (f i : Nat) (u : St) (m : MS) (y5 y6 : Option Value), i + f = s.2.1.length → xFr q st u → u.1 (95 + 5 * q) 4 = nI ins → u.1 14 3 = -1 → msOK t q u m → msR t i m → R = makL t V cnt (s.2.1.drop i) m → G xp l xe (rmd (6)) xs xm xa xb xme xc D cy xad xA (YX3_make.2.1, YX3_make.1.cls, YX3_make.2.2.1, YX3_make.2.2.2) (Pi (mePost t q P st ins R)) 21 ([some (.ref 14), some (.ref 3), some (.ref 10), some (.ref (95 + 5 * q)), some (.int (nI i)), y5, y6]) ([]) (u) := by
    intro f
    induction f with
    | zero =>
      intro i u m y5 y6 hi hF hins hfp hm hr hR2
      refine g_ild4 eX3_make_21 ?_
      refine g_ald1 eX3_make_23 ?_
      refine g_getI (ci := 1) (j := 3) (by first | rfl | exact kd_key hi | exact kd_sh hi | exact kd_ya hi | exact kd_pr hq | exact kd_pk hq | exact kd_pf hq | exact kd_ps hq | exact kd_po hq | exact kd_pr hq2 | exact kd_pk hq2 | exact kd_pf hq2 | exact kd_ps hq2 | exact kd_po hq2) (by first | decide | (unfold N0; omega)) (Nat.le_of_ble_eq_true rfl) (Nat.le_of_ble_eq_true rfl) rfl fl_X3_38 eX3_make_24 ?_
      rw [(hgr u hF).1, hlen]
      refine g_icmp_ge eX3_make_27 (fun hb => ?_) (fun hb => ?_)
      · refine g_iconst (v := 0) (by decide) eX3_make_128 ?_
        refine g_iret rfl eX3_make_129 ⟨_, rfl, ?_⟩
        try dsimp only
        unfold mePost
        rw [hR2, List.drop_eq_nil_of_le (by omega)]
        exact ⟨hF, rfl, hfp, hm, hins⟩
      · exact absurd (nI_le (by omega) (by omega)) hb
    | succ f ih =>
      intro i u m y5 y6 hi hF hins hfp hm hr hR2
      have hil : i < s.2.1.length := by omega
      have hvu : nvOK K P V cnt u := by
        unfold nvOK
        rw [hF.1 4 (by omega) (by omega) (by omega) (by omega) (by omega) (by omega) (by omega) (by omega), hF.1 5 (by omega) (by omega) (by omega) (by omega) (by omega) (by omega) (by omega) (by omega), hF.1 6 (by omega) (by omega) (by omega) (by omega) (by omega) (by omega) (by omega) (by omega), hF.2.1]
        exact hv
      have hx : s.2.1.getD i (0, 0) = s.2.1[i] := by rw [List.getD_eq_getElem?_getD, List.getElem?_eq_getElem hil]; rfl
      obtain ⟨x1, x2, x3⟩ := hs.2.2 _ (List.getElem_mem hil)
      rw [List.drop_eq_getElem_cons hil, makL] at hR2
      rw [hsc] at x1 x2
      generalize hX : s.2.1[i] = X at hR2 x1 x2 x3 hx
      have hin : vp_in (nI i) 300 := vp_in_nI (by omega) (by decide)
      have hcl : (nI i).toNatClampNeg = i := nI_clamp (by omega)
      refine g_ild4 eX3_make_21 ?_
      refine g_ald1 eX3_make_23 ?_
      refine g_getI (ci := 1) (j := 3) (by first | rfl | exact kd_key hi | exact kd_sh hi | exact kd_ya hi | exact kd_pr hq | exact kd_pk hq | exact kd_pf hq | exact kd_ps hq | exact kd_po hq | exact kd_pr hq2 | exact kd_pk hq2 | exact kd_pf hq2 | exact kd_ps hq2 | exact kd_po hq2) (by first | decide | (unfold N0; omega)) (Nat.le_of_ble_eq_true rfl) (Nat.le_of_ble_eq_true rfl) rfl fl_X3_38 eX3_make_24 ?_
      rw [(hgr u hF).1, hlen]
      refine g_icmp_ge eX3_make_27 (fun hb => ?_) (fun hb => ?_)
      · exact absurd hb (nI_ge (by omega) (by omega))
      · refine g_ald1 eX3_make_30 ?_
        refine g_getR (ci := 1) (j := 1) (by first | rfl | exact kd_key hi | exact kd_sh hi | exact kd_ya hi | exact kd_pr hq | exact kd_pk hq | exact kd_pf hq | exact kd_ps hq | exact kd_po hq | exact kd_pr hq2 | exact kd_pk hq2 | exact kd_pf hq2 | exact kd_ps hq2 | exact kd_po hq2) (by first | decide | (unfold N0; omega)) (Nat.le_of_ble_eq_true rfl) (Nat.le_of_ble_eq_true rfl) rfl (by first | rfl | exact r_key4 hi | exact r_sh0 hi | exact r_p0 hq | exact r_p1 hq | exact r_p2 hq | exact r_p3 hq | exact r_p0 hq2 | exact r_p1 hq2 | exact r_p2 hq2 | exact r_p3 hq2) fl_X3_43 eX3_make_31 ?_
        refine g_ild4 eX3_make_34 ?_
        refine g_iald (by first | rfl | exact kd_key hi | exact kd_sh hi | exact kd_ya hi | exact kd_pr hq | exact kd_pk hq | exact kd_pf hq | exact kd_ps hq | exact kd_po hq | exact kd_pr hq2 | exact kd_pk hq2 | exact kd_pf hq2 | exact kd_ps hq2 | exact kd_po hq2) (by first | decide | (unfold N0; omega)) hin eX3_make_36 ?_
        rw [hcl, (hgr u hF).2.1, (hord i hil).1, hx]
        refine g_ist5 rfl (Nat.le_of_ble_eq_true rfl) eX3_make_37 ?_
        refine g_ald1 eX3_make_39 ?_
        refine g_getR (ci := 1) (j := 2) (by first | rfl | exact kd_key hi | exact kd_sh hi | exact kd_ya hi | exact kd_pr hq | exact kd_pk hq | exact kd_pf hq | exact kd_ps hq | exact kd_po hq | exact kd_pr hq2 | exact kd_pk hq2 | exact kd_pf hq2 | exact kd_ps hq2 | exact kd_po hq2) (by first | decide | (unfold N0; omega)) (Nat.le_of_ble_eq_true rfl) (Nat.le_of_ble_eq_true rfl) rfl (by first | rfl | exact r_key4 hi | exact r_sh0 hi | exact r_p0 hq | exact r_p1 hq | exact r_p2 hq | exact r_p3 hq | exact r_p0 hq2 | exact r_p1 hq2 | exact r_p2 hq2 | exact r_p3 hq2) fl_X3_46 eX3_make_40 ?_
        refine g_ild4 eX3_make_43 ?_
        refine g_iald (by first | rfl | exact kd_key hi | exact kd_sh hi | exact kd_ya hi | exact kd_pr hq | exact kd_pk hq | exact kd_pf hq | exact kd_ps hq | exact kd_po hq | exact kd_pr hq2 | exact kd_pk hq2 | exact kd_pf hq2 | exact kd_ps hq2 | exact kd_po hq2) (by first | decide | (unfold N0; omega)) hin eX3_make_45 ?_
        rw [hcl, (hgr u hF).2.2, (hord i hil).2, hx]
        have tellE : X.1 = 6 ∨ X.1 = 7 → G xp l xe (rmd (6)) xs xm xa xb xme xc D cy xad xA (YX3_make.2.1, YX3_make.1.cls, YX3_make.2.2.1, YX3_make.2.2.2) (Pi (mePost t q P st ins R)) 62 ([some (.ref 14), some (.ref 3), some (.ref 10), some (.ref (95 + 5 * q)), some (.int (nI i)), some (.int (nI X.1)), some (.int (nI X.2))]) ([]) (u) := by
          intro hk
          have hx2 := x2 hk
          rw [if_pos hk] at hR2
          obtain ⟨v1, v2, v3, v4, v5⟩ := hvu.2.2 (X.2 + 1) (by omega)
          refine g_ald0 eX3_make_62 ?_
          refine g_ild5 eX3_make_63 ?_
          refine g_ald1 eX3_make_65 ?_
          refine g_getR (ci := 1) (j := 0) (by first | rfl | exact kd_key hi | exact kd_sh hi | exact kd_ya hi | exact kd_pr hq | exact kd_pk hq | exact kd_pf hq | exact kd_ps hq | exact kd_po hq | exact kd_pr hq2 | exact kd_pk hq2 | exact kd_pf hq2 | exact kd_ps hq2 | exact kd_po hq2) (by first | decide | (unfold N0; omega)) (Nat.le_of_ble_eq_true rfl) (Nat.le_of_ble_eq_true rfl) rfl (by first | rfl | exact r_key4 hi | exact r_sh0 hi | exact r_p0 hq | exact r_p1 hq | exact r_p2 hq | exact r_p3 hq | exact r_p0 hq2 | exact r_p1 hq2 | exact r_p2 hq2 | exact r_p3 hq2) fl_X3_49 eX3_make_66 ?_
          refine g_getR (ci := 9) (j := 2) (by first | rfl | exact kd_key hi | exact kd_sh hi | exact kd_ya hi | exact kd_pr hq | exact kd_pk hq | exact kd_pf hq | exact kd_ps hq | exact kd_po hq | exact kd_pr hq2 | exact kd_pk hq2 | exact kd_pf hq2 | exact kd_ps hq2 | exact kd_po hq2) (by first | decide | (unfold N0; omega)) (Nat.le_of_ble_eq_true rfl) (Nat.le_of_ble_eq_true rfl) rfl (by first | rfl | exact r_key4 hi | exact r_sh0 hi | exact r_p0 hq | exact r_p1 hq | exact r_p2 hq | exact r_p3 hq | exact r_p0 hq2 | exact r_p1 hq2 | exact r_p2 hq2 | exact r_p3 hq2) fl_X3_53 eX3_make_69 ?_
          refine g_ild6 eX3_make_72 ?_
          refine g_iconst (v := 1) (by decide) eX3_make_74 ?_
          refine g_iadd eX3_make_75 ?_
          rw [show nI X.2 + 1 = nI (X.2 + 1) from nI_1 _]
          refine g_lald (by first | rfl | exact kd_key hi | exact kd_sh hi | exact kd_ya hi | exact kd_pr hq | exact kd_pk hq | exact kd_pf hq | exact kd_ps hq | exact kd_po hq | exact kd_pr hq2 | exact kd_pk hq2 | exact kd_pf hq2 | exact kd_ps hq2 | exact kd_po hq2) (by first | decide | (unfold N0; omega)) (vp_in_nI (n := X.2 + 1) (N := 302) (by omega) (by decide)) eX3_make_76 ?_
          rw [nI_clamp (by omega), v3]
          refine g_ald2 eX3_make_77 ?_
          refine g_ald3 eX3_make_78 ?_
          refine g_callVv (ci := 3) (m_endTell u hq hm hr (by omega) X.1 X.2 x3 v5) (by first | rfl | exact kd_key hi | exact kd_sh hi | exact kd_ya hi | exact kd_pr hq | exact kd_pk hq | exact kd_pf hq | exact kd_ps hq | exact kd_po hq | exact kd_pr hq2 | exact kd_pk hq2 | exact kd_pf hq2 | exact kd_ps hq2 | exact kd_po hq2) (by first | decide | (unfold N0; omega)) (Nat.le_of_ble_eq_true rfl) rfl cv_X3_57 eX3_make_79 ⟨Nat.le_of_ble_eq_true rfl, Nat.le_of_ble_eq_true rfl⟩ rfl rfl (Nat.le_of_ble_eq_true rfl) (fun w h => ?_)
          obtain ⟨hf, hm2⟩ := h
          have hr2 := endP_ok h2 (V := V) (o := X.1) (a := X.2) hr
          have hFw := hF.trans (xFr_m hf)
          have hwl := hm2.2.1.2.2.2.1
          have hwb := hr2.2.1
          refine g_ald3 eX3_make_82 ?_
          refine g_getI (ci := 6) (j := 5) (by first | rfl | exact kd_key hi | exact kd_sh hi | exact kd_ya hi | exact kd_pr hq | exact kd_pk hq | exact kd_pf hq | exact kd_ps hq | exact kd_po hq | exact kd_pr hq2 | exact kd_pk hq2 | exact kd_pf hq2 | exact kd_ps hq2 | exact kd_po hq2) (by first | decide | (unfold N0; omega)) (Nat.le_of_ble_eq_true rfl) (Nat.le_of_ble_eq_true rfl) rfl fl_X3_61 eX3_make_83 ?_
          rw [hwl]
          refine g_bipush (v := 40) (by decide) eX3_make_86 ?_
          refine g_icmp_le eX3_make_88 (fun hb2 => ?_) (fun hb2 => ?_)
          · rw [show (40 : Int32) = nI 40 from rfl, nI_leI (by omega) (by omega)] at hb2
            rw [if_neg (by omega)] at hR2
            refine g_inc4 rfl (Nat.le_of_ble_eq_true rfl) rfl eX3_make_122 ?_
            refine g_goto eX3_make_125 ?_
            rw [inc1]
            exact ih (i + 1) w _ _ _ (by omega) hFw (by rw [hf.2.2.2.1]; exact hins) (by rw [hf.2.2.2.2]; exact hfp) hm2 hr2 hR2
          · rw [show (40 : Int32) = nI 40 from rfl, nI_leI (by omega) (by omega)] at hb2
            rw [if_pos (by omega)] at hR2
            have hpl : w.1 6 X.2 = nI (P X.2) := by
              rw [hFw.1 6 (by omega) (by omega) (by omega) (by omega) (by omega) (by omega) (by omega) (by omega)]
              exact (hv.2.2 X.2 (by omega)).2.1
            refine g_ald0 eX3_make_91 ?_
            refine g_ald1 eX3_make_92 ?_
            refine g_getR (ci := 1) (j := 0) (by first | rfl | exact kd_key hi | exact kd_sh hi | exact kd_ya hi | exact kd_pr hq | exact kd_pk hq | exact kd_pf hq | exact kd_ps hq | exact kd_po hq | exact kd_pr hq2 | exact kd_pk hq2 | exact kd_pf hq2 | exact kd_ps hq2 | exact kd_po hq2) (by first | decide | (unfold N0; omega)) (Nat.le_of_ble_eq_true rfl) (Nat.le_of_ble_eq_true rfl) rfl (by first | rfl | exact r_key4 hi | exact r_sh0 hi | exact r_p0 hq | exact r_p1 hq | exact r_p2 hq | exact r_p3 hq | exact r_p0 hq2 | exact r_p1 hq2 | exact r_p2 hq2 | exact r_p3 hq2) fl_X3_49 eX3_make_93 ?_
            refine g_getR (ci := 9) (j := 1) (by first | rfl | exact kd_key hi | exact kd_sh hi | exact kd_ya hi | exact kd_pr hq | exact kd_pk hq | exact kd_pf hq | exact kd_ps hq | exact kd_po hq | exact kd_pr hq2 | exact kd_pk hq2 | exact kd_pf hq2 | exact kd_ps hq2 | exact kd_po hq2) (by first | decide | (unfold N0; omega)) (Nat.le_of_ble_eq_true rfl) (Nat.le_of_ble_eq_true rfl) rfl (by first | rfl | exact r_key4 hi | exact r_sh0 hi | exact r_p0 hq | exact r_p1 hq | exact r_p2 hq | exact r_p3 hq | exact r_p0 hq2 | exact r_p1 hq2 | exact r_p2 hq2 | exact r_p3 hq2) fl_X3_64 eX3_make_96 ?_
            refine g_ild6 eX3_make_99 ?_
            refine g_iald (by first | rfl | exact kd_key hi | exact kd_sh hi | exact kd_ya hi | exact kd_pr hq | exact kd_pk hq | exact kd_pf hq | exact kd_ps hq | exact kd_po hq | exact kd_pr hq2 | exact kd_pk hq2 | exact kd_pf hq2 | exact kd_ps hq2 | exact kd_po hq2) (by first | decide | (unfold N0; omega)) (vp_in_nI (n := X.2) (N := 302) (by omega) (by decide)) eX3_make_101 ?_
            rw [nI_clamp (by omega), hpl]
            refine g_putI (ci := 3) (j := 3) rfl (by first | rfl | exact kd_key hi | exact kd_sh hi | exact kd_ya hi | exact kd_pr hq | exact kd_pk hq | exact kd_pf hq | exact kd_ps hq | exact kd_po hq | exact kd_pr hq2 | exact kd_pk hq2 | exact kd_pf hq2 | exact kd_ps hq2 | exact kd_po hq2) (by first | decide | (unfold N0; omega)) (Nat.le_of_ble_eq_true rfl) (Nat.le_of_ble_eq_true rfl) rfl fl_X3_21 eX3_make_102 ?_
            refine g_bipush (v := 6) (by decide) eX3_make_105 ?_
            refine g_iret rfl eX3_make_107 ⟨_, rfl, ?_⟩
            try dsimp only
            unfold mePost
            rw [hR2]
            refine ⟨hFw.trans ⟨fun a x1 x2 x3 x4 x5 x6 x7 x8 => sI_row x2, rfl, ?_⟩, rfl, ?_⟩
            · rw [sI_1, if_neg (by omega)]
            · rw [sI_1, if_pos ⟨rfl, rfl⟩]
        refine g_ist6 rfl (Nat.le_of_ble_eq_true rfl) eX3_make_46 ?_
        refine g_ild5 eX3_make_48 ?_
        refine g_bipush (v := 6) (by decide) eX3_make_50 ?_
        refine g_icmp_eq eX3_make_52 (fun hb2 => ?_) (fun hb2 => ?_)
        · exact tellE (Or.inl ((nI_eq (b := 6) (by omega) (by omega)).mp hb2))
        · have e6 : ¬ X.1 = 6 := fun z => hb2 (by rw [z]; rfl)
          refine g_ild5 eX3_make_55 ?_
          refine g_bipush (v := 7) (by decide) eX3_make_57 ?_
          refine g_icmp_ne eX3_make_59 (fun hb3 => ?_) (fun hb3 => ?_)
          · have e7 : ¬ X.1 = 7 := fun z => hb3 (by rw [z]; rfl)
            rw [if_neg (by omega)] at hR2
            refine g_ald0 eX3_make_108 ?_
            refine g_ild5 eX3_make_109 ?_
            refine g_ild6 eX3_make_111 ?_
            refine g_ald1 eX3_make_113 ?_
            refine g_getR (ci := 1) (j := 0) (by first | rfl | exact kd_key hi | exact kd_sh hi | exact kd_ya hi | exact kd_pr hq | exact kd_pk hq | exact kd_pf hq | exact kd_ps hq | exact kd_po hq | exact kd_pr hq2 | exact kd_pk hq2 | exact kd_pf hq2 | exact kd_ps hq2 | exact kd_po hq2) (by first | decide | (unfold N0; omega)) (Nat.le_of_ble_eq_true rfl) (Nat.le_of_ble_eq_true rfl) rfl (by first | rfl | exact r_key4 hi | exact r_sh0 hi | exact r_p0 hq | exact r_p1 hq | exact r_p2 hq | exact r_p3 hq | exact r_p0 hq2 | exact r_p1 hq2 | exact r_p2 hq2 | exact r_p3 hq2) fl_X3_49 eX3_make_114 ?_
            refine g_ald2 eX3_make_117 ?_
            refine g_ald3 eX3_make_118 ?_
            refine g_callVv (ci := 3) (m_follow u hq hvu hm hr (by omega) X.1 X.2 x3 x1) (by first | rfl | exact kd_key hi | exact kd_sh hi | exact kd_ya hi | exact kd_pr hq | exact kd_pk hq | exact kd_pf hq | exact kd_ps hq | exact kd_po hq | exact kd_pr hq2 | exact kd_pk hq2 | exact kd_pf hq2 | exact kd_ps hq2 | exact kd_po hq2) (by first | decide | (unfold N0; omega)) (Nat.le_of_ble_eq_true rfl) rfl cv_X3_67 eX3_make_119 ⟨Nat.le_of_ble_eq_true rfl, Nat.le_of_ble_eq_true rfl⟩ rfl rfl (Nat.le_of_ble_eq_true rfl) (fun w h => ?_)
            obtain ⟨hf, hm2⟩ := h
            have hr2 := folP_ok h2 h13 (V := V) (cnt := cnt) (o := X.1) (a := X.2) (by omega) hr
            refine g_inc4 rfl (Nat.le_of_ble_eq_true rfl) rfl eX3_make_122 ?_
            refine g_goto eX3_make_125 ?_
            rw [inc1]
            exact ih (i + 1) w _ _ _ (by omega) (hF.trans (xFr_m hf)) (by rw [hf.2.2.2.1]; exact hins) (by rw [hf.2.2.2.2]; exact hfp) hm2 hr2 hR2
          · exact tellE (Or.inr ((nI_eq (b := 7) (by omega) (by omega)).mp hb3))
  exact loop s.2.1.length 0 u0 _ none none (by omega) hF0 hp5.2.2 hfp hm0 hr0 hR.symm
end MAKG
