/-! THE MODEL PARSES: isMore, expression -/
section EXPR
variable {l : Launch} {D : va_G} {cy : Nat → ClassId} {K P V W : Nat → Nat} {Nm : List MN} {bs : Nat}
/-- what was written since the start: orders as codes, events as the worst -/
def trn (P V W : Nat → Nat) (Nm : List MN) (bs : Nat) (B A : EA) : Prop := ∃ xs es, A.1.2.1 = B.1.2.1 ++ xs ∧ A.1.2.2 = B.1.2.2 ++ es ∧ A.2.2.1 = B.2.2.1 ++ xs.flatMap (cdT Nm V W bs) ∧ A.2.2.2.1 = es.foldl (evW Nm P W) B.2.2.2.1
theorem trn_wr {B : EA} {s : GS} {o : Nat} {C : List (Nat × Nat)} {w : Nat × Nat} {Wt : List WE} (h : trn P V W Nm bs B (s, o, C, w, Wt)) (k a : Nat) (o2 : Nat) (Wt2 : List WE) : trn P V W Nm bs B (wrF k a s, o2, C ++ cdT Nm V W bs (k, a), w, Wt2) := by
  obtain ⟨xs, es, h1, h2, h3, h4⟩ := h
  refine ⟨xs ++ [(k, a)], es, ?_, h2, ?_, h4⟩
  · show s.2.1 ++ [(k, a)] = _
    have h1 : s.2.1 = _ := h1
    rw [h1, List.append_assoc]
  · show C ++ cdT Nm V W bs (k, a) = _
    have h3 : C = _ := h3
    rw [h3, List.flatMap_append, List.append_assoc]
    simp
theorem trn_ev {B : EA} {s : GS} {o : Nat} {C : List (Nat × Nat)} {w : Nat × Nat} {Wt : List WE} (h : trn P V W Nm bs B (s, o, C, w, Wt)) (g a : Nat) : trn P V W Nm bs B (gvF g a s, o, C, evW Nm P W w (g, a), Wt) := by
  obtain ⟨xs, es, h1, h2, h3, h4⟩ := h
  refine ⟨xs, es ++ [(g, a)], h1, ?_, h3, ?_⟩
  · show s.2.2 ++ [(g, a)] = _
    have h2 : s.2.2 = _ := h2
    rw [h2, List.append_assoc]
  · show evW Nm P W w (g, a) = _
    have h4 : w = _ := h4
    rw [h4, List.foldl_append]
    rfl
theorem trn_s {B : EA} {s s2 : GS} {o o2 : Nat} {C : List (Nat × Nat)} {w : Nat × Nat} {Wt Wt2 : List WE} (h : trn P V W Nm bs B (s, o, C, w, Wt)) (e : s2.2 = s.2) : trn P V W Nm bs B (s2, o2, C, w, Wt2) := by
  obtain ⟨xs, es, h1, h2, h3, h4⟩ := h
  exact ⟨xs, es, by show s2.2.1 = _; rw [e]; exact h1, by show s2.2.2 = _; rw [e]; exact h2, h3, h4⟩
/-- the expression's invariant -/
def IV (K P V W : Nat → Nat) (Nm : List MN) (bs : Nat) (st : St) (B : EA) (u : St) (A : EA) : Prop :=
  exFr st u ∧ exOK K u A ∧ wfW (tbF Nm W) A.2.2.2.2 ∧ A.2.1 = ops A.2.2.2.2 ∧ A.2.1 ≤ 6 ∧ A.1.2.1.length + nop A.2.2.2.2 ≤ A.1.1 ∧ A.2.2.2.2.length ≤ A.1.1 ∧ 1 ≤ A.1.1 ∧ A.2.2.1.length ≤ A.1.2.1.length ∧ trn P V W Nm bs B A
/-- behind isMore -/
def imP (K P V W : Nat → Nat) (Nm : List MN) (bs : Nat) (st : St) (B : EA) (n : Nat) (R : GR) (r : Int32) (u : St) : Prop :=
  (∃ e, R = .inl e ∧ (1 ≤ e.1 ∧ e.1 ≤ 2) ∧ exD P st u e ∧ (r = 0 ∨ r = 1)) ∨
  (r = 1 ∧ ∃ A, IV K P V W Nm bs st B u A ∧ n ≤ A.1.1 ∧ R = gb (unitF K (6 - ops A.2.2.2.2) A.1) (kon K A.2.2.2.2).1) ∨
  (r = 0 ∧ ∃ A, IV K P V W Nm bs st B u A ∧ A.2.2.2.2 = [] ∧ R = .inr A.1)
theorem psF_er {s : GS} {e : Nat × Nat} (h : psF s = .inl e) : 1 ≤ e.1 ∧ e.1 ≤ 2 := by
  unfold psF at h
  split at h
  · cases h; exact ⟨by show 1 ≤ 2; decide, by show 2 ≤ 2; decide⟩
  · cases h
theorem tkF_er {k : Nat} {s : GS} {e : Nat × Nat} (h : tkF K k s = .inl e) : 1 ≤ e.1 ∧ e.1 ≤ 2 := by
  unfold tkF at h
  split at h
  · exact psF_er h
  · cases h; exact ⟨by show 1 ≤ 1; decide, by show 1 ≤ 2; decide⟩
theorem tkF_ok {k : Nat} {s s1 : GS} (h : tkF K k s = .inr s1) : K s.1 = k ∧ psF s = .inr s1 := by
  unfold tkF at h
  split at h
  · exact ⟨by assumption, h⟩
  · cases h
theorem w_isMore (st : St) {B : EA} (hS0 : SB K P V W Nm bs st) (u0 : St) {A0 : EA} (h0 : IV K P V W Nm bs st B u0 A0) (R : GR) (hR0 : R = (kon K A0.2.2.2.2).1 A0.1) : Mi l D cy 3 YX12_isMore [.ref 31] u0 (imP K P V W Nm bs st B A0.1.1 R) := by
  refine M.ofG [some (.ref 31)] (by decide) (Nat.le_of_ble_eq_true rfl) rfl ?_
  intro xp xe xs xm xa xb xme xc xad xA
  have hdead : ∀ (u : St) (e : Nat × Nat), R = .inl e → 1 ≤ e.1 ∧ e.1 ≤ 2 → exD P st u e → G xp l xe (rmd (3)) xs xm xa xb xme xc D cy xad xA (YX12_isMore.2.1, YX12_isMore.1.cls, YX12_isMore.2.2.1, YX12_isMore.2.2.2) (Pi (imP K P V W Nm bs st B A0.1.1 R)) 0 ([some (.ref 31)]) ([]) (u) := by
    intro u e hR he hd
    refine g_ald0 eX12_isMore_0 ?_
    refine g_getI (ci := 11) (j := 12) rfl (Nat.le_of_ble_eq_true rfl) (Nat.le_of_ble_eq_true rfl) (Nat.le_of_ble_eq_true rfl) rfl fl_X12_217 eX12_isMore_1 ?_
    rw [hd.2.1]
    refine g_if_ne eX12_isMore_4 (fun hb => ?_) (fun hb => ?_)
    · refine g_iconst (v := 0) (by decide) eX12_isMore_295 ?_
      exact g_zret (ty := .boolean) rfl (by first | rfl | assumption) eX12_isMore_296 ⟨_, rfl, (Or.inl ⟨e, hR, he, hd, Or.inl rfl⟩)⟩
    · exact absurd hb (nI_ne0 (by omega) (by omega))
  have loop : ∀ (f : Nat) (u : St) (s : GS) (o : Nat) (C : List (Nat × Nat)) (w : Nat × Nat) (Wt : List WE), Wt.length = f → IV K P V W Nm bs st B u (s, o, C, w, Wt) → A0.1.1 ≤ s.1 → R = (kon K Wt).1 s → G xp l xe (rmd (3)) xs xm xa xb xme xc D cy xad xA (YX12_isMore.2.1, YX12_isMore.1.cls, YX12_isMore.2.2.1, YX12_isMore.2.2.2) (Pi (imP K P V W Nm bs st B A0.1.1 R)) 0 ([some (.ref 31)]) ([]) (u) := by
    intro f
    induction f using Nat.strongRecOn with
    | ind f ih =>
      -- what goes away with the newest that waits, and the open it held
      have stage3 : ∀ (u : St) (s : GS) (o : Nat) (C : List (Nat × Nat)) (w : Nat × Nat) (q : List WE), q.length ≤ f → IV K P V W Nm bs st B u (s, o, C, w, q) → A0.1.1 ≤ s.1 → ((K s.1 = 42 ∧ (tpk q = 0 ∨ tpk q = 6 ∨ tpk q = 8 ∨ tpk q = 9) ∧ R = (kon K q).1 s) ∨ (K s.1 ≠ 42 ∧ (tpk q = 0 ∨ tpk q = 6) ∧ R = (kon K q).2 s)) → G xp l xe (rmd (3)) xs xm xa xb xme xc D cy xad xA (YX12_isMore.2.1, YX12_isMore.1.cls, YX12_isMore.2.2.1, YX12_isMore.2.2.2) (Pi (imP K P V W Nm bs st B A0.1.1 R)) 210 ([some (.ref 31)]) ([]) (u) := by
        intro u s o C w q hq hI hn hc
        obtain ⟨i1, i2, i3, i4, i5, i6, i7, i8, i9, i10⟩ := hI
        have hSu := SB_fr hS0 i1
        have ht : s.1 ≤ 300 := i2.1.2.1
        have h1 : 1 ≤ s.1 := i8
        have hql : q.length ≤ s.1 := i7
        have hi6 : s.2.1.length + nop q ≤ s.1 := i6
        have hv := hSu.1 s.1 ht i2.1.2.2
        have push : ∀ m : Nat, mkK (K s.1) = m → (m = 8 ∨ m = 9 ∨ m = 10) → K s.1 ≠ 0 ∧ K s.1 ≠ 1 → (m = 10 → tpk q = 0 ∨ tpk q = 6 ∨ tpk q = 8 ∨ tpk q = 9) → (m ≠ 10 → tpk q = 0 ∨ tpk q = 6) → R = gb (psF s) (fun s1 => gb (unitF K (6 - ops q) s1) (kon K ((m, 0, 0) :: q)).1) → G xp l xe (rmd (3)) xs xm xa xb xme xc D cy xad xA (YX12_isMore.2.1, YX12_isMore.1.cls, YX12_isMore.2.2.1, YX12_isMore.2.2.2) (Pi (imP K P V W Nm bs st B A0.1.1 R)) 237 ([some (.ref 31)]) ([]) (u) := by
          intro m hm hm3 h01 hw1 hw2 hR
          refine g_ald0 eX12_isMore_237 ?_
          refine g_ald0 eX12_isMore_238 ?_
          refine g_getR (ci := 11) (j := 4) rfl (Nat.le_of_ble_eq_true rfl) (Nat.le_of_ble_eq_true rfl) (Nat.le_of_ble_eq_true rfl) rfl rfl fl_X12_16 eX12_isMore_239 ?_
          refine g_ald0 eX12_isMore_242 ?_
          refine g_getI (ci := 11) (j := 10) rfl (Nat.le_of_ble_eq_true rfl) (Nat.le_of_ble_eq_true rfl) (Nat.le_of_ble_eq_true rfl) rfl fl_X12_220 eX12_isMore_243 ?_
          rw [i2.1.1]
          refine g_iald rfl (Nat.le_of_ble_eq_true rfl) (vp_in_nI (n := s.1) (N := 303) (by omega) (by decide)) eX12_isMore_246 ?_
          rw [nI_clamp (by show s.1 < _; omega), hv.1, hm]
          refine g_iconst (v := 0) (by decide) eX12_isMore_247 ?_
          refine g_callVv (ci := 11) (w_waitsFor u i2 (by show q.length < 320; omega) m 0 0 _ _ rfl rfl) rfl (Nat.le_of_ble_eq_true rfl) (Nat.le_of_ble_eq_true rfl) rfl cv_X12_320 eX12_isMore_248 ⟨Nat.le_of_ble_eq_true rfl, Nat.le_of_ble_eq_true rfl⟩ rfl rfl (Nat.le_of_ble_eq_true rfl) (fun u1 h => ?_)
          obtain ⟨f1, h⟩ := h
          refine g_ald0 eX12_isMore_251 ?_
          refine g_callVv (ci := 11) (w_goesOn u1 (SB_fr hSu f1).1 h h01) rfl (Nat.le_of_ble_eq_true rfl) (Nat.le_of_ble_eq_true rfl) rfl cv_X12_238 eX12_isMore_252 ⟨Nat.le_of_ble_eq_true rfl, Nat.le_of_ble_eq_true rfl⟩ rfl rfl (Nat.le_of_ble_eq_true rfl) (fun u2 h2 => ?_)
          rcases e1 : psF s with e | s1
          · rw [e1] at h2
            refine g_iconst (v := 1) (by decide) eX12_isMore_255 ?_
            refine g_zret (ty := .boolean) rfl (by first | rfl | assumption) eX12_isMore_256 ⟨_, rfl, ?_⟩
            try dsimp only
            exact Or.inl ⟨e, by rw [hR, e1]; rfl, psF_er e1, ⟨(i1.trans f1).trans h2.1.1, h2.1.2⟩, Or.inr rfl⟩
          · rw [e1] at h2
            have a1 := psF_ok e1
            refine g_iconst (v := 1) (by decide) eX12_isMore_255 ?_
            refine g_zret (ty := .boolean) rfl (by first | rfl | assumption) eX12_isMore_256 ⟨_, rfl, ?_⟩
            try dsimp only
            refine Or.inr (Or.inl ⟨rfl, (s1, o, C, w, (m, 0, 0) :: q), ⟨(i1.trans f1).trans h2.1, h2.2, ⟨i3, ?_⟩, ?_, i5, ?_, ?_, ?_, ?_, trn_s i10 a1.2.2⟩, ?_, ?_⟩)
            · show m = 6 ∨ _
              by_cases h10 : m = 10
              · exact Or.inr (Or.inr (Or.inr (Or.inl ⟨h10, hw1 h10⟩)))
              · exact Or.inr (Or.inr (Or.inr (Or.inr ⟨by show m = 8 ∨ m = 9; omega, hw2 h10⟩)))
            · show o = ops ((m, 0, 0) :: q)
              rw [ops, if_neg (by show ¬ (m = 6 ∨ m = 24 ∨ m = 25); omega), Nat.zero_add]
              exact i4
            · show s1.2.1.length + nop ((m, 0, 0) :: q) ≤ s1.1
              rw [nop, if_neg (by show ¬ m = 6; omega), a1.2.2, a1.1]
              omega
            · show ((m, 0, 0) :: q).length ≤ s1.1
              rw [List.length_cons, a1.1]; omega
            · show 1 ≤ s1.1
              omega
            · show C.length ≤ s1.2.1.length
              rw [a1.2.2]; exact i9
            · show A0.1.1 ≤ s1.1
              omega
            · show R = gb (unitF K (6 - ops ((m, 0, 0) :: q)) s1) _
              rw [ops, if_neg (by show ¬ (m = 6 ∨ m = 24 ∨ m = 25); omega), Nat.zero_add, hR, e1]
              rfl
        have hq0 : tpk q = 0 → q = [] := fun z => tpk_0 i3 z
        refine g_ald0 eX12_isMore_210 ?_
        refine g_bipush (v := 10) (by decide) eX12_isMore_211 ?_
        refine g_callVi (ci := 11) (w_is u hSu.1 i2 10 (by decide)) rfl (Nat.le_of_ble_eq_true rfl) (Nat.le_of_ble_eq_true rfl) rfl cv_X12_235 eX12_isMore_213 ⟨Nat.le_of_ble_eq_true rfl, Nat.le_of_ble_eq_true rfl⟩ rfl rfl (Nat.le_of_ble_eq_true rfl) (fun r u h9 => ?_)
        obtain ⟨rfl, rfl⟩ := h9
        refine g_if_ne eX12_isMore_216 (fun hb => ?_) (fun hb => ?_)
        · rw [b2_ne0] at hb
          have hk : K s.1 = 42 := (mkK_is hv.2.2.2.2.1 (b := 42) (k := 10) (by decide) rfl).mp hb
          rcases hc with ⟨c1, c2, c3⟩ | ⟨c1, c2, c3⟩
          · refine push 10 hb (by omega) (by omega) (fun _ => c2) (fun z => absurd rfl z) ?_
            rw [c3]
            exact kon_times (c2.elim (fun z => Or.inr (Or.inr (Or.inr (hq0 z)))) (fun z => z.elim Or.inl (fun z => z.elim (fun z => Or.inr (Or.inl z)) (fun z => Or.inr (Or.inr (Or.inl z)))))) ht h1 hk 0
          · exact absurd hk c1
        · rw [b2_eq0] at hb
          have hk : ¬ K s.1 = 42 := fun z => hb ((mkK_is hv.2.2.2.2.1 (b := 42) (k := 10) (by decide) rfl).mpr z)
          rcases hc with ⟨c1, c2, c3⟩ | ⟨c1, c2, c3⟩
          · exact absurd c1 hk
          · have hw6 : tpk q = 6 ∨ q = [] := c2.elim (fun z => Or.inr (hq0 z)) Or.inl
            refine g_ald0 eX12_isMore_219 ?_
            refine g_bipush (v := 8) (by decide) eX12_isMore_220 ?_
            refine g_callVi (ci := 11) (w_is u hSu.1 i2 8 (by decide)) rfl (Nat.le_of_ble_eq_true rfl) (Nat.le_of_ble_eq_true rfl) rfl cv_X12_235 eX12_isMore_222 ⟨Nat.le_of_ble_eq_true rfl, Nat.le_of_ble_eq_true rfl⟩ rfl rfl (Nat.le_of_ble_eq_true rfl) (fun r u h9 => ?_)
            obtain ⟨rfl, rfl⟩ := h9
            refine g_if_ne eX12_isMore_225 (fun hb2 => ?_) (fun hb2 => ?_)
            · rw [b2_ne0] at hb2
              have hk3 : K s.1 = 43 := (mkK_is hv.2.2.2.2.1 (b := 43) (k := 8) (by decide) rfl).mp hb2
              refine push 8 hb2 (by omega) (by omega) (fun z => absurd z (by decide)) (fun _ => c2) ?_
              rw [c3]
              exact kon_plus hw6 ht h1 8 0 (Or.inl ⟨hk3, rfl⟩)
            · rw [b2_eq0] at hb2
              have hk3 : ¬ K s.1 = 43 := fun z => hb2 ((mkK_is hv.2.2.2.2.1 (b := 43) (k := 8) (by decide) rfl).mpr z)
              refine g_ald0 eX12_isMore_228 ?_
              refine g_bipush (v := 9) (by decide) eX12_isMore_229 ?_
              refine g_callVi (ci := 11) (w_is u hSu.1 i2 9 (by decide)) rfl (Nat.le_of_ble_eq_true rfl) (Nat.le_of_ble_eq_true rfl) rfl cv_X12_235 eX12_isMore_231 ⟨Nat.le_of_ble_eq_true rfl, Nat.le_of_ble_eq_true rfl⟩ rfl rfl (Nat.le_of_ble_eq_true rfl) (fun r u h9 => ?_)
              obtain ⟨rfl, rfl⟩ := h9
              refine g_if_eq eX12_isMore_234 (fun hb3 => ?_) (fun hb3 => ?_)
              · rw [b2_eq0] at hb3
                have hk5 : ¬ K s.1 = 45 := fun z => hb3 ((mkK_is hv.2.2.2.2.1 (b := 45) (k := 9) (by decide) rfl).mpr z)
                have hks : ¬ (K s.1 = 43 ∨ K s.1 = 45) := by omega
                refine g_ald0 eX12_isMore_257 ?_
                refine g_getI (ci := 11) (j := 49) rfl (Nat.le_of_ble_eq_true rfl) (Nat.le_of_ble_eq_true rfl) (Nat.le_of_ble_eq_true rfl) rfl fl_X12_314 eX12_isMore_258 ?_
                rw [i2.2.2.2.2.2.1]
                rcases hqe : q with _ | ⟨x, r⟩
                · rw [hqe] at i2 i3 i4 i6 i7 i10 c3
                  refine g_if_ne eX12_isMore_261 (fun hb4 => ?_) (fun hb4 => ?_)
                  · exact absurd rfl hb4
                  · refine g_iconst (v := 0) (by decide) eX12_isMore_264 ?_
                    refine g_zret (ty := .boolean) rfl (by first | rfl | assumption) eX12_isMore_265 ⟨_, rfl, ?_⟩
                    try dsimp only
                    refine Or.inr (Or.inr ⟨rfl, (s, o, C, w, []), ⟨i1, i2, i3, i4, i5, i6, i7, i8, i9, i10⟩, rfl, ?_⟩)
                    rw [c3]
                    exact kon_done ht h1 hks
                · rw [hqe] at i2 i3 i4 i6 i7 i10 c3 hq hql hi6 c2
                  have hx6 : x.1 = 6 := by
                    have h9 := wfW_kind i3 x List.mem_cons_self
                    have h8 : x.1 = 0 ∨ x.1 = 6 := c2
                    omega
                  rw [List.length_cons] at hq hql
                  refine g_if_ne eX12_isMore_261 (fun hb4 => ?_) (fun hb4 => ?_)
                  · have hR2 : R = gb (tkF K 41 s) (kon K r).1 := by rw [c3]; exact kon_close hx6 ht h1 hks
                    refine g_ald0 eX12_isMore_266 ?_
                    refine g_bipush (v := 7) (by decide) eX12_isMore_267 ?_
                    refine g_callVv (ci := 11) (w_must u hSu.1 i2 41 (by decide) 7 rfl (by decide)) rfl (Nat.le_of_ble_eq_true rfl) (Nat.le_of_ble_eq_true rfl) rfl cv_X12_289 eX12_isMore_269 ⟨Nat.le_of_ble_eq_true rfl, Nat.le_of_ble_eq_true rfl⟩ rfl rfl (Nat.le_of_ble_eq_true rfl) (fun u1 h2 => ?_)
                    rcases e1 : tkF K 41 s with e | s1
                    · rw [e1] at h2
                      refine g_ald0 eX12_isMore_272 ?_
                      refine g_dup rfl eX12_isMore_273 ?_
                      refine g_getI (ci := 11) (j := 49) rfl (Nat.le_of_ble_eq_true rfl) (Nat.le_of_ble_eq_true rfl) (Nat.le_of_ble_eq_true rfl) rfl fl_X12_314 eX12_isMore_274 ?_
                      refine g_iconst (v := 1) (by decide) eX12_isMore_277 ?_
                      refine g_isub eX12_isMore_278 ?_
                      refine g_putI (ci := 11) (j := 49) rfl rfl (Nat.le_of_ble_eq_true rfl) (Nat.le_of_ble_eq_true rfl) (Nat.le_of_ble_eq_true rfl) rfl fl_X12_314 eX12_isMore_279 ?_
                      refine g_ald0 eX12_isMore_282 ?_
                      refine g_dup rfl eX12_isMore_283 ?_
                      refine g_getI (ci := 11) (j := 11) rfl (Nat.le_of_ble_eq_true rfl) (Nat.le_of_ble_eq_true rfl) (Nat.le_of_ble_eq_true rfl) rfl fl_X12_247 eX12_isMore_284 ?_
                      refine g_iconst (v := 1) (by decide) eX12_isMore_287 ?_
                      refine g_isub eX12_isMore_288 ?_
                      refine g_putI (ci := 11) (j := 11) rfl rfl (Nat.le_of_ble_eq_true rfl) (Nat.le_of_ble_eq_true rfl) (Nat.le_of_ble_eq_true rfl) rfl fl_X12_247 eX12_isMore_289 ?_
                      refine g_goto eX12_isMore_292 ?_
                      refine hdead _ e (by rw [hR2, e1]; rfl) (tkF_er e1) ⟨((i1.trans h2.1.1).trans (exFr_f _ _ (by omega))).trans (exFr_f _ _ (by omega)), ?_, ?_⟩
                      · rw [sI_1, if_neg (by omega), sI_1, if_neg (by omega)]; exact h2.1.2.1
                      · rw [sI_1, if_neg (by omega), sI_1, if_neg (by omega)]; exact h2.1.2.2
                    · rw [e1] at h2
                      obtain ⟨f1, h3⟩ := h2
                      have a1 := psF_ok (tkF_ok e1).2
                      have ew : u1.1 31 49 = nI (r.length + 1) := h3.2.2.2.2.2.1
                      have eo : o = 1 + ops r := by
                        have h8 : o = ops (x :: r) := i4
                        rw [ops, if_pos (Or.inl hx6)] at h8
                        exact h8
                      have hp := ex_pop h3
                      have eop : (sI u1 31 49 (nI r.length)).1 31 11 = nI o := hp.2.2.1
                      refine g_ald0 eX12_isMore_272 ?_
                      refine g_dup rfl eX12_isMore_273 ?_
                      refine g_getI (ci := 11) (j := 49) rfl (Nat.le_of_ble_eq_true rfl) (Nat.le_of_ble_eq_true rfl) (Nat.le_of_ble_eq_true rfl) rfl fl_X12_314 eX12_isMore_274 ?_
                      rw [ew]
                      refine g_iconst (v := 1) (by decide) eX12_isMore_277 ?_
                      refine g_isub eX12_isMore_278 ?_
                      rw [show nI (r.length + 1) - 1 = nI r.length from nI_pred _]
                      refine g_putI (ci := 11) (j := 49) rfl rfl (Nat.le_of_ble_eq_true rfl) (Nat.le_of_ble_eq_true rfl) (Nat.le_of_ble_eq_true rfl) rfl fl_X12_314 eX12_isMore_279 ?_
                      refine g_ald0 eX12_isMore_282 ?_
                      refine g_dup rfl eX12_isMore_283 ?_
                      refine g_getI (ci := 11) (j := 11) rfl (Nat.le_of_ble_eq_true rfl) (Nat.le_of_ble_eq_true rfl) (Nat.le_of_ble_eq_true rfl) rfl fl_X12_247 eX12_isMore_284 ?_
                      rw [eop, eo]
                      refine g_iconst (v := 1) (by decide) eX12_isMore_287 ?_
                      refine g_isub eX12_isMore_288 ?_
                      rw [show nI (1 + ops r) - 1 = nI (ops r) by rw [Nat.add_comm]; exact nI_pred _]
                      refine g_putI (ci := 11) (j := 11) rfl rfl (Nat.le_of_ble_eq_true rfl) (Nat.le_of_ble_eq_true rfl) (Nat.le_of_ble_eq_true rfl) rfl fl_X12_247 eX12_isMore_289 ?_
                      refine g_goto eX12_isMore_292 ?_
                      have hp2 := ex_op hp (ops r)
                      refine ih r.length (by omega) _ s1 (ops r) C w r rfl ⟨((i1.trans f1).trans (exFr_f _ _ (by omega))).trans (exFr_f _ _ (by omega)), hp2, i3.1, rfl, ?_, ?_, ?_, ?_, ?_, trn_s i10 a1.2.2⟩ (by omega) (by rw [hR2, e1]; rfl)
                      · show ops r ≤ 6
                        have : o ≤ 6 := i5
                        omega
                      · show s1.2.1.length + nop r ≤ s1.1
                        rw [nop, if_pos hx6] at hi6
                        rw [a1.2.2, a1.1]; omega
                      · show r.length ≤ s1.1
                        omega
                      · show 1 ≤ s1.1
                        omega
                      · show C.length ≤ s1.2.1.length
                        rw [a1.2.2]; exact i9
                  · exact absurd ((nI_eq (a := (x :: r).length) (b := 0) (by rw [List.length_cons]; omega) (by omega)).mp hb4) (by rw [List.length_cons]; omega)
              · rw [b2_ne0] at hb3
                have hk5 : K s.1 = 45 := (mkK_is hv.2.2.2.2.1 (b := 45) (k := 9) (by decide) rfl).mp hb3
                refine push 9 hb3 (by omega) (by omega) (fun z => absurd z (by decide)) (fun _ => c2) ?_
                rw [c3]
                exact kon_plus hw6 ht h1 9 0 (Or.inr ⟨hk5, rfl⟩)
      have stage2 : ∀ (u : St) (s : GS) (o : Nat) (C : List (Nat × Nat)) (w : Nat × Nat) (q : List WE), q.length ≤ f → IV K P V W Nm bs st B u (s, o, C, w, q) → A0.1.1 ≤ s.1 → (tpk q = 0 ∨ tpk q = 6 ∨ tpk q = 8 ∨ tpk q = 9) → R = (kon K q).1 s → G xp l xe (rmd (3)) xs xm xa xb xme xc D cy xad xA (YX12_isMore.2.1, YX12_isMore.1.cls, YX12_isMore.2.2.1, YX12_isMore.2.2.2) (Pi (imP K P V W Nm bs st B A0.1.1 R)) 149 ([some (.ref 31)]) ([]) (u) := by
        intro u s o C w q hq hI hn hc hR
        have hI9 := hI
        obtain ⟨i1, i2, i3, i4, i5, i6, i7, i8, i9, i10⟩ := hI
        have hSu := SB_fr hS0 i1
        have ht : s.1 ≤ 300 := i2.1.2.1
        have h1 : 1 ≤ s.1 := i8
        have hql : q.length ≤ s.1 := i7
        have hi6 : s.2.1.length + nop q ≤ s.1 := i6
        have hv := hSu.1 s.1 ht i2.1.2.2
        have hk9 : ∀ x ∈ q, x.1 < 100 := fun x hx => by have := wfW_kind i3 x hx; omega
        have hpop : K s.1 ≠ 42 → (tpk q = 8 ∨ tpk q = 9) → G xp l xe (rmd (3)) xs xm xa xb xme xc D cy xad xA (YX12_isMore.2.1, YX12_isMore.1.cls, YX12_isMore.2.2.1, YX12_isMore.2.2.2) (Pi (imP K P V W Nm bs st B A0.1.1 R)) 176 ([some (.ref 31)]) ([]) (u) := by
          intro hk hs
          rcases hqe : q with _ | ⟨x, r⟩
          · rw [hqe] at hs
            have hs2 : (0 : Nat) = 8 ∨ (0 : Nat) = 9 := hs
            omega
          · rw [hqe] at i2 i3 i4 i6 i7 i10 hR hq hql hi6 hs
            have hx : x.1 = 8 ∨ x.1 = 9 := hs
            rw [List.length_cons] at hq hql
            rw [kon_sign hx ht h1 hk] at hR
            have ew : u.1 31 49 = nI (r.length + 1) := i2.2.2.2.2.2.1
            have hp := ex_pop i2
            have hrow : (sI u 31 49 (nI r.length)).1 59 r.length = nI x.1 := by
              rw [sI_row (by decide)]
              have h8 := (i2.2.2.2.2.2.2 r.length (by show r.length < (x :: r).length; rw [List.length_cons]; omega)).1
              have e0 : (x :: r).length - 1 - r.length = 0 := by rw [List.length_cons]; omega
              dsimp only at h8
              rw [e0] at h8
              exact h8
            have hwr := i3.2
            have htr : tpk r = 0 ∨ tpk r = 6 := by omega
            have fin : ∀ k : Nat, cdT Nm V W bs (if x.1 = 8 then 43 else 45, s.1) = [(k, 0)] → G xp l xe (rmd (3)) xs xm xa xb xme xc D cy xad xA (YX12_isMore.2.1, YX12_isMore.1.cls, YX12_isMore.2.2.1, YX12_isMore.2.2.2) (Pi (imP K P V W Nm bs st B A0.1.1 R)) 206 ([some (.ref 31)]) ([.int (nI k), .ref 31]) (sI u 31 49 (nI r.length)) := by
              intro k hk2
              refine g_iconst (v := 0) (by decide) eX12_isMore_206 ?_
              refine g_callVv (ci := 11) (w_emit _ hp (by show C.length < 400; have : C.length ≤ s.2.1.length := i9; omega) k 0 _ _ rfl rfl) rfl (Nat.le_of_ble_eq_true rfl) (Nat.le_of_ble_eq_true rfl) rfl cv_X12_329 eX12_isMore_207 ⟨Nat.le_of_ble_eq_true rfl, Nat.le_of_ble_eq_true rfl⟩ rfl rfl (Nat.le_of_ble_eq_true rfl) (fun u2 h2 => ?_)
              obtain ⟨f2, h2⟩ := h2
              refine stage3 u2 (wrF (if x.1 = 8 then 43 else 45) s.1 s) o (C ++ [(k, 0)]) w r (by omega) ⟨(i1.trans (exFr_f _ _ (by omega))).trans f2, h2, i3.1, ?_, i5, ?_, ?_, i8, ?_, ?_⟩ hn (Or.inr ⟨hk, htr, hR⟩)
              · show o = ops r
                have h8 : o = ops (x :: r) := i4
                rw [ops, if_neg (by omega), Nat.zero_add] at h8
                exact h8
              · show (s.2.1 ++ [_]).length + nop r ≤ s.1
                rw [nop, if_neg (by omega)] at hi6
                rw [List.length_append, List.length_singleton]; omega
              · show r.length ≤ s.1
                omega
              · show (C ++ [(k, 0)]).length ≤ (s.2.1 ++ [_]).length
                rw [List.length_append, List.length_append, List.length_singleton, List.length_singleton]
                have : C.length ≤ s.2.1.length := i9
                omega
              · have h8 := trn_wr i10 (if x.1 = 8 then 43 else 45) s.1 o r
                rw [hk2] at h8
                exact h8
            refine g_ald0 eX12_isMore_176 ?_
            refine g_dup rfl eX12_isMore_177 ?_
            refine g_getI (ci := 11) (j := 49) rfl (Nat.le_of_ble_eq_true rfl) (Nat.le_of_ble_eq_true rfl) (Nat.le_of_ble_eq_true rfl) rfl fl_X12_314 eX12_isMore_178 ?_
            rw [ew]
            refine g_iconst (v := 1) (by decide) eX12_isMore_181 ?_
            refine g_isub eX12_isMore_182 ?_
            rw [show nI (r.length + 1) - 1 = nI r.length from nI_pred _]
            refine g_putI (ci := 11) (j := 49) rfl rfl (Nat.le_of_ble_eq_true rfl) (Nat.le_of_ble_eq_true rfl) (Nat.le_of_ble_eq_true rfl) rfl fl_X12_314 eX12_isMore_183 ?_
            refine g_ald0 eX12_isMore_186 ?_
            refine g_ald0 eX12_isMore_187 ?_
            refine g_getR (ci := 11) (j := 47) rfl (Nat.le_of_ble_eq_true rfl) (Nat.le_of_ble_eq_true rfl) (Nat.le_of_ble_eq_true rfl) rfl rfl fl_X12_97 eX12_isMore_188 ?_
            refine g_ald0 eX12_isMore_191 ?_
            refine g_getI (ci := 11) (j := 49) rfl (Nat.le_of_ble_eq_true rfl) (Nat.le_of_ble_eq_true rfl) (Nat.le_of_ble_eq_true rfl) rfl fl_X12_314 eX12_isMore_192 ?_
            rw [show (sI u 31 49 (nI r.length)).1 31 49 = nI r.length by rw [sI_1, if_pos ⟨rfl, rfl⟩]]
            refine g_iald rfl (Nat.le_of_ble_eq_true rfl) (vp_in_nI (n := r.length) (N := 320) (by omega) (by decide)) eX12_isMore_195 ?_
            rw [nI_clamp (by omega), hrow]
            refine g_bipush (v := 8) (by decide) eX12_isMore_196 ?_
            refine g_icmp_ne eX12_isMore_198 (fun hb4 => ?_) (fun hb4 => ?_)
            · have e8 : ¬ x.1 = 8 := fun z => hb4 (by rw [z]; rfl)
              refine g_iconst (v := 4) (by decide) eX12_isMore_205 ?_
              exact fin 4 (by rw [if_neg e8]; rfl)
            · have e8 : x.1 = 8 := (nI_eq (b := 8) (by omega) (by omega)).mp hb4
              refine g_iconst (v := 3) (by decide) eX12_isMore_201 ?_
              refine g_goto eX12_isMore_202 ?_
              exact fin 3 (by rw [if_pos e8]; rfl)
        refine g_ald0 eX12_isMore_149 ?_
        refine g_bipush (v := 10) (by decide) eX12_isMore_150 ?_
        refine g_callVi (ci := 11) (w_is u hSu.1 i2 10 (by decide)) rfl (Nat.le_of_ble_eq_true rfl) (Nat.le_of_ble_eq_true rfl) rfl cv_X12_235 eX12_isMore_152 ⟨Nat.le_of_ble_eq_true rfl, Nat.le_of_ble_eq_true rfl⟩ rfl rfl (Nat.le_of_ble_eq_true rfl) (fun r u h9 => ?_)
        obtain ⟨rfl, rfl⟩ := h9
        refine g_if_ne eX12_isMore_155 (fun hb => ?_) (fun hb => ?_)
        · rw [b2_ne0] at hb
          have hk : K s.1 = 42 := (mkK_is hv.2.2.2.2.1 (b := 42) (k := 10) (by decide) rfl).mp hb
          exact stage3 u s o C w q hq hI9 hn (Or.inl ⟨hk, hc, hR⟩)
        · rw [b2_eq0] at hb
          have hk : ¬ K s.1 = 42 := fun z => hb ((mkK_is hv.2.2.2.2.1 (b := 42) (k := 10) (by decide) rfl).mpr z)
          refine g_ald0 eX12_isMore_158 ?_
          refine g_bipush (v := 8) (by decide) eX12_isMore_159 ?_
          refine g_callVi (ci := 11) (w_waitsOn u i2 (by show q.length < 320; omega) hk9 8 (by decide) (by decide)) rfl (Nat.le_of_ble_eq_true rfl) (Nat.le_of_ble_eq_true rfl) rfl cv_X12_332 eX12_isMore_161 ⟨Nat.le_of_ble_eq_true rfl, Nat.le_of_ble_eq_true rfl⟩ rfl rfl (Nat.le_of_ble_eq_true rfl) (fun r u h9 => ?_)
          obtain ⟨rfl, rfl⟩ := h9
          refine g_if_ne eX12_isMore_164 (fun hb2 => ?_) (fun hb2 => ?_)
          · rw [b2_ne0] at hb2
            exact hpop hk (Or.inl hb2)
          · rw [b2_eq0] at hb2
            refine g_ald0 eX12_isMore_167 ?_
            refine g_bipush (v := 9) (by decide) eX12_isMore_168 ?_
            refine g_callVi (ci := 11) (w_waitsOn u i2 (by show q.length < 320; omega) hk9 9 (by decide) (by decide)) rfl (Nat.le_of_ble_eq_true rfl) (Nat.le_of_ble_eq_true rfl) rfl cv_X12_332 eX12_isMore_170 ⟨Nat.le_of_ble_eq_true rfl, Nat.le_of_ble_eq_true rfl⟩ rfl rfl (Nat.le_of_ble_eq_true rfl) (fun r u h9 => ?_)
            obtain ⟨rfl, rfl⟩ := h9
            refine g_if_eq eX12_isMore_173 (fun hb3 => ?_) (fun hb3 => ?_)
            · rw [b2_eq0] at hb3
              have n8 : ¬ tpk q = 8 := hb2
              have n9 : ¬ tpk q = 9 := hb3
              have hc2 : tpk q = 0 ∨ tpk q = 6 := by omega
              refine stage3 u s o C w q hq hI9 hn (Or.inr ⟨hk, hc2, ?_⟩)
              rw [hR]
              exact kon_no (hc2.elim (fun z => Or.inr (tpk_0 i3 z)) Or.inl) ht h1 hk
            · rw [b2_ne0] at hb3
              exact hpop hk (Or.inr hb3)
      intro u s o C w Wt hf hI hn hR
      have hI9 := hI
      obtain ⟨i1, i2, i3, i4, i5, i6, i7, i8, i9, i10⟩ := hI
      have ht : s.1 ≤ 300 := i2.1.2.1
      have hql : Wt.length ≤ s.1 := i7
      have hi6 : s.2.1.length + nop Wt ≤ s.1 := i6
      have hi9 : C.length ≤ s.2.1.length := i9
      have hk9 : ∀ x ∈ Wt, x.1 < 100 := fun x hx => by have := wfW_kind i3 x hx; omega
      refine g_ald0 eX12_isMore_0 ?_
      refine g_getI (ci := 11) (j := 12) rfl (Nat.le_of_ble_eq_true rfl) (Nat.le_of_ble_eq_true rfl) (Nat.le_of_ble_eq_true rfl) rfl fl_X12_217 eX12_isMore_1 ?_
      rw [i2.2.1]
      refine g_if_ne eX12_isMore_4 (fun hb => ?_) (fun hb => ?_)
      · exact absurd rfl hb
      · refine g_ald0 eX12_isMore_7 ?_
        refine g_bipush (v := 24) (by decide) eX12_isMore_8 ?_
        refine g_callVi (ci := 11) (w_waitsOn u i2 (by show Wt.length < 320; omega) hk9 24 (by decide) (by decide)) rfl (Nat.le_of_ble_eq_true rfl) (Nat.le_of_ble_eq_true rfl) rfl cv_X12_332 eX12_isMore_10 ⟨Nat.le_of_ble_eq_true rfl, Nat.le_of_ble_eq_true rfl⟩ rfl rfl (Nat.le_of_ble_eq_true rfl) (fun r u h9 => ?_)
        obtain ⟨rfl, rfl⟩ := h9
        refine g_if_eq eX12_isMore_13 (fun hb1 => ?_) (fun hb1 => ?_)
        · rw [b2_eq0] at hb1
          have n24 : ¬ tpk Wt = 24 := hb1
          refine g_ald0 eX12_isMore_77 ?_
          refine g_bipush (v := 25) (by decide) eX12_isMore_78 ?_
          refine g_callVi (ci := 11) (w_waitsOn u i2 (by show Wt.length < 320; omega) hk9 25 (by decide) (by decide)) rfl (Nat.le_of_ble_eq_true rfl) (Nat.le_of_ble_eq_true rfl) rfl cv_X12_332 eX12_isMore_80 ⟨Nat.le_of_ble_eq_true rfl, Nat.le_of_ble_eq_true rfl⟩ rfl rfl (Nat.le_of_ble_eq_true rfl) (fun r u h9 => ?_)
          obtain ⟨rfl, rfl⟩ := h9
          refine g_if_eq eX12_isMore_83 (fun hb2 => ?_) (fun hb2 => ?_)
          · rw [b2_eq0] at hb2
            have n25 : ¬ tpk Wt = 25 := hb2
            refine g_ald0 eX12_isMore_124 ?_
            refine g_bipush (v := 10) (by decide) eX12_isMore_125 ?_
            refine g_callVi (ci := 11) (w_waitsOn u i2 (by show Wt.length < 320; omega) hk9 10 (by decide) (by decide)) rfl (Nat.le_of_ble_eq_true rfl) (Nat.le_of_ble_eq_true rfl) rfl cv_X12_332 eX12_isMore_127 ⟨Nat.le_of_ble_eq_true rfl, Nat.le_of_ble_eq_true rfl⟩ rfl rfl (Nat.le_of_ble_eq_true rfl) (fun r u h9 => ?_)
            obtain ⟨rfl, rfl⟩ := h9
            refine g_if_eq eX12_isMore_130 (fun hb3 => ?_) (fun hb3 => ?_)
            · rw [b2_eq0] at hb3
              have n10 : ¬ tpk Wt = 10 := hb3
              refine stage2 u s o C w Wt (by omega) hI9 hn ?_ hR
              cases Wt with
              | nil => exact Or.inl rfl
              | cons x r =>
                have h8 := wfW_kind i3 x List.mem_cons_self
                have e : tpk (x :: r) = x.1 := rfl
                omega
            · rw [b2_ne0] at hb3
              rcases hqe : Wt with _ | ⟨x, r⟩
              · rw [hqe] at hb3
                have h8 : (0 : Nat) = 10 := hb3
                omega
              · rw [hqe] at i2 i3 i4 i6 i7 i10 hR hf hql hi6 hb3
                have hx : x.1 = 10 := hb3
                rw [List.length_cons] at hf hql
                have ew : u.1 31 49 = nI (r.length + 1) := i2.2.2.2.2.2.1
                have hp := ex_pop i2
                have hwr := i3.2
                have htr : tpk r = 0 ∨ tpk r = 6 ∨ tpk r = 8 ∨ tpk r = 9 := by omega
                have hR2 : R = (kon K r).1 (wrF 42 s.1 s) := by
                  rw [hR, kon, if_neg (by omega), if_neg (by omega), if_neg (by omega), if_pos hx]
                refine g_ald0 eX12_isMore_133 ?_
                refine g_dup rfl eX12_isMore_134 ?_
                refine g_getI (ci := 11) (j := 49) rfl (Nat.le_of_ble_eq_true rfl) (Nat.le_of_ble_eq_true rfl) (Nat.le_of_ble_eq_true rfl) rfl fl_X12_314 eX12_isMore_135 ?_
                rw [ew]
                refine g_iconst (v := 1) (by decide) eX12_isMore_138 ?_
                refine g_isub eX12_isMore_139 ?_
                rw [show nI (r.length + 1) - 1 = nI r.length from nI_pred _]
                refine g_putI (ci := 11) (j := 49) rfl rfl (Nat.le_of_ble_eq_true rfl) (Nat.le_of_ble_eq_true rfl) (Nat.le_of_ble_eq_true rfl) rfl fl_X12_314 eX12_isMore_140 ?_
                refine g_ald0 eX12_isMore_143 ?_
                refine g_iconst (v := 5) (by decide) eX12_isMore_144 ?_
                refine g_iconst (v := 0) (by decide) eX12_isMore_145 ?_
                refine g_callVv (ci := 11) (w_emit _ hp (by show C.length < 400; omega) 5 0 _ _ rfl rfl) rfl (Nat.le_of_ble_eq_true rfl) (Nat.le_of_ble_eq_true rfl) rfl cv_X12_329 eX12_isMore_146 ⟨Nat.le_of_ble_eq_true rfl, Nat.le_of_ble_eq_true rfl⟩ rfl rfl (Nat.le_of_ble_eq_true rfl) (fun u2 h2 => ?_)
                obtain ⟨f2, h2⟩ := h2
                refine stage2 u2 (wrF 42 s.1 s) o (C ++ [(5, 0)]) w r (by omega) ⟨(i1.trans (exFr_f _ _ (by omega))).trans f2, h2, i3.1, ?_, i5, ?_, ?_, i8, ?_, trn_wr i10 42 s.1 o r⟩ hn htr hR2
                · show o = ops r
                  have h8 : o = ops (x :: r) := i4
                  rw [ops, if_neg (by omega), Nat.zero_add] at h8
                  exact h8
                · show (s.2.1 ++ [_]).length + nop r ≤ s.1
                  rw [nop, if_neg (by omega)] at hi6
                  rw [List.length_append, List.length_singleton]; omega
                · show r.length ≤ s.1
                  omega
                · show (C ++ [(5, 0)]).length ≤ (s.2.1 ++ [_]).length
                  rw [List.length_append, List.length_append, List.length_singleton, List.length_singleton]
                  omega
          · rw [b2_ne0] at hb2
            rcases hqe : Wt with _ | ⟨x, r⟩
            · rw [hqe] at hb2
              have h8 : (0 : Nat) = 25 := hb2
              omega
            · rw [hqe] at i2 i3 i4 i6 i7 i10 hR hf hql hi6 hb2
              have hx : x.1 = 25 := hb2
              rw [List.length_cons] at hf hql
              have ew : u.1 31 49 = nI (r.length + 1) := i2.2.2.2.2.2.1
              have hp := ex_pop i2
              have hwr := i3.2
              have htb : x.2.1 = tbF Nm W (x.2.2 + 1) := by omega
              have eo : o = 1 + ops r := by
                have h8 : o = ops (x :: r) := i4
                rw [ops, if_pos (by omega)] at h8
                exact h8
              have hR2 : R = (kon K r).1 (wrF 9 (x.2.2 + 1) s) := by
                rw [hR, kon, if_neg (by omega), if_neg (by omega), if_pos hx]
              have eop : (sI u 31 49 (nI r.length)).1 31 11 = nI o := hp.2.2.1
              have hp2 := ex_op hp (ops r)
              have hrow : (sI (sI u 31 49 (nI r.length)) 31 11 (nI (ops r))).1 60 r.length = nI x.2.1 := by
                rw [sI_row (by decide), sI_row (by decide)]
                have h8 := (i2.2.2.2.2.2.2 r.length (by show r.length < (x :: r).length; rw [List.length_cons]; omega)).2
                have e0 : (x :: r).length - 1 - r.length = 0 := by rw [List.length_cons]; omega
                dsimp only at h8
                rw [e0] at h8
                exact h8
              refine g_ald0 eX12_isMore_86 ?_
              refine g_dup rfl eX12_isMore_87 ?_
              refine g_getI (ci := 11) (j := 49) rfl (Nat.le_of_ble_eq_true rfl) (Nat.le_of_ble_eq_true rfl) (Nat.le_of_ble_eq_true rfl) rfl fl_X12_314 eX12_isMore_88 ?_
              rw [ew]
              refine g_iconst (v := 1) (by decide) eX12_isMore_91 ?_
              refine g_isub eX12_isMore_92 ?_
              rw [show nI (r.length + 1) - 1 = nI r.length from nI_pred _]
              refine g_putI (ci := 11) (j := 49) rfl rfl (Nat.le_of_ble_eq_true rfl) (Nat.le_of_ble_eq_true rfl) (Nat.le_of_ble_eq_true rfl) rfl fl_X12_314 eX12_isMore_93 ?_
              refine g_ald0 eX12_isMore_96 ?_
              refine g_dup rfl eX12_isMore_97 ?_
              refine g_getI (ci := 11) (j := 11) rfl (Nat.le_of_ble_eq_true rfl) (Nat.le_of_ble_eq_true rfl) (Nat.le_of_ble_eq_true rfl) rfl fl_X12_247 eX12_isMore_98 ?_
              rw [eop, eo]
              refine g_iconst (v := 1) (by decide) eX12_isMore_101 ?_
              refine g_isub eX12_isMore_102 ?_
              rw [show nI (1 + ops r) - 1 = nI (ops r) by rw [Nat.add_comm]; exact nI_pred _]
              refine g_putI (ci := 11) (j := 11) rfl rfl (Nat.le_of_ble_eq_true rfl) (Nat.le_of_ble_eq_true rfl) (Nat.le_of_ble_eq_true rfl) rfl fl_X12_247 eX12_isMore_103 ?_
              refine g_ald0 eX12_isMore_106 ?_
              refine g_bipush (v := 7) (by decide) eX12_isMore_107 ?_
              refine g_ald0 eX12_isMore_109 ?_
              refine g_getR (ci := 11) (j := 48) rfl (Nat.le_of_ble_eq_true rfl) (Nat.le_of_ble_eq_true rfl) (Nat.le_of_ble_eq_true rfl) rfl rfl fl_X12_100 eX12_isMore_110 ?_
              refine g_ald0 eX12_isMore_113 ?_
              refine g_getI (ci := 11) (j := 49) rfl (Nat.le_of_ble_eq_true rfl) (Nat.le_of_ble_eq_true rfl) (Nat.le_of_ble_eq_true rfl) rfl fl_X12_314 eX12_isMore_114 ?_
              rw [show (sI (sI u 31 49 (nI r.length)) 31 11 (nI (ops r))).1 31 49 = nI r.length by rw [sI_1, if_neg (by omega), sI_1, if_pos ⟨rfl, rfl⟩]]
              refine g_iald rfl (Nat.le_of_ble_eq_true rfl) (vp_in_nI (n := r.length) (N := 320) (by omega) (by decide)) eX12_isMore_117 ?_
              rw [nI_clamp (by omega), hrow]
              refine g_callVv (ci := 11) (w_emit _ hp2 (by show C.length < 400; omega) 7 x.2.1 _ _ rfl rfl) rfl (Nat.le_of_ble_eq_true rfl) (Nat.le_of_ble_eq_true rfl) rfl cv_X12_329 eX12_isMore_118 ⟨Nat.le_of_ble_eq_true rfl, Nat.le_of_ble_eq_true rfl⟩ rfl rfl (Nat.le_of_ble_eq_true rfl) (fun u2 h2 => ?_)
              obtain ⟨f2, h2⟩ := h2
              refine g_goto eX12_isMore_121 ?_
              refine ih r.length (by omega) u2 (wrF 9 (x.2.2 + 1) s) (ops r) (C ++ [(7, x.2.1)]) w r rfl ⟨((i1.trans (exFr_f _ _ (by omega))).trans (exFr_f _ _ (by omega))).trans f2, h2, i3.1, rfl, ?_, ?_, ?_, i8, ?_, ?_⟩ hn hR2
              · show ops r ≤ 6
                have : o ≤ 6 := i5
                omega
              · show (s.2.1 ++ [_]).length + nop r ≤ s.1
                rw [nop, if_neg (by omega)] at hi6
                rw [List.length_append, List.length_singleton]; omega
              · show r.length ≤ s.1
                omega
              · show (C ++ [_]).length ≤ (s.2.1 ++ [_]).length
                rw [List.length_append, List.length_append, List.length_singleton, List.length_singleton]
                omega
              · have h8 := trn_wr i10 9 (x.2.2 + 1) (ops r) r
                have ec : cdT Nm V W bs (9, x.2.2 + 1) = [(7, x.2.1)] := by rw [htb]; rfl
                rw [ec] at h8
                exact h8
        · rw [b2_ne0] at hb1
          rcases hqe : Wt with _ | ⟨x, r⟩
          · rw [hqe] at hb1
            have h8 : (0 : Nat) = 24 := hb1
            omega
          · rw [hqe] at i2 i3 i4 i6 i7 i10 hR hf hql hi6 hb1
            obtain ⟨x1, k, c⟩ := x
            have hx : x1 = 24 := hb1
            subst hx
            rw [List.length_cons] at hf hql
            have ew : u.1 31 49 = nI (r.length + 1) := i2.2.2.2.2.2.1
            have hwr := i3.2
            have hk13 : 1 ≤ k ∧ k ≤ 3 := by
              dsimp only at hwr
              omega
            have hin : vp_in (nI r.length) 320 := vp_in_nI (by omega) (by decide)
            have hcl : (nI r.length).toNatClampNeg = r.length := nI_clamp (by omega)
            have hrow : u.1 60 r.length = nI k := by
              have h8 := (i2.2.2.2.2.2.2 r.length (by show r.length < (((24, k, c) : WE) :: r).length; rw [List.length_cons]; omega)).2
              have e0 : (((24, k, c) : WE) :: r).length - 1 - r.length = 0 := by rw [List.length_cons]; omega
              dsimp only at h8
              rw [e0] at h8
              exact h8
            have hd : exOK K (sI u 60 r.length (nI (k - 1))) (s, o, C, w, (24, k - 1, c) :: r) := by
              obtain ⟨z1, z2, z3, z4, z5, z6⟩ := i2
              refine ⟨z1, z2, z3, z4, z5, z6.1, fun j hj => ?_⟩
              have hj2 : j < (((24, k - 1, c) : WE) :: r).length := hj
              rw [List.length_cons] at hj2
              have h8 := z6.2 j (by show j < (((24, k, c) : WE) :: r).length; rw [List.length_cons]; omega)
              dsimp only at h8 ⊢
              rw [List.length_cons] at h8 ⊢
              rw [sI_row (a := 59) (by decide), sI_at]
              by_cases e : j = r.length
              · rw [if_pos e, show r.length + 1 - 1 - j = 0 by omega]
                rw [show r.length + 1 - 1 - j = 0 by omega] at h8
                exact ⟨h8.1, rfl⟩
              · rw [if_neg e, show r.length + 1 - 1 - j = (r.length - 1 - j) + 1 by omega]
                rw [show r.length + 1 - 1 - j = (r.length - 1 - j) + 1 by omega] at h8
                exact h8
            refine g_ald0 eX12_isMore_16 ?_
            refine g_getR (ci := 11) (j := 48) rfl (Nat.le_of_ble_eq_true rfl) (Nat.le_of_ble_eq_true rfl) (Nat.le_of_ble_eq_true rfl) rfl rfl fl_X12_100 eX12_isMore_17 ?_
            refine g_ald0 eX12_isMore_20 ?_
            refine g_getI (ci := 11) (j := 49) rfl (Nat.le_of_ble_eq_true rfl) (Nat.le_of_ble_eq_true rfl) (Nat.le_of_ble_eq_true rfl) rfl fl_X12_314 eX12_isMore_21 ?_
            rw [ew]
            refine g_iconst (v := 1) (by decide) eX12_isMore_24 ?_
            refine g_isub eX12_isMore_25 ?_
            rw [show nI (r.length + 1) - 1 = nI r.length from nI_pred _]
            refine g_dup2 rfl rfl eX12_isMore_26 ?_
            refine g_iald rfl (Nat.le_of_ble_eq_true rfl) hin eX12_isMore_27 ?_
            rw [hcl, hrow]
            refine g_iconst (v := 1) (by decide) eX12_isMore_28 ?_
            refine g_isub eX12_isMore_29 ?_
            rw [show nI k - 1 = nI (k - 1) from nI_sub (a := k) (b := 1) hk13.1]
            refine g_iast rfl (Nat.le_of_ble_eq_true rfl) hin eX12_isMore_30 ?_
            refine g_ald0 eX12_isMore_31 ?_
            refine g_getR (ci := 11) (j := 48) rfl (Nat.le_of_ble_eq_true rfl) (Nat.le_of_ble_eq_true rfl) (Nat.le_of_ble_eq_true rfl) rfl rfl fl_X12_100 eX12_isMore_32 ?_
            refine g_ald0 eX12_isMore_35 ?_
            refine g_getI (ci := 11) (j := 49) rfl (Nat.le_of_ble_eq_true rfl) (Nat.le_of_ble_eq_true rfl) (Nat.le_of_ble_eq_true rfl) rfl fl_X12_314 eX12_isMore_36 ?_
            rw [hcl, show (sI u 60 r.length (nI (k - 1))).1 31 49 = nI (r.length + 1) from ew]
            refine g_iconst (v := 1) (by decide) eX12_isMore_39 ?_
            refine g_isub eX12_isMore_40 ?_
            rw [show nI (r.length + 1) - 1 = nI r.length from nI_pred _]
            refine g_iald rfl (Nat.le_of_ble_eq_true rfl) hin eX12_isMore_41 ?_
            rw [hcl, show (sI u 60 r.length (nI (k - 1))).1 60 r.length = nI (k - 1) by rw [sI_at, if_pos rfl]]
            have eo : o = 1 + ops r := by
              have h8 : o = ops ((24, k, c) :: r) := i4
              rw [ops, if_pos (by omega)] at h8
              exact h8
            refine g_if_le eX12_isMore_42 (fun hb4 => ?_) (fun hb4 => ?_)
            · have ek : k = 1 := by
                have h8 : nI (k - 1) ≤ nI 0 := hb4
                rw [nI_leI (by omega) (by omega)] at h8
                omega
              have hR2 : R = (kon K r).1 (wrF 8 c s) := by
                rw [hR, kon, if_neg (show ¬ (24 : Nat) = 6 by decide), if_pos (show (24 : Nat) = 24 by decide), ek]
                rfl
              have hp := ex_pop hd
              have ew2 : (sI u 60 r.length (nI (k - 1))).1 31 49 = nI (r.length + 1) := ew
              have eop : (sI (sI u 60 r.length (nI (k - 1))) 31 49 (nI r.length)).1 31 11 = nI o := hp.2.2.1
              have hp2 := ex_op hp (ops r)
              refine g_ald0 eX12_isMore_47 ?_
              refine g_dup rfl eX12_isMore_48 ?_
              refine g_getI (ci := 11) (j := 49) rfl (Nat.le_of_ble_eq_true rfl) (Nat.le_of_ble_eq_true rfl) (Nat.le_of_ble_eq_true rfl) rfl fl_X12_314 eX12_isMore_49 ?_
              rw [ew2]
              refine g_iconst (v := 1) (by decide) eX12_isMore_52 ?_
              refine g_isub eX12_isMore_53 ?_
              rw [show nI (r.length + 1) - 1 = nI r.length from nI_pred _]
              refine g_putI (ci := 11) (j := 49) rfl rfl (Nat.le_of_ble_eq_true rfl) (Nat.le_of_ble_eq_true rfl) (Nat.le_of_ble_eq_true rfl) rfl fl_X12_314 eX12_isMore_54 ?_
              refine g_ald0 eX12_isMore_57 ?_
              refine g_dup rfl eX12_isMore_58 ?_
              refine g_getI (ci := 11) (j := 11) rfl (Nat.le_of_ble_eq_true rfl) (Nat.le_of_ble_eq_true rfl) (Nat.le_of_ble_eq_true rfl) rfl fl_X12_247 eX12_isMore_59 ?_
              rw [eop, eo]
              refine g_iconst (v := 1) (by decide) eX12_isMore_62 ?_
              refine g_isub eX12_isMore_63 ?_
              rw [show nI (1 + ops r) - 1 = nI (ops r) by rw [Nat.add_comm]; exact nI_pred _]
              refine g_putI (ci := 11) (j := 11) rfl rfl (Nat.le_of_ble_eq_true rfl) (Nat.le_of_ble_eq_true rfl) (Nat.le_of_ble_eq_true rfl) rfl fl_X12_247 eX12_isMore_64 ?_
              refine g_ald0 eX12_isMore_67 ?_
              refine g_bipush (v := 6) (by decide) eX12_isMore_68 ?_
              refine g_iconst (v := 0) (by decide) eX12_isMore_70 ?_
              refine g_callVv (ci := 11) (w_emit _ hp2 (by show C.length < 400; omega) 6 0 _ _ rfl rfl) rfl (Nat.le_of_ble_eq_true rfl) (Nat.le_of_ble_eq_true rfl) rfl cv_X12_329 eX12_isMore_71 ⟨Nat.le_of_ble_eq_true rfl, Nat.le_of_ble_eq_true rfl⟩ rfl rfl (Nat.le_of_ble_eq_true rfl) (fun u2 h2 => ?_)
              obtain ⟨f2, h2⟩ := h2
              refine g_goto eX12_isMore_74 ?_
              refine ih r.length (by omega) u2 (wrF 8 c s) (ops r) (C ++ [(6, 0)]) w r rfl ⟨(((i1.trans (exFr_r _ _ (by omega))).trans (exFr_f _ _ (by omega))).trans (exFr_f _ _ (by omega))).trans f2, h2, i3.1, rfl, ?_, ?_, ?_, i8, ?_, trn_wr i10 8 c (ops r) r⟩ hn hR2
              · show ops r ≤ 6
                have : o ≤ 6 := i5
                omega
              · show (s.2.1 ++ [_]).length + nop r ≤ s.1
                rw [nop, if_neg (show ¬ (24 : Nat) = 6 by decide)] at hi6
                rw [List.length_append, List.length_singleton]; omega
              · show r.length ≤ s.1
                omega
              · show (C ++ [_]).length ≤ (s.2.1 ++ [_]).length
                rw [List.length_append, List.length_append, List.length_singleton, List.length_singleton]
                omega
            · have ek : 2 ≤ k := by
                have h8 : ¬ nI (k - 1) ≤ nI 0 := hb4
                rw [nI_leI (by omega) (by omega)] at h8
                omega
              refine g_iconst (v := 1) (by decide) eX12_isMore_45 ?_
              refine g_zret (ty := .boolean) rfl (by first | rfl | assumption) eX12_isMore_46 ⟨_, rfl, ?_⟩
              try dsimp only
              refine Or.inr (Or.inl ⟨rfl, (s, o, C, w, (24, k - 1, c) :: r), ⟨i1.trans (exFr_r _ _ (by omega)), hd, ⟨i3.1, Or.inr (Or.inl ⟨rfl, by show 1 ≤ k - 1; omega, by show k - 1 ≤ 3; omega⟩)⟩, ?_, i5, ?_, ?_, i8, i9, trn_s i10 rfl⟩, hn, ?_⟩)
              · show o = ops ((24, k - 1, c) :: r)
                rw [ops, if_pos (show (24 : Nat) = 6 ∨ (24 : Nat) = 24 ∨ (24 : Nat) = 25 by decide)]; exact eo
              · show s.2.1.length + nop ((24, k - 1, c) :: r) ≤ s.1
                rw [nop, if_neg (show ¬ (24 : Nat) = 6 by decide)] at hi6 ⊢
                exact hi6
              · show ((24, k - 1, c) :: r).length ≤ s.1
                rw [List.length_cons]; omega
              · show R = gb (unitF K (6 - ops ((24, k - 1, c) :: r)) s) (kon K ((24, k - 1, c) :: r)).1
                rw [hR, kon, if_neg (show ¬ (24 : Nat) = 6 by decide), if_pos (show (24 : Nat) = 24 by decide), kon, if_neg (show ¬ (24 : Nat) = 6 by decide), if_pos (show (24 : Nat) = 24 by decide)]
                show chk _ (k - 1) _ s = gb _ (chk _ (k - 1 - 1) _)
                rw [show k - 1 = (k - 1 - 1) + 1 by omega]
                rfl
  exact loop _ u0 A0.1 A0.2.1 A0.2.2.1 A0.2.2.2.1 A0.2.2.2.2 rfl h0 (Nat.le_refl _) hR0
end EXPR
