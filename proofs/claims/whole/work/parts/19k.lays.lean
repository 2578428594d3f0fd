/-! THE MODEL LAYS: lays -/
def lyI (bs pg : Nat) (V : Nat → Nat) (cnt : Nat) (tbs : List Nat) (st u : St) (m : MS) (LV : List Int) : Prop := laF pg st u ∧ u.1 31 50 = 0 ∧ mwOK pg u m.2.1 ∧ m.2.2.1 = [] ∧ (∀ i, i < m.2.2.2.length → (u.1 41 (4 * pg + i)).toInt = toldF (m.2.2.2.getD i 0)) ∧ (∀ q, q < LV.length → (u.1 56 q).toInt = toldF (LV.getD q 0)) ∧ vkS bs m.2.1.length LV ∧ ∀ k, k < tbs.length → ∀ j, j < bs → (u.2 51 (13 * k + j)).toInt = coP bs V cnt (tbs.getD k 0) j
def lyP (K P : Nat → Nat) (pg : Nat) (st : St) (A : EA) (R : Nat ⊕ MS) (u : St) : Prop := ∃ v, laF pg st v ∧ exFr v u ∧ match R with
  | .inl a => exOK K u (A.1, A.2.1, A.2.2.1, (6, P a), A.2.2.2.2)
  | .inr m => u = v ∧ mwOK pg u m.2.1 ∧ ∀ i, i < m.2.2.2.length → (u.1 41 (4 * pg + i)).toInt = toldF (m.2.2.2.getD i 0)
section WLAYS
variable {l : Launch} {D : va_G} {cy : Nat → ClassId} {bs pg : Nat} {K P V W : Nat → Nat} {cnt : Nat} {tbs : List Nat} {cd : Nat × Nat → List (Nat × Nat)}
theorem cok_R {st u : St} {m : MS} {LV : List Int} (hL : LV.length ≤ 100) (ht : tbs.length ≤ 4) (hI : lyI bs pg V cnt tbs st u m LV) {i : Nat} {c x : Nat × Nat} (h1 : u.1 57 i = nI c.1) (h2 : u.1 58 i = nI c.2) (h : codR bs V m.1 LV tbs c x) : cok bs V cnt m.1 u i x := by
  obtain ⟨_, _, _, _, _, hl, _, hf⟩ := hI
  unfold cok
  rw [h1, h2]
  rcases h with ⟨k, e⟩ | ⟨k, j, hj, e, e2⟩ | ⟨k, j, hj, e, e2⟩ | ⟨k, j, hj, e, e2⟩ | ⟨k, e⟩ | ⟨k, e⟩ | ⟨k, e⟩ | ⟨k, e⟩ <;> rw [e]
  · exact Or.inl ⟨k, rfl, rfl⟩
  · exact Or.inr (Or.inl ⟨k, rfl, j, rfl, hj, e2⟩)
  · exact Or.inr (Or.inr (Or.inl ⟨k, rfl, j, rfl, by omega, by rw [e2]; exact hl j hj⟩))
  · exact Or.inr (Or.inr (Or.inr (Or.inl ⟨k, rfl, j, rfl, by omega, by rw [e2]; exact hf j hj⟩)))
  · exact Or.inr (Or.inr (Or.inr (Or.inr (Or.inl ⟨k, rfl⟩))))
  · exact Or.inr (Or.inr (Or.inr (Or.inr (Or.inr (Or.inl ⟨k, rfl⟩)))))
  · exact Or.inr (Or.inr (Or.inr (Or.inr (Or.inr (Or.inr (Or.inl ⟨k, rfl⟩))))))
  · exact Or.inr (Or.inr (Or.inr (Or.inr (Or.inr (Or.inr (Or.inr ⟨k, rfl⟩))))))
theorem codR_vk {n : Nat} {E : List NE} {LV : List Int} {c x : Nat × Nat} (hv : vkS bs n LV) (h : codR bs V E LV tbs c x) (k2 : x.1 = 2) : vk bs n (stF (V x.2) E) := by
  rcases h with ⟨k, e⟩ | ⟨k, j, hj, e, e2⟩ | ⟨k, j, hj, e, e2⟩ | ⟨k, j, hj, e, e2⟩ | ⟨k, e⟩ | ⟨k, e⟩ | ⟨k, e⟩ | ⟨k, e⟩
  · omega
  · rw [e2]; exact ⟨by omega, by omega⟩
  · rw [e2]
    refine hv _ ?_
    rw [List.getD_eq_getElem?_getD, List.getElem?_eq_getElem hj]
    exact List.getElem_mem hj
  · omega
  · omega
  · omega
  · omega
  · omega
theorem w_lays (st : St) (hS : tvM K P V W st) (hL : lsM bs pg st) {A : EA} (hA : exOK K st A) (hA0 : A.2.2.2.1.1 = 0) (ht4 : tbs.length ≤ 4) (htb : st.1 31 32 = nI tbs.length) (hpr : 0 < tbs.length → prm bs) (hen : ∀ k, k < tbs.length → ∀ j, j < bs → st.1 50 (13 * k + j) = nI (tnP V cnt (tbs.getD k 0) j % bs)) (gs : List GP) (hte : teOK st (tlH cd gs 0 0)) (hgl : gs.length ≤ 100) (hcd : ∀ i, i < (cdG cd gs).length → st.1 57 i = nI ((cdG cd gs).getD i (0, 0)).1 ∧ st.1 58 i = nI ((cdG cd gs).getD i (0, 0)).2) (hc4 : (cdG cd gs).length ≤ 300) (h7 : n7 gs ≤ 4) (E0 : List NE) (hH : lyH bs V cnt cd tbs gs (E0, [], [], []) []) (hG : ∀ g ∈ gs, g.2.2 ≤ 300 ∧ ∀ j, j < g.2.2 → K j ≠ 0 ∧ K j ≠ 1) : Mv l D cy 4 YX12_lays [.ref 31] st (lyP K P pg st A (mkG bs V cnt gs (E0, [], [], []))) := by
  have hbs := hL.1
  have h2 := hbs.2.1
  have h13 := hbs.2.2
  have hpg := hL.2.2
  have pgi : vp_in (nI pg) 5 := vp_in_nI (by omega) (by decide)
  have tll : (tlH cd gs 0 0).length = gs.length := by
    have : ∀ (gs : List GP) (a b : Nat), (tlH cd gs a b).length = gs.length := by
      intro gs
      induction gs with
      | nil => intro a b; rfl
      | cons g r ih => intro a b; rw [tlH, List.length_cons, List.length_cons, ih]
    exact this gs 0 0
  have n6l : ∀ gs : List GP, n6 gs ≤ gs.length := by
    intro gs
    induction gs with
    | nil => exact Nat.le_refl _
    | cons g r ih => rw [n6, List.length_cons]; split <;> omega
  generalize hR : mkG bs V cnt gs (E0, [], [], []) = R
  refine M.ofG [some (.ref 31), none, none, none] (by decide) (Nat.le_of_ble_eq_true rfl) rfl ?_
  intro xp xe xs xm xa xb xme xc xad xA
  have L40 : ∀ (r : List GP) (n fr : Nat) (m : MS) (LV : List Int) (u : St) (b3 : Option Value), n + r.length = gs.length → m.2.2.2.length + n7 r ≤ 4 → LV.length + n6 r ≤ 100 → lyH bs V cnt cd tbs r m LV → (∀ i, i < r.length → (tlH cd gs 0 0).getD (n + i) (0, 0, 0, 0) = (tlH cd r fr LV.length).getD i (0, 0, 0, 0)) → (∀ i, i < (cdG cd r).length → st.1 57 (fr + i) = nI ((cdG cd r).getD i (0, 0)).1 ∧ st.1 58 (fr + i) = nI ((cdG cd r).getD i (0, 0)).2) → fr + (cdG cd r).length ≤ 300 → (∀ g ∈ r, g.2.2 ≤ 300 ∧ ∀ j, j < g.2.2 → K j ≠ 0 ∧ K j ≠ 1) → lyI bs pg V cnt tbs st u m LV → mkG bs V cnt r m = R → G xp l xe (rmd (4)) xs xm xa xb xme xc D cy xad xA (YX12_lays.2.1, YX12_lays.1.cls, YX12_lays.2.2.1, YX12_lays.2.2.2) (Pv (lyP K P pg st A R)) 40 ([some (.ref 31), some (.int (nI m.2.2.2.length)), some (.int (nI n)), b3]) ([]) (u) := by
    intro r
    induction r with
    | nil =>
      intro n fr m LV u b3 hn ho hl hH htl hcd hfr hG hI hR2
      have e0 : n = gs.length := by simpa using hn
      rw [e0]
      refine g_ild2 eX12_lays_40 ?_
      refine g_ald0 eX12_lays_41 ?_
      refine g_getI (ci := 11) (j := 36) rfl (Nat.le_of_ble_eq_true rfl) (Nat.le_of_ble_eq_true rfl) (Nat.le_of_ble_eq_true rfl) rfl fl_X12_259 eX12_lays_42 ?_
      rw [hI.1.2.1 36 (by decide), hte.1, tll]
      refine g_icmp_ge eX12_lays_45 (fun hb => ?_) (fun hb => ?_)
      · refine g_vret rfl eX12_lays_142 ⟨rfl, ?_⟩
        try dsimp only
        rw [← hR2]
        exact ⟨u, hI.1, exFr.refl _, rfl, hI.2.2.1, hI.2.2.2.2.1⟩
      · exact absurd (Int32.le_refl _) hb
    | cons g r ih =>
      intro n fr m LV u b3 hn ho hl hH htl hcd hfr hG hI hR2
      have hI9 := hI
      obtain ⟨hF, f1, f2, f3, f4, f5, f6, f7⟩ := hI
      obtain ⟨d1, d2, d3, d4⟩ := hH
      have hlen : (g :: r).length = r.length + 1 := rfl
      rw [hlen] at hn
      have hn1 : n < gs.length := by omega
      have gG := hG g List.mem_cons_self
      have hLu := lsM_la hL hF
      obtain ⟨o1, o2⟩ := flat_one g.1 d3
      have ecd : cdG cd (g :: r) = g.1.flatMap cd ++ cdG cd r := by unfold cdG; simp
      have elen : (cdG cd (g :: r)).length = g.1.length + (cdG cd r).length := by rw [ecd, List.length_append, o1]
      rw [elen] at hfr
      have et := htl 0 (by rw [hlen]; omega)
      rw [show n + 0 = n by omega, tlH, show ∀ (a : TE) (b : List TE), (a :: b).getD 0 (0, 0, 0, 0) = a from fun _ _ => rfl, o1] at et
      obtain ⟨t1, t2, t3, t4⟩ := hte.2 n (by rw [tll]; omega)
      rw [et] at t1 t2 t3 t4
      have ni : vp_in (nI n) 100 := vp_in_nI (by omega) (by decide)
      have nc : (nI n).toNatClampNeg = n := nI_clamp (by omega)
      have hc : ∀ i, i < g.1.length → cok bs V cnt m.1 u (fr + i) (g.1.getD i (0, 0)) := by
        intro i hi
        obtain ⟨q1, q2⟩ := hcd i (by rw [elen]; omega)
        have e9 : (cdG cd (g :: r)).getD i (0, 0) = (g.1.flatMap cd).getD i (0, 0) := by rw [ecd, List.getD_eq_getElem?_getD, List.getElem?_append_left (by omega), ← List.getD_eq_getElem?_getD]
        rw [e9] at q1 q2
        refine cok_R (by omega) ht4 hI9 ?_ ?_ (o2 i hi)
        · rw [hF.1 57 (by decide) (by decide) (by decide) (by decide)]; exact q1
        · rw [hF.1 58 (by decide) (by decide) (by decide) (by decide)]; exact q2
      have hv : ∀ x ∈ g.1, x.1 = 2 → vk bs m.2.1.length (stF (V x.2) m.1) := by
        intro x hx k2
        obtain ⟨c, _, hc⟩ := d3 x hx
        exact codR_vk f6 hc k2
      have fg := foF_gw (cnt := cnt) (V := V) h2 g.1 (m := m) (by rw [f3]; exact fun c hc => absurd hc List.not_mem_nil) hv
      have fd := foF_dep (bs := bs) (V := V) (cnt := cnt) g.1 m (by rw [f3]; exact d1) (fun x hx => by obtain ⟨c, _, hc⟩ := d3 x hx; exact codR_in hc)
      have fo := foF_one bs V cnt g.1 m
      have ew := endP_w V g.2.1 g.2.2 (foF bs V cnt g.1 m)
      refine g_ild2 eX12_lays_40 ?_
      refine g_ald0 eX12_lays_41 ?_
      refine g_getI (ci := 11) (j := 36) rfl (Nat.le_of_ble_eq_true rfl) (Nat.le_of_ble_eq_true rfl) (Nat.le_of_ble_eq_true rfl) rfl fl_X12_259 eX12_lays_42 ?_
      rw [hF.2.1 36 (by decide), hte.1, tll]
      refine g_icmp_ge eX12_lays_45 (fun hb => ?_) (fun hb => ?_)
      · exact absurd hb (by rw [fa_le, nI_toInt (by omega), nI_toInt (by omega)]; omega)
      · refine g_ald0 eX12_lays_48 ?_
        refine g_getI (ci := 11) (j := 50) rfl (Nat.le_of_ble_eq_true rfl) (Nat.le_of_ble_eq_true rfl) (Nat.le_of_ble_eq_true rfl) rfl fl_X12_335 eX12_lays_49 ?_
        rw [f1]
        refine g_if_ne eX12_lays_52 (fun hb1 => ?_) (fun hb1 => ?_)
        · exact absurd rfl hb1
        · refine g_ald0 eX12_lays_55 ?_
          refine g_ald0 eX12_lays_56 ?_
          refine g_getR (ci := 11) (j := 39) rfl (Nat.le_of_ble_eq_true rfl) (Nat.le_of_ble_eq_true rfl) (Nat.le_of_ble_eq_true rfl) rfl rfl fl_X12_76 eX12_lays_57 ?_
          refine g_ild2 eX12_lays_60 ?_
          refine g_iald rfl (Nat.le_of_ble_eq_true rfl) ni eX12_lays_61 ?_
          refine g_ald0 eX12_lays_62 ?_
          refine g_getR (ci := 11) (j := 40) rfl (Nat.le_of_ble_eq_true rfl) (Nat.le_of_ble_eq_true rfl) (Nat.le_of_ble_eq_true rfl) rfl rfl fl_X12_79 eX12_lays_63 ?_
          refine g_ild2 eX12_lays_66 ?_
          refine g_iald rfl (Nat.le_of_ble_eq_true rfl) ni eX12_lays_67 ?_
          rw [nc, hF.1 52 (by decide) (by decide) (by decide) (by decide), hF.1 53 (by decide) (by decide) (by decide) (by decide), t1, t2]
          refine g_callVi (ci := 11) (w_valueOf (E := m.1) (cnt := cnt) (V := V) u hLu g.1 fr (by omega) (by omega) m rfl f2 f1 f3 d1 hc hv) rfl (Nat.le_of_ble_eq_true rfl) (Nat.le_of_ble_eq_true rfl) rfl cv_X12_352 eX12_lays_68 ⟨Nat.le_of_ble_eq_true rfl, Nat.le_of_ble_eq_true rfl⟩ rfl rfl (Nat.le_of_ble_eq_true rfl) (fun y u2 h => ?_)
          obtain ⟨v1, v2, v3⟩ := h
          have hF2 := hF.trans (la_lv v1)
          refine g_ist3 rfl (Nat.le_of_ble_eq_true rfl) eX12_lays_71 ?_
          refine g_ald0 eX12_lays_72 ?_
          refine g_getI (ci := 11) (j := 50) rfl (Nat.le_of_ble_eq_true rfl) (Nat.le_of_ble_eq_true rfl) (Nat.le_of_ble_eq_true rfl) rfl fl_X12_335 eX12_lays_73 ?_
          by_cases h40 : (foF bs V cnt g.1 m).2.1.length ≤ 40
          · obtain ⟨i1, i2, i3⟩ := v2 h40
            have hR3 : mkG bs V cnt r (enG bs V cnt g m) = R := by
              rw [mkG, if_neg (by show ¬ 40 < (endP V g.2.1 g.2.2 (foF bs V cnt g.1 m)).2.1.length; rw [ew.1]; omega)] at hR2
              exact hR2
            have hH2 := d4 (by show (endP V g.2.1 g.2.2 (foF bs V cnt g.1 m)).2.1.length ≤ 40; rw [ew.1]; exact h40)
            have hS2 : (enG bs V cnt g m).2.2.1 = [] := by
              show (endP V g.2.1 g.2.2 (foF bs V cnt g.1 m)).2.2.1 = []
              rw [ew.2]
              generalize (foF bs V cnt g.1 m).2.2.1 = S at fd
              match S, fd with
              | [c], _ => rfl
            have vt : vk bs (foF bs V cnt g.1 m).2.1.length (topG bs V cnt g m) := (vkS_po h2 fg.2).1
            have hw2 : (enG bs V cnt g m).2.1 = (foF bs V cnt g.1 m).2.1 := ew.1
            rw [i1]
            refine g_if_eq eX12_lays_76 (fun hb2 => ?_) (fun hb2 => ?_)
            · refine g_ald0 eX12_lays_94 ?_
              refine g_getR (ci := 11) (j := 42) rfl (Nat.le_of_ble_eq_true rfl) (Nat.le_of_ble_eq_true rfl) (Nat.le_of_ble_eq_true rfl) rfl rfl fl_X12_85 eX12_lays_95 ?_
              refine g_ild2 eX12_lays_98 ?_
              refine g_iald rfl (Nat.le_of_ble_eq_true rfl) ni eX12_lays_99 ?_
              rw [nc, hF2.1 55 (by decide) (by decide) (by decide) (by decide)]
              refine g_iconst (v := (-1)) (by decide) eX12_lays_100 ?_
              rcases d2 with k6 | k7
              · rw [if_pos k6] at t4
                have el : st.1 55 n = nI LV.length := (fa_eq _ _).mpr (by rw [t4, nI_toInt (by omega)])
                rw [n6, if_pos k6] at hl
                rw [n7, if_neg (by omega)] at ho
                have li : vp_in (nI LV.length) 100 := vp_in_nI (by omega) (by decide)
                have eO : (enG bs V cnt g m).2.2.2 = m.2.2.2 := by
                  show (endP V g.2.1 g.2.2 (foF bs V cnt g.1 m)).2.2.2 = m.2.2.2
                  unfold endP
                  rw [if_pos k6]
                  exact fo.2
                have eLV : lvG bs V cnt g m LV = LV ++ [topG bs V cnt g m] := by unfold lvG; rw [if_pos k6]
                have eLl : (lvG bs V cnt g m LV).length = LV.length + 1 := by rw [eLV]; simp
                rw [el]
                refine g_icmp_eq eX12_lays_101 (fun hb3 => ?_) (fun hb3 => ?_)
                · exact absurd ((fa_eq _ _).mp hb3) (by rw [nI_toInt (by omega)]; show ¬ ((LV.length : Int) = -1); omega)
                · refine g_ald0 eX12_lays_104 ?_
                  refine g_getR (ci := 11) (j := 43) rfl (Nat.le_of_ble_eq_true rfl) (Nat.le_of_ble_eq_true rfl) (Nat.le_of_ble_eq_true rfl) rfl rfl fl_X12_88 eX12_lays_105 ?_
                  refine g_ald0 eX12_lays_108 ?_
                  refine g_getR (ci := 11) (j := 42) rfl (Nat.le_of_ble_eq_true rfl) (Nat.le_of_ble_eq_true rfl) (Nat.le_of_ble_eq_true rfl) rfl rfl fl_X12_85 eX12_lays_109 ?_
                  refine g_ild2 eX12_lays_112 ?_
                  refine g_iald rfl (Nat.le_of_ble_eq_true rfl) ni eX12_lays_113 ?_
                  rw [nc, hF2.1 55 (by decide) (by decide) (by decide) (by decide), el]
                  refine g_ild3 eX12_lays_114 ?_
                  refine g_iast rfl (Nat.le_of_ble_eq_true rfl) li eX12_lays_115 ?_
                  refine g_goto eX12_lays_116 ?_
                  rw [nI_clamp (by omega)]
                  refine g_inc2 rfl (Nat.le_of_ble_eq_true rfl) rfl eX12_lays_136 ?_
                  refine g_goto eX12_lays_139 ?_
                  rw [inc1, ← eO]
                  refine ih (n + 1) (fr + g.1.length) (enG bs V cnt g m) (lvG bs V cnt g m LV) _ _ (by omega) (by rw [eO]; omega) (by rw [eLl]; omega) hH2 (fun i hi => ?_) (fun i hi => ?_) (by omega) (fun x hx => hG x (List.mem_cons_of_mem _ hx)) ⟨hF2.trans (la_let _ _ _ _), ?_, ?_, hS2, ?_, ?_, ?_, ?_⟩ hR3
                  · have := htl (i + 1) (by rw [hlen]; omega)
                    rw [tlH, o1, if_pos k6, if_pos k6, ← eLl] at this
                    rw [show n + 1 + i = n + (i + 1) by omega]
                    exact this
                  · have := hcd (g.1.length + i) (by rw [elen]; omega)
                    rw [ecd, List.getD_eq_getElem?_getD, List.getElem?_append_right (by omega), o1, show g.1.length + i - g.1.length = i by omega, ← List.getD_eq_getElem?_getD, ← Nat.add_assoc] at this
                    exact this
                  · rw [sI_row (by decide)]; exact i1
                  · rw [hw2]
                    unfold mwOK
                    rw [sI_row (by decide), sI_row (by decide), sI_row (by decide), sI_row (by decide)]
                    exact i2
                  · rw [eO, sI_row (by decide), v1.1 41 (by decide) (by decide) (by decide)]
                    exact f4
                  · intro q hq
                    rw [eLl] at hq
                    rw [sI_at, eLV, getD_app]
                    by_cases e : q = LV.length
                    · rw [if_pos e, if_neg (by omega), if_pos e]
                      exact i3
                    · rw [if_neg e, if_pos (by omega), v1.1 56 (by decide) (by decide) (by decide)]
                      exact f5 q (by omega)
                  · rw [hw2, eLV]
                    intro c hc
                    rcases List.mem_append.mp hc with q | q
                    · exact vk_mono (f6 c q) fg.1
                    · rw [List.mem_singleton.mp q]
                      exact vt
                  · intro k hk j hj
                    show (u2.2 51 (13 * k + j)).toInt = _
                    rw [v1.2.2.1]
                    exact f7 k hk j hj
              · have k6 : ¬ g.2.1 = 6 := by omega
                rw [if_neg k6] at t4
                have el : st.1 55 n = -1 := (fa_eq _ _).mpr (by rw [t4]; rfl)
                rw [n6, if_neg k6] at hl
                rw [n7, if_pos k7] at ho
                have eO : (enG bs V cnt g m).2.2.2 = m.2.2.2 ++ [topG bs V cnt g m] := by
                  show (endP V g.2.1 g.2.2 (foF bs V cnt g.1 m)).2.2.2 = _
                  unfold endP
                  rw [if_neg k6, fo.2, if_pos (by omega)]
                  rfl
                have eOl : (enG bs V cnt g m).2.2.2.length = m.2.2.2.length + 1 := by rw [eO]; simp
                have eLV : lvG bs V cnt g m LV = LV := by unfold lvG; rw [if_neg k6]
                have m4 : (4 : Int32) * nI pg = nI (4 * pg) := (Int32.ofNat_mul 4 pg).symm
                rw [el]
                refine g_icmp_eq eX12_lays_101 (fun hb3 => ?_) (fun hb3 => ?_)
                · refine g_ald0 eX12_lays_119 ?_
                  refine g_getR (ci := 11) (j := 23) rfl (Nat.le_of_ble_eq_true rfl) (Nat.le_of_ble_eq_true rfl) (Nat.le_of_ble_eq_true rfl) rfl rfl fl_X12_43 eX12_lays_120 ?_
                  refine g_iconst (v := 4) (by decide) eX12_lays_123 ?_
                  refine g_ald0 eX12_lays_124 ?_
                  refine g_getI (ci := 11) (j := 20) rfl (Nat.le_of_ble_eq_true rfl) (Nat.le_of_ble_eq_true rfl) (Nat.le_of_ble_eq_true rfl) rfl fl_X12_250 eX12_lays_125 ?_
                  rw [hF2.2.1 20 (by decide), hL.2.1]
                  refine g_imul eX12_lays_128 ?_
                  rw [m4]
                  refine g_ild1 eX12_lays_129 ?_
                  refine g_iadd eX12_lays_130 ?_
                  rw [nI_add]
                  refine g_ild3 eX12_lays_131 ?_
                  refine g_iast rfl (Nat.le_of_ble_eq_true rfl) (vp_in_nI (n := 4 * pg + m.2.2.2.length) (N := 20) (by omega) (by decide)) eX12_lays_132 ?_
                  rw [nI_clamp (by omega)]
                  refine g_inc1 rfl (Nat.le_of_ble_eq_true rfl) rfl eX12_lays_133 ?_
                  refine g_inc2 rfl (Nat.le_of_ble_eq_true rfl) rfl eX12_lays_136 ?_
                  refine g_goto eX12_lays_139 ?_
                  rw [inc1, inc1, ← eOl]
                  refine ih (n + 1) (fr + g.1.length) (enG bs V cnt g m) (lvG bs V cnt g m LV) _ _ (by omega) (by rw [eOl]; omega) (by rw [eLV]; omega) hH2 (fun i hi => ?_) (fun i hi => ?_) (by omega) (fun x hx => hG x (List.mem_cons_of_mem _ hx)) ⟨hF2.trans (la_out _ _ (by omega) _), ?_, ?_, hS2, ?_, ?_, ?_, ?_⟩ hR3
                  · have := htl (i + 1) (by rw [hlen]; omega)
                    rw [tlH, o1, if_neg k6, if_neg k6] at this
                    rw [show n + 1 + i = n + (i + 1) by omega, eLV]
                    exact this
                  · have := hcd (g.1.length + i) (by rw [elen]; omega)
                    rw [ecd, List.getD_eq_getElem?_getD, List.getElem?_append_right (by omega), o1, show g.1.length + i - g.1.length = i by omega, ← List.getD_eq_getElem?_getD, ← Nat.add_assoc] at this
                    exact this
                  · rw [sI_row (by decide)]; exact i1
                  · rw [hw2]
                    unfold mwOK
                    rw [sI_row (by decide), sI_row (by decide), sI_row (by decide), sI_row (by decide)]
                    exact i2
                  · intro q hq
                    rw [eOl] at hq
                    rw [sI_at, eO, getD_app]
                    by_cases e : q = m.2.2.2.length
                    · rw [if_pos (by omega), if_neg (by omega), if_pos e]
                      exact i3
                    · rw [if_neg (by omega), if_pos (by omega), v1.1 41 (by decide) (by decide) (by decide)]
                      exact f4 q (by omega)
                  · rw [eLV, sI_row (by decide), v1.1 56 (by decide) (by decide) (by decide)]
                    exact f5
                  · rw [hw2, eLV]
                    exact vkS_mono f6 fg.1
                  · intro k hk j hj
                    show (u2.2 51 (13 * k + j)).toInt = _
                    rw [v1.2.2.1]
                    exact f7 k hk j hj
                · exact absurd rfl hb3
            · exact absurd rfl hb2
          · obtain ⟨i1, i2⟩ := v3 (by omega)
            have hR3 : R = .inl g.2.2 := by
              rw [mkG, if_pos (by show 40 < (endP V g.2.1 g.2.2 (foF bs V cnt g.1 m)).2.1.length; rw [ew.1]; omega)] at hR2
              exact hR2.symm
            rw [i1]
            refine g_if_eq eX12_lays_76 (fun hb2 => ?_) (fun hb2 => ?_)
            · exact absurd hb2 (by decide)
            · refine g_ald0 eX12_lays_79 ?_
              refine g_bipush (v := 6) (by decide) eX12_lays_80 ?_
              refine g_ald0 eX12_lays_82 ?_
              refine g_getR (ci := 11) (j := 41) rfl (Nat.le_of_ble_eq_true rfl) (Nat.le_of_ble_eq_true rfl) (Nat.le_of_ble_eq_true rfl) rfl rfl fl_X12_82 eX12_lays_83 ?_
              refine g_ild2 eX12_lays_86 ?_
              refine g_iald rfl (Nat.le_of_ble_eq_true rfl) ni eX12_lays_87 ?_
              rw [nc, hF2.1 54 (by decide) (by decide) (by decide) (by decide), t3]
              refine g_callVv (ci := 11) (w_wrong (K := K) (P := P) (V := V) (W := W) u2 (tvM_la hF2 hS) (exOK_la hF2 hA) 6 (by decide) g.2.2 gG.1 gG.2 6 rfl) rfl (Nat.le_of_ble_eq_true rfl) (Nat.le_of_ble_eq_true rfl) rfl cv_X12_292 eX12_lays_88 ⟨Nat.le_of_ble_eq_true rfl, Nat.le_of_ble_eq_true rfl⟩ rfl rfl (Nat.le_of_ble_eq_true rfl) (fun u3 h => ?_)
              have hP : lyP K P pg st A R u3 := by
                rw [hR3]
                refine ⟨u2, hF2, h.1, ?_⟩
                have := h.2
                unfold wrg at this
                rw [if_neg (by rw [hA0]; simp)] at this
                exact this
              refine g_goto eX12_lays_91 ?_
              refine g_inc2 rfl (Nat.le_of_ble_eq_true rfl) rfl eX12_lays_136 ?_
              refine g_goto eX12_lays_139 ?_
              refine g_ild2 eX12_lays_40 ?_
              refine g_ald0 eX12_lays_41 ?_
              refine g_getI (ci := 11) (j := 36) rfl (Nat.le_of_ble_eq_true rfl) (Nat.le_of_ble_eq_true rfl) (Nat.le_of_ble_eq_true rfl) rfl fl_X12_259 eX12_lays_42 ?_
              refine g_icmp_ge eX12_lays_45 (fun hb3 => ?_) (fun hb3 => ?_)
              · exact g_vret rfl eX12_lays_142 ⟨rfl, hP⟩
              · refine g_ald0 eX12_lays_48 ?_
                refine g_getI (ci := 11) (j := 50) rfl (Nat.le_of_ble_eq_true rfl) (Nat.le_of_ble_eq_true rfl) (Nat.le_of_ble_eq_true rfl) rfl fl_X12_335 eX12_lays_49 ?_
                rw [h.1.2.1 50 (by decide) (by decide) (by decide), i1]
                refine g_if_ne eX12_lays_52 (fun hb4 => ?_) (fun hb4 => ?_)
                · exact g_vret rfl eX12_lays_142 ⟨rfl, hP⟩
                · exact absurd hb4 (by decide)
  have L19 : ∀ (d k : Nat) (u : St), k + d = tbs.length → laF pg st u → u.1 31 50 = 0 → mwOK pg u [] → (∀ k2, k2 < k → ∀ j, j < bs → (u.2 51 (13 * k2 + j)).toInt = coP bs V cnt (tbs.getD k2 0) j) → G xp l xe (rmd (4)) xs xm xa xb xme xc D cy xad xA (YX12_lays.2.1, YX12_lays.1.cls, YX12_lays.2.2.1, YX12_lays.2.2.2) (Pv (lyP K P pg st A R)) 19 ([some (.ref 31), some (.int 0), some (.int (nI k)), none]) ([]) (u) := by
    intro d
    induction d with
    | zero =>
      intro k u hd hF hf hw hfa
      have e0 : k = tbs.length := by omega
      rw [e0] at hfa ⊢
      refine g_ild2 eX12_lays_19 ?_
      refine g_ald0 eX12_lays_20 ?_
      refine g_getI (ci := 11) (j := 32) rfl (Nat.le_of_ble_eq_true rfl) (Nat.le_of_ble_eq_true rfl) (Nat.le_of_ble_eq_true rfl) rfl fl_X12_256 eX12_lays_21 ?_
      rw [hF.2.1 32 (by decide), htb]
      refine g_icmp_ge eX12_lays_24 (fun hb => ?_) (fun hb => ?_)
      · refine g_iconst (v := 0) (by decide) eX12_lays_38 ?_
        refine g_ist2 rfl (Nat.le_of_ble_eq_true rfl) eX12_lays_39 ?_
        refine L40 gs 0 0 (E0, [], [], []) [] u _ (by omega) (by show 0 + n7 gs ≤ 4; omega) (by have := n6l gs; show 0 + n6 gs ≤ 100; omega) hH (fun i _ => by rw [Nat.zero_add]; rfl) (fun i hi => by rw [Nat.zero_add]; exact hcd i hi) (by omega) hG ⟨hF, hf, hw, rfl, fun i hi => absurd hi (Nat.not_lt_zero _), fun i hi => absurd hi (Nat.not_lt_zero _), fun c hc => absurd hc List.not_mem_nil, hfa⟩ hR
      · exact absurd (Int32.le_refl _) hb
    | succ d ih =>
      intro k u hd hF hf hw hfa
      refine g_ild2 eX12_lays_19 ?_
      refine g_ald0 eX12_lays_20 ?_
      refine g_getI (ci := 11) (j := 32) rfl (Nat.le_of_ble_eq_true rfl) (Nat.le_of_ble_eq_true rfl) (Nat.le_of_ble_eq_true rfl) rfl fl_X12_256 eX12_lays_21 ?_
      rw [hF.2.1 32 (by decide), htb]
      refine g_icmp_ge eX12_lays_24 (fun hb => ?_) (fun hb => ?_)
      · exact absurd hb (by rw [fa_le, nI_toInt (by omega), nI_toInt (by omega)]; omega)
      · refine g_ald0 eX12_lays_27 ?_
        refine g_ild2 eX12_lays_28 ?_
        refine g_callVv (ci := 11) (w_interpolates (e := fun j => tnP V cnt (tbs.getD k 0) j % bs) u (lsM_la hL hF) (k := k) (by omega) (fun j hj => ⟨by rw [hF.1 50 (by decide) (by decide) (by decide) (by decide)]; exact hen k (by omega) j hj, Nat.mod_lt _ (by omega)⟩)) rfl (Nat.le_of_ble_eq_true rfl) (Nat.le_of_ble_eq_true rfl) rfl cv_X12_349 eX12_lays_29 ⟨Nat.le_of_ble_eq_true rfl, Nat.le_of_ble_eq_true rfl⟩ rfl rfl (Nat.le_of_ble_eq_true rfl) (fun u2 h => ?_)
        refine g_inc2 rfl (Nat.le_of_ble_eq_true rfl) rfl eX12_lays_32 ?_
        refine g_goto eX12_lays_35 ?_
        rw [inc1]
        refine ih (k + 1) u2 (by omega) (hF.trans (la_ip h.1)) (by rw [h.1.1]; exact hf) (by unfold mwOK; rw [h.1.1]; exact hw) (fun k2 hk2 j hj => ?_)
        by_cases e : k2 = k
        · rw [e, h.2 j hj]
          exact ac_co (hpr (by omega)) (fun a _ => rfl) hj
        · rw [h.1.2.2 (13 * k2 + j) (by omega)]
          exact hfa k2 (by omega) j hj
  refine g_ald0 eX12_lays_0 ?_
  refine g_getR (ci := 11) (j := 24) rfl (Nat.le_of_ble_eq_true rfl) (Nat.le_of_ble_eq_true rfl) (Nat.le_of_ble_eq_true rfl) rfl rfl fl_X12_46 eX12_lays_1 ?_
  refine g_ald0 eX12_lays_4 ?_
  refine g_getI (ci := 11) (j := 20) rfl (Nat.le_of_ble_eq_true rfl) (Nat.le_of_ble_eq_true rfl) (Nat.le_of_ble_eq_true rfl) rfl fl_X12_250 eX12_lays_5 ?_
  rw [hL.2.1]
  refine g_iconst (v := 0) (by decide) eX12_lays_8 ?_
  refine g_iast rfl (Nat.le_of_ble_eq_true rfl) pgi eX12_lays_9 ?_
  rw [nI_clamp (by omega)]
  refine g_ald0 eX12_lays_10 ?_
  refine g_iconst (v := 0) (by decide) eX12_lays_11 ?_
  refine g_putZ (ci := 11) (j := 50) rfl (by first | exact Or.inl rfl | exact Or.inr rfl) rfl (Nat.le_of_ble_eq_true rfl) (Nat.le_of_ble_eq_true rfl) (Nat.le_of_ble_eq_true rfl) rfl fl_X12_335 eX12_lays_12 ?_
  refine g_iconst (v := 0) (by decide) eX12_lays_15 ?_
  refine g_ist1 rfl (Nat.le_of_ble_eq_true rfl) eX12_lays_16 ?_
  refine g_iconst (v := 0) (by decide) eX12_lays_17 ?_
  refine g_ist2 rfl (Nat.le_of_ble_eq_true rfl) eX12_lays_18 ?_
  refine L19 tbs.length 0 (sI (sI st 42 pg 0) 31 50 0) (by omega) ⟨fun a h1 h2 _ _ => ?_, fun j hj => ?_, fun _ _ _ => rfl, fun i hi => ?_, fun a ha i _ => ?_, fun i _ => ?_⟩ ?_ ⟨?_, by decide, fun j hj => absurd hj (Nat.not_lt_zero _)⟩ (fun k2 hk2 => absurd hk2 (Nat.not_lt_zero _))
  · rw [sI_row h1, sI_row (by omega)]
  · rw [sI_at, if_neg hj, sI_row (by decide)]
  · rw [sI_row (by decide), sI_at, if_neg hi]
  · rw [sI_row (by omega), sI_row (by omega)]
  · rw [sI_row (by decide), sI_row (by decide)]
  · rw [sI_1, if_pos ⟨rfl, rfl⟩]
  · rw [sI_row (by decide), sI_at, if_pos rfl]; rfl
end WLAYS
