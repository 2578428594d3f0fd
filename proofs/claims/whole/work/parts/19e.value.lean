/-! THE MODEL LAYS: valueOf -/
section WVAL
variable {l : Launch} {D : va_G} {cy : Nat → ClassId} {bs pg : Nat} {V : Nat → Nat} {cnt : Nat} {E : List NE}
theorem cok_fr {st u : St} (hf : lvFr pg st u) {i : Nat} {x : Nat × Nat} (h : cok bs V cnt E st i x) : cok bs V cnt E u i x := by
  unfold cok
  rw [hf.1 57 (by decide) (by decide) (by decide), hf.1 58 (by decide) (by decide) (by decide), hf.1 56 (by decide) (by decide) (by decide), hf.2.2.1]
  exact h
theorem va_ld {u u2 : St} {X : List WK × Int} {y : Int32} {S : List Int} {O : List Int} (h : ldP pg u X y u2) (hp : piOK u S) : vaI pg u (E, X.1, X.2 :: S, O) (sI u2 61 S.length y) := by
  refine ⟨(lv_ly h.1).trans (lv_pile _ _ _ _), fun q => ?_, fun q => ?_⟩
  · obtain ⟨i1, i2, i3⟩ := h.2.1 q
    exact ⟨by rw [sI_row (by decide)]; exact i1, mwOK_pile i2 _ _, piOK_push (piOK_eq (h.1.1 61 (by decide) (by decide)) hp) i3⟩
  · obtain ⟨i1, i2⟩ := h.2.2 q
    rw [sI_row (by decide), sI_row (by decide)]
    exact ⟨i1, i2⟩
theorem va_full {u u2 : St} {X : List WK × Int} {y : Int32} {S : List Int} {O : List Int} {n : Nat} (hf : lyFr pg u u2) (h1 : u2.1 31 50 = 1) (h2 : u2.1 42 pg = nI 40) (h : 40 < X.1.length) : vaI pg u (E, X.1, X.2 :: S, O) (sI u2 61 n y) := by
  refine ⟨(lv_ly hf).trans (lv_pile _ _ _ _), fun q => ?_, fun q => ?_⟩
  · have q2 : X.1.length ≤ 40 := q
    omega
  · rw [sI_row (by decide), sI_row (by decide)]
    exact ⟨h1, h2⟩
theorem ex_cons {S : List Int} (h : 1 ≤ S.length) : ∃ c R, S = c :: R := by
  cases S with
  | nil => exact absurd h (by decide)
  | cons c R => exact ⟨c, R, rfl⟩
theorem w_valueOf (st : St) (hL : lsM bs pg st) (os : List (Nat × Nat)) (fr : Nat) (hfr : fr + os.length ≤ 400) (ho : os.length ≤ 300) (m : MS) (hm : m.1 = E) (hw : mwOK pg st m.2.1) (hf : st.1 31 50 = 0) (hS : m.2.2.1 = []) (hd : dpF os 0) (hc : ∀ i, i < os.length → cok bs V cnt E st (fr + i) (os.getD i (0, 0))) (hv : ∀ x ∈ os, x.1 = 2 → vk bs m.2.1.length (stF (V x.2) E)) : Mi l D cy 3 YX12_valueOf [.ref 31, .int (nI fr), .int (nI (fr + os.length))] st (vaP pg st (foF bs V cnt os m)) := by
  have hbs := hL.1
  have h2 := hbs.2.1
  have h13 := hbs.2.2
  generalize hX : foF bs V cnt os m = X
  generalize hto : fr + os.length = to at hfr
  refine M.ofG [some (.ref 31), some (.int (nI fr)), some (.int (nI to)), none, none, none, none, none] (by decide) (Nat.le_of_ble_eq_true rfl) rfl ?_
  intro xp xe xs xm xa xb xme xc xad xA
  have out : ∀ (d3 d4 : Int32) (u : St) (b5 b6 b7 : Option Value), vaP pg st X (u.1 61 0) u → G xp l xe (rmd (3)) xs xm xa xb xme xc D cy xad xA (YX12_valueOf.2.1, YX12_valueOf.1.cls, YX12_valueOf.2.2.1, YX12_valueOf.2.2.2) (Pi (vaP pg st X)) 301 ([some (.ref 31), some (.int (nI fr)), some (.int (nI to)), some (.int d3), some (.int d4), b5, b6, b7]) ([]) (u) := by
    intro d3 d4 u b5 b6 b7 h
    refine g_ald0 eX12_valueOf_301 ?_
    refine g_getR (ci := 11) (j := 51) rfl (Nat.le_of_ble_eq_true rfl) (Nat.le_of_ble_eq_true rfl) (Nat.le_of_ble_eq_true rfl) rfl rfl fl_X12_103 eX12_valueOf_302 ?_
    refine g_iconst (v := 0) (by decide) eX12_valueOf_305 ?_
    refine g_iald rfl (Nat.le_of_ble_eq_true rfl) (vp_in_nI (n := 0) (N := 310) (by decide) (by decide)) eX12_valueOf_306 ?_
    exact g_iret rfl eX12_valueOf_307 ⟨_, rfl, h⟩
  have loop : ∀ (r : List (Nat × Nat)) (i0 : Nat) (m : MS) (u : St) (b5 b6 b7 : Option Value), i0 + r.length = to → m.1 = E → m.2.2.1.length + r.length ≤ 300 → dpF r m.2.2.1.length → (∀ i, i < r.length → cok bs V cnt E st (i0 + i) (r.getD i (0, 0))) → (∀ x ∈ r, x.1 = 2 → vk bs m.2.1.length (stF (V x.2) E)) → vkS bs m.2.1.length m.2.2.1 → vaI pg st m u → foF bs V cnt r m = X → G xp l xe (rmd (3)) xs xm xa xb xme xc D cy xad xA (YX12_valueOf.2.1, YX12_valueOf.1.cls, YX12_valueOf.2.2.1, YX12_valueOf.2.2.2) (Pi (vaP pg st X)) 5 ([some (.ref 31), some (.int (nI fr)), some (.int (nI to)), some (.int (nI m.2.2.1.length)), some (.int (nI i0)), b5, b6, b7]) ([]) (u) := by
    intro r
    induction r with
    | nil =>
      intro i0 m u b5 b6 b7 hto2 hm hl hd hc hv hS hI hX2
      have e : i0 = to := by simpa using hto2
      subst e
      refine g_ild4 eX12_valueOf_5 ?_
      refine g_ild2 eX12_valueOf_7 ?_
      refine g_icmp_ge eX12_valueOf_8 (fun hb => ?_) (fun hb => ?_)
      · refine out _ _ _ _ _ _ ⟨hI.1, fun q => ?_, fun q => ?_⟩
        · rw [← hX2] at q ⊢
          obtain ⟨i1, i2, i3⟩ := hI.2.1 q
          refine ⟨i1, i2, ?_⟩
          have hd1 : m.2.2.1.length = 1 := hd
          show (u.1 61 0).toInt = toldF (poP m.2.2.1).1
          generalize m.2.2.1 = S at hd1 i3
          match S, hd1, i3 with
          | [c], _, i3 => exact i3.1
        · rw [← hX2] at q
          exact hI.2.2 q
      · exact absurd (Int32.le_refl _) hb
    | cons x r ih =>
      intro i0 m u b5 b6 b7 hto2 hm hl hd hc hv hS hI hX2
      have hln : (x :: r).length = r.length + 1 := rfl
      rw [hln] at hto2 hl
      by_cases h40 : m.2.1.length ≤ 40
      · obtain ⟨f1, f2, f3⟩ := hI.2.1 h40
        have hF := hI.1
        have hck := cok_fr hF (hc 0 (by omega))
        rw [show i0 + 0 = i0 by omega, show (x :: r).getD 0 (0, 0) = x from rfl] at hck
        have hLu := lsM_lv hL hF
        have ei : vp_in (nI i0) 400 := vp_in_nI (by omega) (by decide)
        have ec : (nI i0).toNatClampNeg = i0 := nI_clamp (by omega)
        have g := folP_gw (cnt := cnt) (o := x.1) (a := x.2) (V := V) h2 hS (by rw [hm]; exact hv x List.mem_cons_self)
        have sm := folP_same bs V cnt x.1 x.2 m
        have hX3 : foF bs V cnt r (folP bs V cnt x.1 x.2 m) = X := hX2
        -- behind the step
        have nx : ∀ (d : Int32) (u2 : St) (b5 b6 b7 : Option Value), d = nI (folP bs V cnt x.1 x.2 m).2.2.1.length → (folP bs V cnt x.1 x.2 m).2.2.1.length ≤ m.2.2.1.length + 1 → dpF r (folP bs V cnt x.1 x.2 m).2.2.1.length → vaI pg u (folP bs V cnt x.1 x.2 m) u2 → G xp l xe (rmd (3)) xs xm xa xb xme xc D cy xad xA (YX12_valueOf.2.1, YX12_valueOf.1.cls, YX12_valueOf.2.2.1, YX12_valueOf.2.2.2) (Pi (vaP pg st X)) 295 ([some (.ref 31), some (.int (nI fr)), some (.int (nI to)), some (.int d), some (.int (nI i0)), b5, b6, b7]) ([]) (u2) := by
          intro d u2 b5 b6 b7 hd2 hl2 hdp hI2
          subst hd2
          refine g_inc4 rfl (Nat.le_of_ble_eq_true rfl) rfl eX12_valueOf_295 ?_
          refine g_goto eX12_valueOf_298 ?_
          rw [inc1]
          refine ih (i0 + 1) _ u2 b5 b6 b7 (by omega) (by rw [sm.1]; exact hm) (by omega) hdp (fun i hi => ?_) (fun y hy q => vk_mono (hv y (List.mem_cons_of_mem _ hy) q) g.1) g.2 ⟨hF.trans hI2.1, hI2.2⟩ hX3
          have := hc (i + 1) (by omega)
          rw [show i0 + (i + 1) = i0 + 1 + i by omega] at this
          exact this
        clear ih
        refine g_ild4 eX12_valueOf_5 ?_
        refine g_ild2 eX12_valueOf_7 ?_
        refine g_icmp_ge eX12_valueOf_8 (fun hb => ?_) (fun hb => ?_)
        · exact absurd hb (by rw [fa_le, nI_toInt (by omega), nI_toInt (by omega)]; omega)
        · refine g_ald0 eX12_valueOf_11 ?_
          refine g_getI (ci := 11) (j := 50) rfl (Nat.le_of_ble_eq_true rfl) (Nat.le_of_ble_eq_true rfl) (Nat.le_of_ble_eq_true rfl) rfl fl_X12_335 eX12_valueOf_12 ?_
          rw [f1]
          refine g_if_ne eX12_valueOf_15 (fun hb1 => ?_) (fun hb1 => ?_)
          · exact absurd rfl hb1
          · refine g_ald0 eX12_valueOf_18 ?_
            refine g_getR (ci := 11) (j := 45) rfl (Nat.le_of_ble_eq_true rfl) (Nat.le_of_ble_eq_true rfl) (Nat.le_of_ble_eq_true rfl) rfl rfl fl_X12_91 eX12_valueOf_19 ?_
            refine g_ild4 eX12_valueOf_22 ?_
            refine g_iald rfl (Nat.le_of_ble_eq_true rfl) ei eX12_valueOf_24 ?_
            rw [ec]
            have hS300 : m.2.2.1.length ≤ 300 := by omega
            have pu : ∀ (c : Int) (y : Int32), folP bs V cnt x.1 x.2 m = (m.1, m.2.1, c :: m.2.2.1, m.2.2.2) → y.toInt = toldF c → dpF r (m.2.2.1.length + 1) → ∀ b5 b6 b7 : Option Value, G xp l xe (rmd (3)) xs xm xa xb xme xc D cy xad xA (YX12_valueOf.2.1, YX12_valueOf.1.cls, YX12_valueOf.2.2.1, YX12_valueOf.2.2.2) (Pi (vaP pg st X)) 87 ([some (.ref 31), some (.int (nI fr)), some (.int (nI to)), some (.int (nI m.2.2.1.length)), some (.int (nI i0)), b5, b6, b7]) ([.int y, .int (nI m.2.2.1.length), .ref 61]) (u) := by
              intro c y hP hy hdp b5 b6 b7
              refine g_iast rfl (Nat.le_of_ble_eq_true rfl) (vp_in_nI (n := m.2.2.1.length) (N := 310) (by omega) (by decide)) eX12_valueOf_87 ?_
              rw [nI_clamp (by omega)]
              refine g_inc3 rfl (Nat.le_of_ble_eq_true rfl) rfl eX12_valueOf_88 ?_
              refine g_goto eX12_valueOf_91 ?_
              rw [inc1]
              refine nx _ _ _ _ _ (by rw [hP]; rfl) (by rw [hP]; exact Nat.le_refl _) (by rw [hP]; exact hdp) ?_
              rw [hP]
              exact ⟨lv_pile _ _ _ _, fun _ => ⟨by rw [sI_row (by decide)]; exact f1, mwOK_pile f2 _ _, piOK_push f3 hy⟩, fun q => by have q2 : 40 < m.2.1.length := q; omega⟩
            rcases hck with ⟨k, c1, c2⟩ | ⟨k, c1, j, c2, c3, c4⟩ | ⟨k, c1, j, c2, c3, c4⟩ | ⟨k, c1, j, c2, c3, c4⟩ | ⟨k, c1⟩ | ⟨k, c1⟩ | ⟨k, c1⟩ | ⟨k, c1⟩
            · -- a number
              rw [c1]
              have hdp : dpF r (m.2.2.1.length + 1) := by
                rw [dpF, if_pos (Or.inl k)] at hd
                exact hd
              have hP : folP bs V cnt x.1 x.2 m = (m.1, m.2.1, (-1 - (V x.2 : Int) % (bs : Int)) :: m.2.2.1, m.2.2.2) := by unfold folP; rw [if_pos k]
              refine g_ist5 rfl (Nat.le_of_ble_eq_true rfl) eX12_valueOf_25 ?_
              refine g_ild5 eX12_valueOf_27 ?_
              refine g_iconst (v := 3) (by decide) eX12_valueOf_29 ?_
              refine g_icmp_ge eX12_valueOf_30 (fun hb3 => ?_) (fun hb3 => ?_)
              · exact absurd hb3 (by decide)
              · refine g_ald0 eX12_valueOf_33 ?_
                refine g_getR (ci := 11) (j := 51) rfl (Nat.le_of_ble_eq_true rfl) (Nat.le_of_ble_eq_true rfl) (Nat.le_of_ble_eq_true rfl) rfl rfl fl_X12_103 eX12_valueOf_34 ?_
                refine g_ild3 eX12_valueOf_37 ?_
                refine g_ild5 eX12_valueOf_38 ?_
                refine g_if_ne eX12_valueOf_40 (fun hb4 => ?_) (fun hb4 => ?_)
                · exact absurd rfl hb4
                · refine g_bipush (v := (-30)) (by decide) eX12_valueOf_43 ?_
                  refine g_ald0 eX12_valueOf_45 ?_
                  refine g_getR (ci := 11) (j := 46) rfl (Nat.le_of_ble_eq_true rfl) (Nat.le_of_ble_eq_true rfl) (Nat.le_of_ble_eq_true rfl) rfl rfl fl_X12_94 eX12_valueOf_46 ?_
                  refine g_ild4 eX12_valueOf_49 ?_
                  refine g_iald rfl (Nat.le_of_ble_eq_true rfl) ei eX12_valueOf_51 ?_
                  rw [ec, c2]
                  refine g_isub eX12_valueOf_52 ?_
                  refine g_goto eX12_valueOf_53 ?_
                  refine pu _ _ hP ?_ hdp _ _ _
                  have hm9 : V x.2 % bs < bs := Nat.mod_lt _ (by omega)
                  have e9 : (nI (V x.2 % bs)).toInt = (V x.2 : Int) % (bs : Int) := by rw [nI_toInt (by omega)]; rfl
                  refine rest_open h2 ?_
                  rw [sub30 (by rw [nI_toInt (by omega)]; omega), e9]
            · -- a given
              rw [c1]
              have hdp : dpF r (m.2.2.1.length + 1) := by
                rw [dpF, if_pos (Or.inr k)] at hd
                exact hd
              have hP : folP bs V cnt x.1 x.2 m = (m.1, m.2.1, (40 + (j : Int)) :: m.2.2.1, m.2.2.2) := by unfold folP; rw [if_neg (by omega), if_pos k, hm, c4]
              refine g_ist5 rfl (Nat.le_of_ble_eq_true rfl) eX12_valueOf_25 ?_
              refine g_ild5 eX12_valueOf_27 ?_
              refine g_iconst (v := 3) (by decide) eX12_valueOf_29 ?_
              refine g_icmp_ge eX12_valueOf_30 (fun hb3 => ?_) (fun hb3 => ?_)
              · exact absurd hb3 (by decide)
              · refine g_ald0 eX12_valueOf_33 ?_
                refine g_getR (ci := 11) (j := 51) rfl (Nat.le_of_ble_eq_true rfl) (Nat.le_of_ble_eq_true rfl) (Nat.le_of_ble_eq_true rfl) rfl rfl fl_X12_103 eX12_valueOf_34 ?_
                refine g_ild3 eX12_valueOf_37 ?_
                refine g_ild5 eX12_valueOf_38 ?_
                refine g_if_ne eX12_valueOf_40 (fun hb4 => ?_) (fun hb4 => ?_)
                · refine g_ild5 eX12_valueOf_56 ?_
                  refine g_iconst (v := 1) (by decide) eX12_valueOf_58 ?_
                  refine g_icmp_ne eX12_valueOf_59 (fun hb5 => ?_) (fun hb5 => ?_)
                  · exact absurd rfl hb5
                  · refine g_bipush (v := (-10)) (by decide) eX12_valueOf_62 ?_
                    refine g_ald0 eX12_valueOf_64 ?_
                    refine g_getR (ci := 11) (j := 46) rfl (Nat.le_of_ble_eq_true rfl) (Nat.le_of_ble_eq_true rfl) (Nat.le_of_ble_eq_true rfl) rfl rfl fl_X12_94 eX12_valueOf_65 ?_
                    refine g_ild4 eX12_valueOf_68 ?_
                    refine g_iald rfl (Nat.le_of_ble_eq_true rfl) ei eX12_valueOf_70 ?_
                    rw [ec, c2]
                    refine g_isub eX12_valueOf_71 ?_
                    refine g_goto eX12_valueOf_72 ?_
                    refine pu _ _ hP ?_ hdp _ _ _
                    have e10 : (-10 : Int32).toInt = -10 := rfl
                    have ej : (nI j).toInt = (j : Int) := nI_toInt (by omega)
                    rw [fb_subI (by rw [e10, ej]; omega) (by rw [e10, ej]; omega), e10, ej, told_in c3]
                · exact absurd hb4 (by decide)
            · -- a let
              rw [c1]
              have hdp : dpF r (m.2.2.1.length + 1) := by
                rw [dpF, if_pos (Or.inr k)] at hd
                exact hd
              have hP : folP bs V cnt x.1 x.2 m = (m.1, m.2.1, stF (V x.2) E :: m.2.2.1, m.2.2.2) := by unfold folP; rw [if_neg (by omega), if_pos k, hm]
              refine g_ist5 rfl (Nat.le_of_ble_eq_true rfl) eX12_valueOf_25 ?_
              refine g_ild5 eX12_valueOf_27 ?_
              refine g_iconst (v := 3) (by decide) eX12_valueOf_29 ?_
              refine g_icmp_ge eX12_valueOf_30 (fun hb3 => ?_) (fun hb3 => ?_)
              · exact absurd hb3 (by decide)
              · refine g_ald0 eX12_valueOf_33 ?_
                refine g_getR (ci := 11) (j := 51) rfl (Nat.le_of_ble_eq_true rfl) (Nat.le_of_ble_eq_true rfl) (Nat.le_of_ble_eq_true rfl) rfl rfl fl_X12_103 eX12_valueOf_34 ?_
                refine g_ild3 eX12_valueOf_37 ?_
                refine g_ild5 eX12_valueOf_38 ?_
                refine g_if_ne eX12_valueOf_40 (fun hb4 => ?_) (fun hb4 => ?_)
                · refine g_ild5 eX12_valueOf_56 ?_
                  refine g_iconst (v := 1) (by decide) eX12_valueOf_58 ?_
                  refine g_icmp_ne eX12_valueOf_59 (fun hb5 => ?_) (fun hb5 => ?_)
                  · refine g_ald0 eX12_valueOf_75 ?_
                    refine g_getR (ci := 11) (j := 43) rfl (Nat.le_of_ble_eq_true rfl) (Nat.le_of_ble_eq_true rfl) (Nat.le_of_ble_eq_true rfl) rfl rfl fl_X12_88 eX12_valueOf_76 ?_
                    refine g_ald0 eX12_valueOf_79 ?_
                    refine g_getR (ci := 11) (j := 46) rfl (Nat.le_of_ble_eq_true rfl) (Nat.le_of_ble_eq_true rfl) (Nat.le_of_ble_eq_true rfl) rfl rfl fl_X12_94 eX12_valueOf_80 ?_
                    refine g_ild4 eX12_valueOf_83 ?_
                    refine g_iald rfl (Nat.le_of_ble_eq_true rfl) ei eX12_valueOf_85 ?_
                    rw [ec, c2]
                    refine g_iald rfl (Nat.le_of_ble_eq_true rfl) (vp_in_nI (n := j) (N := 100) c3 (by decide)) eX12_valueOf_86 ?_
                    rw [nI_clamp (by omega)]
                    exact pu _ _ hP c4 hdp _ _ _
                  · exact absurd hb5 (by decide)
                · exact absurd hb4 (by decide)
            · -- an ask
              rw [c1]
              rw [dpF, if_neg (by omega), if_pos k] at hd
              obtain ⟨hd1, hdp⟩ := hd
              obtain ⟨c, S1, e1⟩ := ex_cons hd1
              have hP : folP bs V cnt x.1 x.2 m = (m.1, (asP bs V cnt m.2.1 (stF (V x.2) E) c).1, (asP bs V cnt m.2.1 (stF (V x.2) E) c).2 :: S1, m.2.2.2) := by
                unfold folP
                rw [if_neg (by omega), if_neg (by omega), if_pos k, e1, hm]
                rfl
              have hl2 : m.2.2.1.length = S1.length + 1 := by rw [e1]; rfl
              rw [hl2] at hdp hS300
              rw [hl2]
              rw [e1] at f3 hS
              refine g_ist5 rfl (Nat.le_of_ble_eq_true rfl) eX12_valueOf_25 ?_
              refine g_ild5 eX12_valueOf_27 ?_
              refine g_iconst (v := 3) (by decide) eX12_valueOf_29 ?_
              refine g_icmp_ge eX12_valueOf_30 (fun hb3 => ?_) (fun hb3 => ?_)
              · refine g_ild5 eX12_valueOf_94 ?_
                refine g_bipush (v := 7) (by decide) eX12_valueOf_96 ?_
                refine g_icmp_ne eX12_valueOf_98 (fun hb4 => ?_) (fun hb4 => ?_)
                · exact absurd rfl hb4
                · refine g_ald0 eX12_valueOf_101 ?_
                  refine g_getR (ci := 11) (j := 51) rfl (Nat.le_of_ble_eq_true rfl) (Nat.le_of_ble_eq_true rfl) (Nat.le_of_ble_eq_true rfl) rfl rfl fl_X12_103 eX12_valueOf_102 ?_
                  refine g_ild3 eX12_valueOf_105 ?_
                  refine g_iconst (v := 1) (by decide) eX12_valueOf_106 ?_
                  refine g_isub eX12_valueOf_107 ?_
                  rw [nI_pred]
                  refine g_ald0 eX12_valueOf_108 ?_
                  refine g_ald0 eX12_valueOf_109 ?_
                  refine g_getR (ci := 11) (j := 46) rfl (Nat.le_of_ble_eq_true rfl) (Nat.le_of_ble_eq_true rfl) (Nat.le_of_ble_eq_true rfl) rfl rfl fl_X12_94 eX12_valueOf_110 ?_
                  refine g_ild4 eX12_valueOf_113 ?_
                  refine g_iald rfl (Nat.le_of_ble_eq_true rfl) ei eX12_valueOf_115 ?_
                  rw [ec, c2]
                  refine g_ald0 eX12_valueOf_116 ?_
                  refine g_getR (ci := 11) (j := 51) rfl (Nat.le_of_ble_eq_true rfl) (Nat.le_of_ble_eq_true rfl) (Nat.le_of_ble_eq_true rfl) rfl rfl fl_X12_103 eX12_valueOf_117 ?_
                  refine g_ild3 eX12_valueOf_120 ?_
                  refine g_iconst (v := 1) (by decide) eX12_valueOf_121 ?_
                  refine g_isub eX12_valueOf_122 ?_
                  rw [nI_pred]
                  refine g_iald rfl (Nat.le_of_ble_eq_true rfl) (vp_in_nI (n := S1.length) (N := 310) (by omega) (by decide)) eX12_valueOf_123 ?_
                  rw [nI_clamp (by omega)]
                  refine g_callVi (ci := 11) (w_asks u hLu f2 f1 c3 c4 _ c f3.1 (hS c List.mem_cons_self)) rfl (Nat.le_of_ble_eq_true rfl) (Nat.le_of_ble_eq_true rfl) rfl cv_X12_356 eX12_valueOf_124 ⟨Nat.le_of_ble_eq_true rfl, Nat.le_of_ble_eq_true rfl⟩ rfl rfl (Nat.le_of_ble_eq_true rfl) (fun y u2 h => ?_)
                  refine g_iast rfl (Nat.le_of_ble_eq_true rfl) (vp_in_nI (n := S1.length) (N := 310) (by omega) (by decide)) eX12_valueOf_127 ?_
                  refine g_goto eX12_valueOf_128 ?_
                  rw [nI_clamp (by omega)]
                  refine nx _ _ _ _ _ (by rw [hP]; rfl) (by rw [hP, hl2]; show S1.length + 1 ≤ _; omega) (by rw [hP]; exact hdp) ?_
                  rw [hP]
                  exact va_ld h f3.2
              · exact absurd hb3 (by decide)
            · -- plus
              rw [c1]
              rw [dpF, if_neg (by omega), if_neg (by omega), if_neg (by omega)] at hd
              obtain ⟨hd1, hdp⟩ := hd
              obtain ⟨b, S1, e1⟩ := ex_cons (show 1 ≤ m.2.2.1.length by omega)
              obtain ⟨a, S2, e2⟩ := ex_cons (show 1 ≤ S1.length by rw [e1] at hd1; have : 2 ≤ S1.length + 1 := hd1; omega)
              subst e2
              have hP : folP bs V cnt x.1 x.2 m = (m.1, (plP bs m.2.1 a b).1, (plP bs m.2.1 a b).2 :: S2, m.2.2.2) := by
                unfold folP
                rw [if_neg (by omega), if_neg (by omega), if_neg (by omega), if_neg (by omega), e1]
                unfold jnP
                rw [if_pos k]
                rfl
              have hl2 : m.2.2.1.length = S2.length + 2 := by rw [e1]; rfl
              rw [hl2] at hdp hS300
              rw [hl2]
              rw [e1] at f3 hS
              have va := hS a (List.mem_cons_of_mem _ List.mem_cons_self)
              have vb := hS b List.mem_cons_self
              refine g_ist5 rfl (Nat.le_of_ble_eq_true rfl) eX12_valueOf_25 ?_
              refine g_ild5 eX12_valueOf_27 ?_
              refine g_iconst (v := 3) (by decide) eX12_valueOf_29 ?_
              refine g_icmp_ge eX12_valueOf_30 (fun hb3 => ?_) (fun hb3 => ?_)
              · refine g_ild5 eX12_valueOf_94 ?_
                refine g_bipush (v := 7) (by decide) eX12_valueOf_96 ?_
                refine g_icmp_ne eX12_valueOf_98 (fun hb4 => ?_) (fun hb4 => ?_)
                · refine g_ild5 eX12_valueOf_131 ?_
                  refine g_bipush (v := 6) (by decide) eX12_valueOf_133 ?_
                  refine g_icmp_ne eX12_valueOf_135 (fun hb5 => ?_) (fun hb5 => ?_)
                  · refine g_inc3 rfl (Nat.le_of_ble_eq_true rfl) rfl eX12_valueOf_224 ?_
                    rw [inc_m1]
                    refine g_ald0 eX12_valueOf_227 ?_
                    refine g_getR (ci := 11) (j := 51) rfl (Nat.le_of_ble_eq_true rfl) (Nat.le_of_ble_eq_true rfl) (Nat.le_of_ble_eq_true rfl) rfl rfl fl_X12_103 eX12_valueOf_228 ?_
                    refine g_ild3 eX12_valueOf_231 ?_
                    refine g_iconst (v := 1) (by decide) eX12_valueOf_232 ?_
                    refine g_isub eX12_valueOf_233 ?_
                    rw [nI_pred]
                    refine g_iald rfl (Nat.le_of_ble_eq_true rfl) (vp_in_nI (n := S2.length) (N := 310) (by omega) (by decide)) eX12_valueOf_234 ?_
                    refine g_ist6 rfl (Nat.le_of_ble_eq_true rfl) eX12_valueOf_235 ?_
                    refine g_ald0 eX12_valueOf_237 ?_
                    refine g_getR (ci := 11) (j := 51) rfl (Nat.le_of_ble_eq_true rfl) (Nat.le_of_ble_eq_true rfl) (Nat.le_of_ble_eq_true rfl) rfl rfl fl_X12_103 eX12_valueOf_238 ?_
                    refine g_ild3 eX12_valueOf_241 ?_
                    rw [nI_clamp (by omega)]
                    refine g_iald rfl (Nat.le_of_ble_eq_true rfl) (vp_in_nI (n := S2.length + 1) (N := 310) (by omega) (by decide)) eX12_valueOf_242 ?_
                    refine g_ist7 rfl (Nat.le_of_ble_eq_true rfl) eX12_valueOf_243 ?_
                    refine g_ald0 eX12_valueOf_245 ?_
                    refine g_getR (ci := 11) (j := 51) rfl (Nat.le_of_ble_eq_true rfl) (Nat.le_of_ble_eq_true rfl) (Nat.le_of_ble_eq_true rfl) rfl rfl fl_X12_103 eX12_valueOf_246 ?_
                    refine g_ild3 eX12_valueOf_249 ?_
                    refine g_iconst (v := 1) (by decide) eX12_valueOf_250 ?_
                    refine g_isub eX12_valueOf_251 ?_
                    rw [nI_clamp (by omega), nI_pred]
                    refine g_ild5 eX12_valueOf_252 ?_
                    refine g_iconst (v := 3) (by decide) eX12_valueOf_254 ?_
                    refine g_icmp_ne eX12_valueOf_255 (fun hb6 => ?_) (fun hb6 => ?_)
                    · exact absurd rfl hb6
                    · skip
                      refine g_ald0 eX12_valueOf_258 ?_
                      refine g_ild6 eX12_valueOf_259 ?_
                      refine g_ild7 eX12_valueOf_261 ?_
                      refine g_callVi (ci := 11) (w_plus u hLu f2 f1 a b _ _ f3.2.1 f3.1 (vk_vcd va h40 h13).1 (vk_vcd vb h40 h13).1) rfl (Nat.le_of_ble_eq_true rfl) (Nat.le_of_ble_eq_true rfl) rfl cv_X12_364 eX12_valueOf_263 ⟨Nat.le_of_ble_eq_true rfl, Nat.le_of_ble_eq_true rfl⟩ rfl rfl (Nat.le_of_ble_eq_true rfl) (fun y u2 h => ?_)
                      refine g_goto eX12_valueOf_266 ?_
                      refine g_iast rfl (Nat.le_of_ble_eq_true rfl) (vp_in_nI (n := S2.length) (N := 310) (by omega) (by decide)) eX12_valueOf_294 ?_
                      rw [nI_clamp (by omega)]
                      refine nx _ _ _ _ _ (by rw [hP]; rfl) (by rw [hP, hl2]; show S2.length + 1 ≤ _; omega) (by rw [hP]; exact hdp) ?_
                      rw [hP]
                      exact va_ld h f3.2.2
                  · exact absurd hb5 (by decide)
                · exact absurd hb4 (by decide)
              · exact absurd hb3 (by decide)
            · -- minus
              rw [c1]
              rw [dpF, if_neg (by omega), if_neg (by omega), if_neg (by omega)] at hd
              obtain ⟨hd1, hdp⟩ := hd
              obtain ⟨b, S1, e1⟩ := ex_cons (show 1 ≤ m.2.2.1.length by omega)
              obtain ⟨a, S2, e2⟩ := ex_cons (show 1 ≤ S1.length by rw [e1] at hd1; have : 2 ≤ S1.length + 1 := hd1; omega)
              subst e2
              have hP : folP bs V cnt x.1 x.2 m = (m.1, (miP bs m.2.1 a b).1, (miP bs m.2.1 a b).2 :: S2, m.2.2.2) := by
                unfold folP
                rw [if_neg (by omega), if_neg (by omega), if_neg (by omega), if_neg (by omega), e1]
                unfold jnP
                rw [if_neg (by omega), if_pos k]
                rfl
              have hl2 : m.2.2.1.length = S2.length + 2 := by rw [e1]; rfl
              rw [hl2] at hdp hS300
              rw [hl2]
              rw [e1] at f3 hS
              have va := hS a (List.mem_cons_of_mem _ List.mem_cons_self)
              have vb := hS b List.mem_cons_self
              refine g_ist5 rfl (Nat.le_of_ble_eq_true rfl) eX12_valueOf_25 ?_
              refine g_ild5 eX12_valueOf_27 ?_
              refine g_iconst (v := 3) (by decide) eX12_valueOf_29 ?_
              refine g_icmp_ge eX12_valueOf_30 (fun hb3 => ?_) (fun hb3 => ?_)
              · refine g_ild5 eX12_valueOf_94 ?_
                refine g_bipush (v := 7) (by decide) eX12_valueOf_96 ?_
                refine g_icmp_ne eX12_valueOf_98 (fun hb4 => ?_) (fun hb4 => ?_)
                · refine g_ild5 eX12_valueOf_131 ?_
                  refine g_bipush (v := 6) (by decide) eX12_valueOf_133 ?_
                  refine g_icmp_ne eX12_valueOf_135 (fun hb5 => ?_) (fun hb5 => ?_)
                  · refine g_inc3 rfl (Nat.le_of_ble_eq_true rfl) rfl eX12_valueOf_224 ?_
                    rw [inc_m1]
                    refine g_ald0 eX12_valueOf_227 ?_
                    refine g_getR (ci := 11) (j := 51) rfl (Nat.le_of_ble_eq_true rfl) (Nat.le_of_ble_eq_true rfl) (Nat.le_of_ble_eq_true rfl) rfl rfl fl_X12_103 eX12_valueOf_228 ?_
                    refine g_ild3 eX12_valueOf_231 ?_
                    refine g_iconst (v := 1) (by decide) eX12_valueOf_232 ?_
                    refine g_isub eX12_valueOf_233 ?_
                    rw [nI_pred]
                    refine g_iald rfl (Nat.le_of_ble_eq_true rfl) (vp_in_nI (n := S2.length) (N := 310) (by omega) (by decide)) eX12_valueOf_234 ?_
                    refine g_ist6 rfl (Nat.le_of_ble_eq_true rfl) eX12_valueOf_235 ?_
                    refine g_ald0 eX12_valueOf_237 ?_
                    refine g_getR (ci := 11) (j := 51) rfl (Nat.le_of_ble_eq_true rfl) (Nat.le_of_ble_eq_true rfl) (Nat.le_of_ble_eq_true rfl) rfl rfl fl_X12_103 eX12_valueOf_238 ?_
                    refine g_ild3 eX12_valueOf_241 ?_
                    rw [nI_clamp (by omega)]
                    refine g_iald rfl (Nat.le_of_ble_eq_true rfl) (vp_in_nI (n := S2.length + 1) (N := 310) (by omega) (by decide)) eX12_valueOf_242 ?_
                    refine g_ist7 rfl (Nat.le_of_ble_eq_true rfl) eX12_valueOf_243 ?_
                    refine g_ald0 eX12_valueOf_245 ?_
                    refine g_getR (ci := 11) (j := 51) rfl (Nat.le_of_ble_eq_true rfl) (Nat.le_of_ble_eq_true rfl) (Nat.le_of_ble_eq_true rfl) rfl rfl fl_X12_103 eX12_valueOf_246 ?_
                    refine g_ild3 eX12_valueOf_249 ?_
                    refine g_iconst (v := 1) (by decide) eX12_valueOf_250 ?_
                    refine g_isub eX12_valueOf_251 ?_
                    rw [nI_clamp (by omega), nI_pred]
                    refine g_ild5 eX12_valueOf_252 ?_
                    refine g_iconst (v := 3) (by decide) eX12_valueOf_254 ?_
                    refine g_icmp_ne eX12_valueOf_255 (fun hb6 => ?_) (fun hb6 => ?_)
                    · refine g_ild5 eX12_valueOf_269 ?_
                      refine g_iconst (v := 4) (by decide) eX12_valueOf_271 ?_
                      refine g_icmp_ne eX12_valueOf_272 (fun hb7 => ?_) (fun hb7 => ?_)
                      · exact absurd rfl hb7
                      · skip
                        refine g_ald0 eX12_valueOf_275 ?_
                        refine g_ild6 eX12_valueOf_276 ?_
                        refine g_ild7 eX12_valueOf_278 ?_
                        refine g_callVi (ci := 11) (w_minus u hLu f2 f1 a b _ _ f3.2.1 f3.1 (vk_vcd va h40 h13) (vk_vcd vb h40 h13)) rfl (Nat.le_of_ble_eq_true rfl) (Nat.le_of_ble_eq_true rfl) rfl cv_X12_359 eX12_valueOf_280 ⟨Nat.le_of_ble_eq_true rfl, Nat.le_of_ble_eq_true rfl⟩ rfl rfl (Nat.le_of_ble_eq_true rfl) (fun y u2 h => ?_)
                        refine g_goto eX12_valueOf_283 ?_
                        refine g_iast rfl (Nat.le_of_ble_eq_true rfl) (vp_in_nI (n := S2.length) (N := 310) (by omega) (by decide)) eX12_valueOf_294 ?_
                        rw [nI_clamp (by omega)]
                        refine nx _ _ _ _ _ (by rw [hP]; rfl) (by rw [hP, hl2]; show S2.length + 1 ≤ _; omega) (by rw [hP]; exact hdp) ?_
                        rw [hP]
                        exact va_ld h f3.2.2
                    · exact absurd hb6 (by decide)
                  · exact absurd hb5 (by decide)
                · exact absurd hb4 (by decide)
              · exact absurd hb3 (by decide)
            · -- times
              rw [c1]
              rw [dpF, if_neg (by omega), if_neg (by omega), if_neg (by omega)] at hd
              obtain ⟨hd1, hdp⟩ := hd
              obtain ⟨b, S1, e1⟩ := ex_cons (show 1 ≤ m.2.2.1.length by omega)
              obtain ⟨a, S2, e2⟩ := ex_cons (show 1 ≤ S1.length by rw [e1] at hd1; have : 2 ≤ S1.length + 1 := hd1; omega)
              subst e2
              have hP : folP bs V cnt x.1 x.2 m = (m.1, (muP bs m.2.1 a b).1, (muP bs m.2.1 a b).2 :: S2, m.2.2.2) := by
                unfold folP
                rw [if_neg (by omega), if_neg (by omega), if_neg (by omega), if_neg (by omega), e1]
                unfold jnP
                rw [if_neg (by omega), if_neg (by omega)]
                rfl
              have hl2 : m.2.2.1.length = S2.length + 2 := by rw [e1]; rfl
              rw [hl2] at hdp hS300
              rw [hl2]
              rw [e1] at f3 hS
              have va := hS a (List.mem_cons_of_mem _ List.mem_cons_self)
              have vb := hS b List.mem_cons_self
              refine g_ist5 rfl (Nat.le_of_ble_eq_true rfl) eX12_valueOf_25 ?_
              refine g_ild5 eX12_valueOf_27 ?_
              refine g_iconst (v := 3) (by decide) eX12_valueOf_29 ?_
              refine g_icmp_ge eX12_valueOf_30 (fun hb3 => ?_) (fun hb3 => ?_)
              · refine g_ild5 eX12_valueOf_94 ?_
                refine g_bipush (v := 7) (by decide) eX12_valueOf_96 ?_
                refine g_icmp_ne eX12_valueOf_98 (fun hb4 => ?_) (fun hb4 => ?_)
                · refine g_ild5 eX12_valueOf_131 ?_
                  refine g_bipush (v := 6) (by decide) eX12_valueOf_133 ?_
                  refine g_icmp_ne eX12_valueOf_135 (fun hb5 => ?_) (fun hb5 => ?_)
                  · refine g_inc3 rfl (Nat.le_of_ble_eq_true rfl) rfl eX12_valueOf_224 ?_
                    rw [inc_m1]
                    refine g_ald0 eX12_valueOf_227 ?_
                    refine g_getR (ci := 11) (j := 51) rfl (Nat.le_of_ble_eq_true rfl) (Nat.le_of_ble_eq_true rfl) (Nat.le_of_ble_eq_true rfl) rfl rfl fl_X12_103 eX12_valueOf_228 ?_
                    refine g_ild3 eX12_valueOf_231 ?_
                    refine g_iconst (v := 1) (by decide) eX12_valueOf_232 ?_
                    refine g_isub eX12_valueOf_233 ?_
                    rw [nI_pred]
                    refine g_iald rfl (Nat.le_of_ble_eq_true rfl) (vp_in_nI (n := S2.length) (N := 310) (by omega) (by decide)) eX12_valueOf_234 ?_
                    refine g_ist6 rfl (Nat.le_of_ble_eq_true rfl) eX12_valueOf_235 ?_
                    refine g_ald0 eX12_valueOf_237 ?_
                    refine g_getR (ci := 11) (j := 51) rfl (Nat.le_of_ble_eq_true rfl) (Nat.le_of_ble_eq_true rfl) (Nat.le_of_ble_eq_true rfl) rfl rfl fl_X12_103 eX12_valueOf_238 ?_
                    refine g_ild3 eX12_valueOf_241 ?_
                    rw [nI_clamp (by omega)]
                    refine g_iald rfl (Nat.le_of_ble_eq_true rfl) (vp_in_nI (n := S2.length + 1) (N := 310) (by omega) (by decide)) eX12_valueOf_242 ?_
                    refine g_ist7 rfl (Nat.le_of_ble_eq_true rfl) eX12_valueOf_243 ?_
                    refine g_ald0 eX12_valueOf_245 ?_
                    refine g_getR (ci := 11) (j := 51) rfl (Nat.le_of_ble_eq_true rfl) (Nat.le_of_ble_eq_true rfl) (Nat.le_of_ble_eq_true rfl) rfl rfl fl_X12_103 eX12_valueOf_246 ?_
                    refine g_ild3 eX12_valueOf_249 ?_
                    refine g_iconst (v := 1) (by decide) eX12_valueOf_250 ?_
                    refine g_isub eX12_valueOf_251 ?_
                    rw [nI_clamp (by omega), nI_pred]
                    refine g_ild5 eX12_valueOf_252 ?_
                    refine g_iconst (v := 3) (by decide) eX12_valueOf_254 ?_
                    refine g_icmp_ne eX12_valueOf_255 (fun hb6 => ?_) (fun hb6 => ?_)
                    · refine g_ild5 eX12_valueOf_269 ?_
                      refine g_iconst (v := 4) (by decide) eX12_valueOf_271 ?_
                      refine g_icmp_ne eX12_valueOf_272 (fun hb7 => ?_) (fun hb7 => ?_)
                      · skip
                        refine g_ald0 eX12_valueOf_286 ?_
                        refine g_ild6 eX12_valueOf_287 ?_
                        refine g_ild7 eX12_valueOf_289 ?_
                        refine g_callVi (ci := 11) (w_times u hLu f2 f1 a b _ _ f3.2.1 f3.1 (vk_vcd va h40 h13) (vk_vcd vb h40 h13)) rfl (Nat.le_of_ble_eq_true rfl) (Nat.le_of_ble_eq_true rfl) rfl cv_X12_362 eX12_valueOf_291 ⟨Nat.le_of_ble_eq_true rfl, Nat.le_of_ble_eq_true rfl⟩ rfl rfl (Nat.le_of_ble_eq_true rfl) (fun y u2 h => ?_)
                        refine g_iast rfl (Nat.le_of_ble_eq_true rfl) (vp_in_nI (n := S2.length) (N := 310) (by omega) (by decide)) eX12_valueOf_294 ?_
                        rw [nI_clamp (by omega)]
                        refine nx _ _ _ _ _ (by rw [hP]; rfl) (by rw [hP, hl2]; show S2.length + 1 ≤ _; omega) (by rw [hP]; exact hdp) ?_
                        rw [hP]
                        exact va_ld h f3.2.2
                      · exact absurd hb7 (by decide)
                    · exact absurd hb6 (by decide)
                  · exact absurd hb5 (by decide)
                · exact absurd hb4 (by decide)
              · exact absurd hb3 (by decide)
            · -- a choice
              rw [c1]
              rw [dpF, if_neg (by omega), if_neg (by omega), if_pos k] at hd
              obtain ⟨hd1, hdp⟩ := hd
              obtain ⟨b, S1, e1⟩ := ex_cons (show 1 ≤ m.2.2.1.length by omega)
              obtain ⟨a, S2, e2⟩ := ex_cons (show 1 ≤ S1.length by rw [e1] at hd1; have : 3 ≤ S1.length + 1 := hd1; omega)
              subst e2
              obtain ⟨c, S3, e2⟩ := ex_cons (show 1 ≤ S2.length by rw [e1] at hd1; have : 3 ≤ S2.length + 1 + 1 := hd1; omega)
              subst e2
              have hP : folP bs V cnt x.1 x.2 m = (m.1, (chP bs m.2.1 c a b).1, (chP bs m.2.1 c a b).2 :: S3, m.2.2.2) := by
                unfold folP
                rw [if_neg (by omega), if_neg (by omega), if_neg (by omega), if_pos k, e1]
                rfl
              have hl2 : m.2.2.1.length = S3.length + 3 := by rw [e1]; rfl
              rw [hl2] at hdp hS300
              rw [hl2]
              rw [e1] at f3 hS
              have va := hS a (List.mem_cons_of_mem _ List.mem_cons_self)
              have vb := hS b List.mem_cons_self
              have vc := hS c (List.mem_cons_of_mem _ (List.mem_cons_of_mem _ List.mem_cons_self))
              have g1 := miP_gw (b := b) h2 va
              have g2 := muP_gw h2 (vk_mono vc g1.1) g1.2
              have g3 := plP_gw h2 g2.2 (vk_mono vb (Nat.le_trans g1.1 g2.1))
              have eC : chP bs m.2.1 c a b = plP bs (muP bs (miP bs m.2.1 a b).1 c (miP bs m.2.1 a b).2).1 (muP bs (miP bs m.2.1 a b).1 c (miP bs m.2.1 a b).2).2 b := rfl
              have i0' : vp_in (nI S3.length) 310 := vp_in_nI (n := S3.length) (N := 310) (by omega) (by decide)
              have i1' : vp_in (nI (S3.length + 1)) 310 := vp_in_nI (n := S3.length + 1) (N := 310) (by omega) (by decide)
              have i2' : vp_in (nI (S3.length + 2)) 310 := vp_in_nI (n := S3.length + 2) (N := 310) (by omega) (by decide)
              have fin : ∀ (y : Int32) (u2 : St) (b5 b6 b7 : Option Value), vaI pg u (m.1, (chP bs m.2.1 c a b).1, (chP bs m.2.1 c a b).2 :: S3, m.2.2.2) (sI u2 61 S3.length y) → G xp l xe (rmd (3)) xs xm xa xb xme xc D cy xad xA (YX12_valueOf.2.1, YX12_valueOf.1.cls, YX12_valueOf.2.2.1, YX12_valueOf.2.2.2) (Pi (vaP pg st X)) 220 ([some (.ref 31), some (.int (nI fr)), some (.int (nI to)), some (.int (nI (S3.length + 1))), some (.int (nI i0)), b5, b6, b7]) ([.int y, .int (nI S3.length), .ref 61]) (u2) := by
                intro y u2 b5 b6 b7 hva
                refine g_iast rfl (Nat.le_of_ble_eq_true rfl) i0' eX12_valueOf_220 ?_
                refine g_goto eX12_valueOf_221 ?_
                rw [nI_clamp (by omega)]
                refine nx _ _ _ _ _ (by rw [hP]; rfl) (by rw [hP, hl2]; show S3.length + 1 ≤ _; omega) (by rw [hP]; exact hdp) ?_
                rw [hP]
                exact hva
              have fulled : ∀ (y6 y7 : Int32) (u2 : St) (b5 : Option Value), lyFr pg u u2 → u2.1 31 50 = 1 → u2.1 42 pg = nI 40 → 40 < (chP bs m.2.1 c a b).1.length → G xp l xe (rmd (3)) xs xm xa xb xme xc D cy xad xA (YX12_valueOf.2.1, YX12_valueOf.1.cls, YX12_valueOf.2.2.1, YX12_valueOf.2.2.2) (Pi (vaP pg st X)) 188 ([some (.ref 31), some (.int (nI fr)), some (.int (nI to)), some (.int (nI (S3.length + 1))), some (.int (nI i0)), b5, some (.int y6), some (.int y7)]) ([]) (u2) := by
                intro y6 y7 u2 b5 hF3 hu1 hu2 h4
                refine g_ald0 eX12_valueOf_188 ?_
                refine g_getR (ci := 11) (j := 51) rfl (Nat.le_of_ble_eq_true rfl) (Nat.le_of_ble_eq_true rfl) (Nat.le_of_ble_eq_true rfl) rfl rfl fl_X12_103 eX12_valueOf_189 ?_
                refine g_ild3 eX12_valueOf_192 ?_
                refine g_iconst (v := 1) (by decide) eX12_valueOf_193 ?_
                refine g_isub eX12_valueOf_194 ?_
                rw [nI_pred]
                refine g_ald0 eX12_valueOf_195 ?_
                refine g_getI (ci := 11) (j := 50) rfl (Nat.le_of_ble_eq_true rfl) (Nat.le_of_ble_eq_true rfl) (Nat.le_of_ble_eq_true rfl) rfl fl_X12_335 eX12_valueOf_196 ?_
                rw [hu1]
                refine g_if_eq eX12_valueOf_199 (fun hb6 => ?_) (fun hb6 => ?_)
                · exact absurd hb6 (by decide)
                · refine g_iconst (v := 0) (by decide) eX12_valueOf_202 ?_
                  refine g_goto eX12_valueOf_203 ?_
                  exact fin _ _ _ _ _ (va_full hF3 hu1 hu2 h4)
              refine g_ist5 rfl (Nat.le_of_ble_eq_true rfl) eX12_valueOf_25 ?_
              refine g_ild5 eX12_valueOf_27 ?_
              refine g_iconst (v := 3) (by decide) eX12_valueOf_29 ?_
              refine g_icmp_ge eX12_valueOf_30 (fun hb3 => ?_) (fun hb3 => ?_)
              · refine g_ild5 eX12_valueOf_94 ?_
                refine g_bipush (v := 7) (by decide) eX12_valueOf_96 ?_
                refine g_icmp_ne eX12_valueOf_98 (fun hb4 => ?_) (fun hb4 => ?_)
                · refine g_ild5 eX12_valueOf_131 ?_
                  refine g_bipush (v := 6) (by decide) eX12_valueOf_133 ?_
                  refine g_icmp_ne eX12_valueOf_135 (fun hb5 => ?_) (fun hb5 => ?_)
                  · exact absurd rfl hb5
                  · refine g_inc3 rfl (Nat.le_of_ble_eq_true rfl) rfl eX12_valueOf_138 ?_
                    rw [show nI (S3.length + 3) + Int32.ofInt (-2) = nI (S3.length + 1) from inc_m2 _]
                    refine g_ald0 eX12_valueOf_141 ?_
                    refine g_ald0 eX12_valueOf_142 ?_
                    refine g_getR (ci := 11) (j := 51) rfl (Nat.le_of_ble_eq_true rfl) (Nat.le_of_ble_eq_true rfl) (Nat.le_of_ble_eq_true rfl) rfl rfl fl_X12_103 eX12_valueOf_143 ?_
                    refine g_ild3 eX12_valueOf_146 ?_
                    refine g_iald rfl (Nat.le_of_ble_eq_true rfl) i1' eX12_valueOf_147 ?_
                    rw [nI_clamp (by omega)]
                    refine g_ald0 eX12_valueOf_148 ?_
                    refine g_getR (ci := 11) (j := 51) rfl (Nat.le_of_ble_eq_true rfl) (Nat.le_of_ble_eq_true rfl) (Nat.le_of_ble_eq_true rfl) rfl rfl fl_X12_103 eX12_valueOf_149 ?_
                    refine g_ild3 eX12_valueOf_152 ?_
                    refine g_iconst (v := 1) (by decide) eX12_valueOf_153 ?_
                    refine g_iadd eX12_valueOf_154 ?_
                    rw [show nI (S3.length + 1) + 1 = nI (S3.length + 2) from nI_1 _]
                    refine g_iald rfl (Nat.le_of_ble_eq_true rfl) i2' eX12_valueOf_155 ?_
                    rw [nI_clamp (by omega)]
                    refine g_callVi (ci := 11) (w_minus u hLu f2 f1 a b _ _ f3.2.1 f3.1 (vk_vcd va h40 h13) (vk_vcd vb h40 h13)) rfl (Nat.le_of_ble_eq_true rfl) (Nat.le_of_ble_eq_true rfl) rfl cv_X12_359 eX12_valueOf_156 ⟨Nat.le_of_ble_eq_true rfl, Nat.le_of_ble_eq_true rfl⟩ rfl rfl (Nat.le_of_ble_eq_true rfl) (fun y6 u2 h => ?_)
                    have hF3 := h.1
                    refine g_ist6 rfl (Nat.le_of_ble_eq_true rfl) eX12_valueOf_159 ?_
                    refine g_ald0 eX12_valueOf_161 ?_
                    refine g_getI (ci := 11) (j := 50) rfl (Nat.le_of_ble_eq_true rfl) (Nat.le_of_ble_eq_true rfl) (Nat.le_of_ble_eq_true rfl) rfl fl_X12_335 eX12_valueOf_162 ?_
                    by_cases h41 : (miP bs m.2.1 a b).1.length ≤ 40
                    · obtain ⟨i1, i2, i3⟩ := h.2.1 h41
                      rw [i1]
                      refine g_if_eq eX12_valueOf_165 (fun hb6 => ?_) (fun hb6 => ?_)
                      · refine g_ald0 eX12_valueOf_172 ?_
                        refine g_ald0 eX12_valueOf_173 ?_
                        refine g_getR (ci := 11) (j := 51) rfl (Nat.le_of_ble_eq_true rfl) (Nat.le_of_ble_eq_true rfl) (Nat.le_of_ble_eq_true rfl) rfl rfl fl_X12_103 eX12_valueOf_174 ?_
                        refine g_ild3 eX12_valueOf_177 ?_
                        refine g_iconst (v := 1) (by decide) eX12_valueOf_178 ?_
                        refine g_isub eX12_valueOf_179 ?_
                        rw [nI_pred]
                        refine g_iald rfl (Nat.le_of_ble_eq_true rfl) i0' eX12_valueOf_180 ?_
                        refine g_ild6 eX12_valueOf_181 ?_
                        rw [nI_clamp (by omega), show u2.1 61 = u.1 61 from hF3.1 61 (by decide) (by decide)]
                        refine g_callVi (ci := 11) (w_times u2 (lsM_fr hLu hF3) i2 i1 c _ _ y6 f3.2.2.1 i3 (vk_vcd (vk_mono vc g1.1) h41 h13) (vk_vcd g1.2 h41 h13)) rfl (Nat.le_of_ble_eq_true rfl) (Nat.le_of_ble_eq_true rfl) rfl cv_X12_362 eX12_valueOf_183 ⟨Nat.le_of_ble_eq_true rfl, Nat.le_of_ble_eq_true rfl⟩ rfl rfl (Nat.le_of_ble_eq_true rfl) (fun y7 u3 h9 => ?_)
                        have hF4 := hF3.trans h9.1
                        refine g_ist7 rfl (Nat.le_of_ble_eq_true rfl) eX12_valueOf_186 ?_
                        by_cases h42 : (muP bs (miP bs m.2.1 a b).1 c (miP bs m.2.1 a b).2).1.length ≤ 40
                        · obtain ⟨j1, j2, j3⟩ := h9.2.1 h42
                          refine g_ald0 eX12_valueOf_188 ?_
                          refine g_getR (ci := 11) (j := 51) rfl (Nat.le_of_ble_eq_true rfl) (Nat.le_of_ble_eq_true rfl) (Nat.le_of_ble_eq_true rfl) rfl rfl fl_X12_103 eX12_valueOf_189 ?_
                          refine g_ild3 eX12_valueOf_192 ?_
                          refine g_iconst (v := 1) (by decide) eX12_valueOf_193 ?_
                          refine g_isub eX12_valueOf_194 ?_
                          rw [nI_pred]
                          refine g_ald0 eX12_valueOf_195 ?_
                          refine g_getI (ci := 11) (j := 50) rfl (Nat.le_of_ble_eq_true rfl) (Nat.le_of_ble_eq_true rfl) (Nat.le_of_ble_eq_true rfl) rfl fl_X12_335 eX12_valueOf_196 ?_
                          rw [j1]
                          refine g_if_eq eX12_valueOf_199 (fun hb7 => ?_) (fun hb7 => ?_)
                          · refine g_ald0 eX12_valueOf_206 ?_
                            refine g_ild7 eX12_valueOf_207 ?_
                            refine g_ald0 eX12_valueOf_209 ?_
                            refine g_getR (ci := 11) (j := 51) rfl (Nat.le_of_ble_eq_true rfl) (Nat.le_of_ble_eq_true rfl) (Nat.le_of_ble_eq_true rfl) rfl rfl fl_X12_103 eX12_valueOf_210 ?_
                            refine g_ild3 eX12_valueOf_213 ?_
                            refine g_iconst (v := 1) (by decide) eX12_valueOf_214 ?_
                            refine g_iadd eX12_valueOf_215 ?_
                            rw [show nI (S3.length + 1) + 1 = nI (S3.length + 2) from nI_1 _]
                            refine g_iald rfl (Nat.le_of_ble_eq_true rfl) i2' eX12_valueOf_216 ?_
                            rw [nI_clamp (by omega), show u3.1 61 = u.1 61 from hF4.1 61 (by decide) (by decide)]
                            refine g_callVi (ci := 11) (w_plus u3 (lsM_fr hLu hF4) j2 j1 _ b y7 _ j3 f3.1 (vk_vcd g2.2 h42 h13).1 (vk_vcd (vk_mono vb (Nat.le_trans g1.1 g2.1)) h42 h13).1) rfl (Nat.le_of_ble_eq_true rfl) (Nat.le_of_ble_eq_true rfl) rfl cv_X12_364 eX12_valueOf_217 ⟨Nat.le_of_ble_eq_true rfl, Nat.le_of_ble_eq_true rfl⟩ rfl rfl (Nat.le_of_ble_eq_true rfl) (fun y8 u4 h8 => ?_)
                            rw [← eC] at h8
                            exact fin _ _ _ _ _ (va_ld (ld_fr hF4 h8) f3.2.2.2)
                          · exact absurd rfl hb7
                        · obtain ⟨j1, j2⟩ := h9.2.2 (by omega)
                          exact fulled _ _ _ _ hF4 j1 j2 (by rw [eC]; have := g3.1; omega)
                      · exact absurd rfl hb6
                    · obtain ⟨i1, i2⟩ := h.2.2 (by omega)
                      rw [i1]
                      refine g_if_eq eX12_valueOf_165 (fun hb6 => ?_) (fun hb6 => ?_)
                      · exact absurd hb6 (by decide)
                      · refine g_iconst (v := 0) (by decide) eX12_valueOf_168 ?_
                        refine g_goto eX12_valueOf_169 ?_
                        refine g_ist7 rfl (Nat.le_of_ble_eq_true rfl) eX12_valueOf_186 ?_
                        exact fulled _ _ _ _ hF3 i1 i2 (by rw [eC]; have := g3.1; have := g2.1; omega)
                · exact absurd hb4 (by decide)
              · exact absurd hb3 (by decide)
      · have hg := foF_gw (cnt := cnt) (V := V) h2 (x :: r) hS (fun y hy q => by rw [hm]; exact hv y hy q)
        rw [hX2] at hg
        obtain ⟨f1, f2⟩ := hI.2.2 (by omega)
        refine g_ild4 eX12_valueOf_5 ?_
        refine g_ild2 eX12_valueOf_7 ?_
        refine g_icmp_ge eX12_valueOf_8 (fun hb => ?_) (fun hb => ?_)
        · exact out _ _ _ _ _ _ ⟨hI.1, fun q => by omega, fun _ => ⟨f1, f2⟩⟩
        · refine g_ald0 eX12_valueOf_11 ?_
          refine g_getI (ci := 11) (j := 50) rfl (Nat.le_of_ble_eq_true rfl) (Nat.le_of_ble_eq_true rfl) (Nat.le_of_ble_eq_true rfl) rfl fl_X12_335 eX12_valueOf_12 ?_
          rw [f1]
          refine g_if_ne eX12_valueOf_15 (fun hb1 => ?_) (fun hb1 => ?_)
          · exact out _ _ _ _ _ _ ⟨hI.1, fun q => by omega, fun _ => ⟨f1, f2⟩⟩
          · exact absurd hb1 (by decide)
  refine g_iconst (v := 0) (by decide) eX12_valueOf_0 ?_
  refine g_ist3 rfl (Nat.le_of_ble_eq_true rfl) eX12_valueOf_1 ?_
  refine g_ild1 eX12_valueOf_2 ?_
  refine g_ist4 rfl (Nat.le_of_ble_eq_true rfl) eX12_valueOf_3 ?_
  have e0 : m.2.2.1.length = 0 := by rw [hS]; rfl
  have := loop os fr m st none none none hto hm (by omega) (by rw [e0]; exact hd) hc hv (by rw [hS]; exact fun c hc => absurd hc List.not_mem_nil) ⟨lvFr.refl _ _, fun _ => ⟨hf, hw, by rw [hS]; trivial⟩, fun q => by have := hw.2.1; omega⟩ hX
  rw [e0] at this
  exact this
end WVAL
