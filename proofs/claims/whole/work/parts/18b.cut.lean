/-! THE MODEL CUTS: cut -/
theorem mtS_34 (st : St) (c : Nat) (k p v : Int32) (w : Int64) : (mtS st c k p v w).1 34 c = k := if_pos ⟨rfl, rfl⟩
theorem mtS_35 (st : St) (c : Nat) (k p v : Int32) (w : Int64) : (mtS st c k p v w).1 35 c = p := by
  show (if (35 : Nat) = 34 ∧ c = c then k else if (35 : Nat) = 35 ∧ c = c then p else if (35 : Nat) = 36 ∧ c = c then v else if (35 : Nat) = 31 ∧ c = 9 then nI (c + 1) else st.1 35 c) = p
  rw [if_neg (by omega), if_pos ⟨rfl, rfl⟩]
theorem mtS_36 (st : St) (c : Nat) (k p v : Int32) (w : Int64) : (mtS st c k p v w).1 36 c = v := by
  show (if (36 : Nat) = 34 ∧ c = c then k else if (36 : Nat) = 35 ∧ c = c then p else if (36 : Nat) = 36 ∧ c = c then v else if (36 : Nat) = 31 ∧ c = 9 then nI (c + 1) else st.1 36 c) = v
  rw [if_neg (by omega), if_neg (by omega), if_pos ⟨rfl, rfl⟩]
theorem mtS_37 (st : St) (c : Nat) (k p v : Int32) (w : Int64) : (mtS st c k p v w).2 37 c = w := if_pos ⟨rfl, rfl⟩
theorem mtS_n (st : St) (c : Nat) (k p v : Int32) (w : Int64) {a b : Nat} (ha : a ≠ 31) (hb : b ≠ c) : (mtS st c k p v w).1 a b = st.1 a b := by
  show (if a = 34 ∧ b = c then k else if a = 35 ∧ b = c then p else if a = 36 ∧ b = c then v else if a = 31 ∧ b = 9 then nI (c + 1) else st.1 a b) = st.1 a b
  rw [if_neg (by omega), if_neg (by omega), if_neg (by omega), if_neg (by omega)]
theorem mtS_n2 (st : St) (c : Nat) (k p v : Int32) (w : Int64) {b : Nat} (hb : b ≠ c) (a : Nat) : (mtS st c k p v w).2 a b = st.2 a b := by
  show (if a = 37 ∧ b = c then w else st.2 a b) = st.2 a b
  rw [if_neg (by omega)]
theorem mtS_c (st : St) (c : Nat) (k p v : Int32) (w : Int64) : (mtS st c k p v w).1 31 9 = nI (c + 1) := by
  show (if (31 : Nat) = 34 ∧ 9 = c then k else if (31 : Nat) = 35 ∧ 9 = c then p else if (31 : Nat) = 36 ∧ 9 = c then v else if (31 : Nat) = 31 ∧ 9 = 9 then nI (c + 1) else st.1 31 9) = nI (c + 1)
  rw [if_neg (by omega), if_neg (by omega), if_neg (by omega), if_pos ⟨rfl, rfl⟩]
/-- nothing but the model's tokens -/
def cuFr (st u : St) : Prop := (∀ a, a ≠ 31 → a ≠ 34 → a ≠ 35 → a ≠ 36 → u.1 a = st.1 a) ∧ (∀ j, j ≠ 9 → u.1 31 j = st.1 31 j) ∧ ∀ a, a ≠ 37 → u.2 a = st.2 a
theorem cuFr.trans {a b c : St} (h1 : cuFr a b) (h2 : cuFr b c) : cuFr a c := ⟨fun k x y z v => (h2.1 k x y z v).trans (h1.1 k x y z v), fun j x => (h2.2.1 j x).trans (h1.2.1 j x), fun k x => (h2.2.2 k x).trans (h1.2.2 k x)⟩
theorem cuFr_put (st : St) (c : Nat) (k p v : Int32) (w : Int64) : cuFr st (mtS st c k p v w) := by
  refine ⟨fun a x y z u => ?_, fun j hj => ?_, fun a ha => ?_⟩
  · funext b
    show (if a = 34 ∧ b = c then k else if a = 35 ∧ b = c then p else if a = 36 ∧ b = c then v else if a = 31 ∧ b = 9 then nI (c + 1) else st.1 a b) = st.1 a b
    rw [if_neg (by omega), if_neg (by omega), if_neg (by omega), if_neg (by omega)]
  · show (if (31 : Nat) = 34 ∧ j = c then k else if (31 : Nat) = 35 ∧ j = c then p else if (31 : Nat) = 36 ∧ j = c then v else if (31 : Nat) = 31 ∧ j = 9 then nI (c + 1) else st.1 31 j) = st.1 31 j
    rw [if_neg (by omega), if_neg (by omega), if_neg (by omega), if_neg (by omega)]
  · funext b
    show (if a = 37 ∧ b = c then w else st.2 a b) = st.2 a b
    rw [if_neg (by omega)]
def tmR (B : Nat → Nat) (n : Nat) (u : St) (k : Nat) : Prop := u.1 34 k = nI (mkK (tkK B n k)) ∧ u.1 35 k = nI (tkP B n k) ∧ (tkK B n k = 3 → u.1 36 k = nI (tkV B n k)) ∧ (tkK B n k = 2 → u.2 37 k = lN (tkW B n k))
theorem tmR_put {B : Nat → Nat} {n : Nat} {u : St} {c : Nat} (h : ∀ k, k < c → tmR B n u k) {k v : Nat} {w : Int64} (hk : k = mkK (tkK B n c)) (hv : tkK B n c = 3 → v = tkV B n c) (hw : tkK B n c = 2 → w = lN (tkW B n c)) : ∀ j, j < c + 1 → tmR B n (mtS u c (nI k) (nI (tkP B n c)) (nI v) w) j := by
  intro j hj
  unfold tmR
  by_cases e : j = c
  · subst e
    rw [mtS_34, mtS_35, mtS_36, mtS_37]
    exact ⟨by rw [hk], rfl, fun q => by rw [hv q], hw⟩
  · rw [mtS_n _ _ _ _ _ _ (by decide) e, mtS_n _ _ _ _ _ _ (by decide) e, mtS_n _ _ _ _ _ _ (by decide) e, mtS_n2 _ _ _ _ _ _ e]
    exact h j (by omega)
def kwF (w : List Nat) : Nat → Nat
  | 0 => 1
  | a + 1 => if w = txW a then 20 + a else kwF w a
theorem kwF_lt (w : List Nat) : ∀ a, kwF w a < 20 + a + 1
  | 0 => by show 1 < 21; decide
  | a + 1 => by
    have := kwF_lt w a
    rw [kwF]
    split <;> omega
theorem kwF_6 (w : List Nat) : kwF w 6 = mkK (wordK w) := by
  by_cases h0 : w = txW 0
  · rw [h0]; decide
  by_cases h1 : w = txW 1
  · rw [h1]; decide
  by_cases h2 : w = txW 2
  · rw [h2]; decide
  by_cases h3 : w = txW 3
  · rw [h3]; decide
  by_cases h4 : w = txW 4
  · rw [h4]; decide
  by_cases h5 : w = txW 5
  · rw [h5]; decide
  rw [wordK_tx, if_neg h0, if_neg h1, if_neg h2, if_neg h3, if_neg h4, if_neg h5, kwF, if_neg h5, kwF, if_neg h4, kwF, if_neg h3, kwF, if_neg h2, kwF, if_neg h1, kwF, if_neg h0]
  rfl
theorem wordK_long {w : List Nat} (h : 6 < w.length) : wordK w = 2 := by
  have hl := fun k hk => (txW_len k hk).2
  rw [wordK_tx, if_neg (fun q => by have := hl 0 (by decide); rw [← q] at this; omega), if_neg (fun q => by have := hl 1 (by decide); rw [← q] at this; omega), if_neg (fun q => by have := hl 2 (by decide); rw [← q] at this; omega), if_neg (fun q => by have := hl 3 (by decide); rw [← q] at this; omega), if_neg (fun q => by have := hl 4 (by decide); rw [← q] at this; omega), if_neg (fun q => by have := hl 5 (by decide); rw [← q] at this; omega)]
theorem nFm {b z : Nat} {B : Nat → Nat} {i m c : Nat} : numF b z B i (min (m + 1) c) = if m < c then numF b z B i m * b + (B (i + m) - z) else numF b z B i (min m c) := by
  by_cases h : m < c
  · rw [if_pos h, show min (m + 1) c = m + 1 by omega]; rfl
  · rw [if_neg h, show min (m + 1) c = min m c by omega]
section CUTN
variable {l : Launch} {D : va_G} {cy : Nat → ClassId}
def cutP (B : Nat → Nat) (n : Nat) (st u : St) : Prop := cuFr st u ∧ ∀ k, k ≤ 300 → (∀ j, j < k → tkK B n j ≠ 0) → tmR B n u k
theorem w_cut (st : St) {B : Nat → Nat} {n : Nat} (hT : mtOK st B n) (hK : kyOK st) : Mv l D cy 1 YX12_cut [.ref 31] st (cutP B n st) := by
  have hn2 := hT.2.1
  refine M.ofG [some (.ref 31), none, none, none, none, none, none, none] (by decide) (Nat.le_of_ble_eq_true rfl) rfl ?_
  intro xp xe xs xm xa xb xme xc xad xA
  have hTu : ∀ u, cuFr st u → mtOK u B n := by
    intro u h
    unfold mtOK
    rw [h.2.1 3 (by decide), h.1 33 (by decide) (by decide) (by decide) (by decide)]
    exact hT
  have loop : ∀ (f i c : Nat) (u : St) (y2 y3 y4 y6 y7 : Option Value), n - i ≤ f → i ≤ n → c ≤ 301 → cuFr st u → u.1 31 9 = nI c → (∀ k, k < c → tmR B n u k) → (∀ k, k < c → tkK B n k ≠ 0) → stp blk B n i = tkP B n c → G xp l xe (rmd (1)) xs xm xa xb xme xc D cy xad xA (YX12_cut.2.1, YX12_cut.1.cls, YX12_cut.2.2.1, YX12_cut.2.2.2) (Pv (cutP B n st)) 7 ([some (.ref 31), some (.int (nI i)), y2, y3, y4, none, y6, y7]) ([]) (u) := by
    intro f
    induction f with
    | zero =>
      intro i c u y2 y3 y4 y6 y7 hf hi hc hF hcc hR h0 hP
      have ei : i = n := by omega
      have hPn : tkP B n c = n := by rw [← hP, stp_no (by omega)]; exact ei
      have hK0 : tkK B n c = 0 := tkK_end.mpr (by omega)
      refine g_ald0 eX12_cut_7 ?_
      refine g_getI (ci := 11) (j := 9) rfl (Nat.le_of_ble_eq_true rfl) (Nat.le_of_ble_eq_true rfl) (Nat.le_of_ble_eq_true rfl) rfl fl_X12_196 eX12_cut_8 ?_
      rw [hcc]
      refine g_sipush (v := 300) (by decide) eX12_cut_11 ?_
      refine g_icmp_gt eX12_cut_14 (fun hb => ?_) (fun hb => ?_)
      · rw [show (300 : Int32) = nI 300 from rfl, nI_ltI (by omega) (by omega)] at hb
        refine g_vret rfl eX12_cut_292 ⟨rfl, ?_⟩
        try dsimp only
        exact ⟨hF, fun k hk _ => hR k (by omega)⟩
      · rw [show (300 : Int32) = nI 300 from rfl, nI_ltI (by omega) (by omega)] at hb
        refine g_ald0 eX12_cut_17 ?_
        refine g_ild1 eX12_cut_18 ?_
        refine g_callVi (ci := 11) (w_byteAt u (hTu u hF) i (by omega)) rfl (Nat.le_of_ble_eq_true rfl) (Nat.le_of_ble_eq_true rfl) rfl cv_X12_199 eX12_cut_19 ⟨Nat.le_of_ble_eq_true rfl, Nat.le_of_ble_eq_true rfl⟩ rfl rfl (Nat.le_of_ble_eq_true rfl) (fun r u h => ?_)
        obtain ⟨rfl, rfl⟩ := h
        refine g_ist2 rfl (Nat.le_of_ble_eq_true rfl) eX12_cut_22 ?_
        refine g_ild1 eX12_cut_23 ?_
        refine g_ald0 eX12_cut_24 ?_
        refine g_getI (ci := 11) (j := 3) rfl (Nat.le_of_ble_eq_true rfl) (Nat.le_of_ble_eq_true rfl) (Nat.le_of_ble_eq_true rfl) rfl fl_X12_187 eX12_cut_25 ?_
        rw [(hTu u hF).1]
        refine g_icmp_lt eX12_cut_28 (fun hb2 => ?_) (fun hb2 => ?_)
        · exact absurd hb2 (by rw [nI_ltI (by omega) (by omega)]; omega)
        · refine g_ald0 eX12_cut_31 ?_
          refine g_iconst (v := 0) (by decide) eX12_cut_32 ?_
          refine g_ald0 eX12_cut_33 ?_
          refine g_getI (ci := 11) (j := 3) rfl (Nat.le_of_ble_eq_true rfl) (Nat.le_of_ble_eq_true rfl) (Nat.le_of_ble_eq_true rfl) rfl fl_X12_187 eX12_cut_34 ?_
          rw [(hTu u hF).1]
          refine g_iconst (v := 0) (by decide) eX12_cut_37 ?_
          refine g_lconst (v := 0) rfl eX12_cut_38 ?_
          refine g_callVv (ci := 11) (w_token u c hcc (by omega) 0 (nI n) 0 0) rfl (Nat.le_of_ble_eq_true rfl) (Nat.le_of_ble_eq_true rfl) rfl cv_X12_203 eX12_cut_39 ⟨Nat.le_of_ble_eq_true rfl, Nat.le_of_ble_eq_true rfl⟩ rfl rfl (Nat.le_of_ble_eq_true rfl) (fun w h => ?_)
          subst h
          refine g_vret rfl eX12_cut_42 ⟨rfl, ?_⟩
          try dsimp only
          refine ⟨hF.trans (cuFr_put _ _ _ _ _ _), fun k hk hj => ?_⟩
          have hput := tmR_put hR (k := 0) (v := 0) (w := 0) (by rw [hK0]; rfl) (fun q => by rw [hK0] at q; omega) (fun q => by rw [hK0] at q; omega)
          rw [hPn] at hput
          have hkc : k ≤ c := by
            by_cases q : k ≤ c
            · exact q
            · exact absurd hK0 (hj c (by omega))
          exact hput k (by omega)
    | succ f ih =>
      intro i c u y2 y3 y4 y6 y7 hf hi hc hF hcc hR h0 hP
      by_cases ei : i = n
      · exact ih i c u y2 y3 y4 y6 y7 (by omega) hi hc hF hcc hR h0 hP
      have hin : i < n := by omega
      have hB := (hT.2.2 i hin).2
      have hby : by0 B n i = B i := by unfold by0; rw [if_pos hin]
      refine g_ald0 eX12_cut_7 ?_
      refine g_getI (ci := 11) (j := 9) rfl (Nat.le_of_ble_eq_true rfl) (Nat.le_of_ble_eq_true rfl) (Nat.le_of_ble_eq_true rfl) rfl fl_X12_196 eX12_cut_8 ?_
      rw [hcc]
      refine g_sipush (v := 300) (by decide) eX12_cut_11 ?_
      refine g_icmp_gt eX12_cut_14 (fun hb => ?_) (fun hb => ?_)
      · rw [show (300 : Int32) = nI 300 from rfl, nI_ltI (by omega) (by omega)] at hb
        refine g_vret rfl eX12_cut_292 ⟨rfl, ?_⟩
        try dsimp only
        exact ⟨hF, fun k hk _ => hR k (by omega)⟩
      · rw [show (300 : Int32) = nI 300 from rfl, nI_ltI (by omega) (by omega)] at hb
        refine g_ald0 eX12_cut_17 ?_
        refine g_ild1 eX12_cut_18 ?_
        refine g_callVi (ci := 11) (w_byteAt u (hTu u hF) i (by omega)) rfl (Nat.le_of_ble_eq_true rfl) (Nat.le_of_ble_eq_true rfl) rfl cv_X12_199 eX12_cut_19 ⟨Nat.le_of_ble_eq_true rfl, Nat.le_of_ble_eq_true rfl⟩ rfl rfl (Nat.le_of_ble_eq_true rfl) (fun r u h => ?_)
        obtain ⟨rfl, rfl⟩ := h
        rw [hby]
        refine g_ist2 rfl (Nat.le_of_ble_eq_true rfl) eX12_cut_22 ?_
        refine g_ild1 eX12_cut_23 ?_
        refine g_ald0 eX12_cut_24 ?_
        refine g_getI (ci := 11) (j := 3) rfl (Nat.le_of_ble_eq_true rfl) (Nat.le_of_ble_eq_true rfl) (Nat.le_of_ble_eq_true rfl) rfl fl_X12_187 eX12_cut_25 ?_
        rw [(hTu u hF).1]
        refine g_icmp_lt eX12_cut_28 (fun hb2 => ?_) (fun hb2 => ?_)
        · have blank : blk (B i) → G xp l xe (rmd (1)) xs xm xa xb xme xc D cy xad xA (YX12_cut.2.1, YX12_cut.1.cls, YX12_cut.2.2.1, YX12_cut.2.2.2) (Pv (cutP B n st)) 67 ([some (.ref 31), some (.int (nI i)), some (.int (nI (B i))), y3, y4, none, y6, y7]) ([]) (u) := by
            intro hbl
            refine g_inc1 rfl (Nat.le_of_ble_eq_true rfl) rfl eX12_cut_67 ?_
            refine g_goto eX12_cut_70 ?_
            refine g_goto eX12_cut_289 ?_
            rw [inc1]
            exact ih (i + 1) c u _ _ _ _ _ (by omega) (by omega) hc hF hcc hR h0 (by rw [← hP, stp_go hin hbl])
          have other : ¬ blk (B i) → G xp l xe (rmd (1)) xs xm xa xb xme xc D cy xad xA (YX12_cut.2.1, YX12_cut.1.cls, YX12_cut.2.2.1, YX12_cut.2.2.2) (Pv (cutP B n st)) 73 ([some (.ref 31), some (.int (nI i)), some (.int (nI (B i))), y3, y4, none, y6, y7]) ([]) (u) := by
            intro hnb
            have hPi : tkP B n c = i := by rw [← hP, stp_no (fun q => hnb q.2)]
            have hlt : tkP B n c < n := by omega
            have hKc : tkK B n c = kdF B n i := by unfold tkK; rw [if_pos hlt, hPi]
            have hVc : tkV B n c = vlF B n i := by unfold tkV; rw [if_pos hlt, hPi]
            have hWc : tkW B n c = numF 27 96 B i (endT B n i - i) := by unfold tkW; rw [hPi]
            have her := endT_rng (B := B) hin
            have hK0 : ∀ k, k < c + 1 → tkK B n k ≠ 0 := by
              intro k hk
              by_cases e : k = c
              · rw [e, hKc]; exact kdF_ne
              · exact h0 k (by omega)
            have next : ∀ (k v : Nat) (w : Int64) (y2 y3 y4 y6 y7 : Option Value), k = mkK (kdF B n i) → (kdF B n i = 3 → v = vlF B n i) → (kdF B n i = 2 → w = lN (numF 27 96 B i (endT B n i - i))) → G xp l xe (rmd (1)) xs xm xa xb xme xc D cy xad xA (YX12_cut.2.1, YX12_cut.1.cls, YX12_cut.2.2.1, YX12_cut.2.2.2) (Pv (cutP B n st)) 7 ([some (.ref 31), some (.int (nI (endT B n i))), y2, y3, y4, none, y6, y7]) ([]) (mtS u c (nI k) (nI i) (nI v) w) := by
              intro k v w y2 y3 y4 y6 y7 hk hv hw
              have hput := tmR_put hR (k := k) (v := v) (w := w) (by rw [hKc]; exact hk) (fun q => by rw [hKc] at q; rw [hVc]; exact hv q) (fun q => by rw [hKc] at q; rw [hWc]; exact hw q)
              rw [hPi] at hput
              exact ih _ (c + 1) _ _ _ _ _ _ (by omega) her.2 (by omega) (hF.trans (cuFr_put _ _ _ _ _ _)) (mtS_c _ _ _ _ _ _) hput hK0 (by rw [tkP_go hlt, hPi])
            refine g_ild2 eX12_cut_73 ?_
            refine g_callSi (w_isLetter u (B i) hB) cs_X12_207 eX12_cut_74 ⟨Nat.le_of_ble_eq_true rfl, Nat.le_of_ble_eq_true rfl⟩ rfl rfl (Nat.le_of_ble_eq_true rfl) (fun r u h => ?_)
            obtain ⟨rfl, rfl⟩ := h
            refine g_if_eq eX12_cut_77 (fun hb3 => ?_) (fun hb3 => ?_)
            · rw [b2_eq0] at hb3
              refine g_ild2 eX12_cut_196 ?_
              refine g_callSi (w_isDigit u (B i) hB) cs_X12_211 eX12_cut_197 ⟨Nat.le_of_ble_eq_true rfl, Nat.le_of_ble_eq_true rfl⟩ rfl rfl (Nat.le_of_ble_eq_true rfl) (fun r u h => ?_)
              obtain ⟨rfl, rfl⟩ := h
              refine g_if_eq eX12_cut_200 (fun hb4 => ?_) (fun hb4 => ?_)
              · rw [b2_eq0] at hb4
                have hend : endT B n i = i + 1 := endT_sgn hb3 hb4
                have hkd : kdF B n i = if sgn (B i) = true then B i else 1 := by unfold kdF; rw [if_neg hb3, if_neg hb4]
                have hks : kdF B n i ≠ 2 ∧ kdF B n i ≠ 3 := by
                  rw [hkd]
                  have hsg : ∀ c, c < 256 → (if sgn c = true then c else 1) ≠ 2 ∧ (if sgn c = true then c else 1) ≠ 3 := by decide +kernel
                  exact hsg _ hB
                refine g_ald0 eX12_cut_275 ?_
                refine g_ild2 eX12_cut_276 ?_
                refine g_callSi (w_sign u (B i) hB) cs_X12_214 eX12_cut_277 ⟨Nat.le_of_ble_eq_true rfl, Nat.le_of_ble_eq_true rfl⟩ rfl rfl (Nat.le_of_ble_eq_true rfl) (fun r u h => ?_)
                obtain ⟨rfl, rfl⟩ := h
                rw [← hkd]
                refine g_ild1 eX12_cut_280 ?_
                refine g_iconst (v := 0) (by decide) eX12_cut_281 ?_
                refine g_lconst (v := 0) rfl eX12_cut_282 ?_
                refine g_callVv (ci := 11) (w_token u c hcc (by omega) _ (nI i) 0 0) rfl (Nat.le_of_ble_eq_true rfl) (Nat.le_of_ble_eq_true rfl) rfl cv_X12_203 eX12_cut_283 ⟨Nat.le_of_ble_eq_true rfl, Nat.le_of_ble_eq_true rfl⟩ rfl rfl (Nat.le_of_ble_eq_true rfl) (fun w h => ?_)
                subst h
                refine g_inc1 rfl (Nat.le_of_ble_eq_true rfl) rfl eX12_cut_286 ?_
                refine g_goto eX12_cut_289 ?_
                rw [inc1]
                have h9 := next (mkK (kdF B n i)) 0 0 (some (.int (nI (B i)))) y3 y4 y6 y7 rfl (fun q => absurd q hks.2) (fun q => absurd q hks.1)
                rw [hend] at h9
                exact h9
              · rw [b2_ne0] at hb4
                have hend := endT_dgt hin hb4
                have inner : ∀ (g m : Nat), i + m + g = endT B n i → G xp l xe (rmd (1)) xs xm xa xb xme xc D cy xad xA (YX12_cut.2.1, YX12_cut.1.cls, YX12_cut.2.2.1, YX12_cut.2.2.2) (Pv (cutP B n st)) 208 ([some (.ref 31), some (.int (nI i)), some (.int (nI (B i))), some (.int (nI m)), some (.int (nI (numF 10 48 B i (min m 4)))), none, y6, y7]) ([]) (u) := by
                  intro g
                  induction g with
                  | zero =>
                    intro m hm
                    have hst : ¬ dgt (by0 B n (i + m)) := by
                      have h9 := stp_end (P := dgt) (B := B) (n := n) (i := i)
                      rw [← hend, ← hm, Nat.add_zero] at h9
                      unfold by0
                      split
                      · exact fun q => h9 ⟨by assumption, q⟩
                      · omega
                    have tokg : ∀ k : Nat, k = mkK (kdF B n i) → G xp l xe (rmd (1)) xs xm xa xb xme xc D cy xad xA (YX12_cut.2.1, YX12_cut.1.cls, YX12_cut.2.2.1, YX12_cut.2.2.2) (Pv (cutP B n st)) 261 ([some (.ref 31), some (.int (nI i)), some (.int (nI (B i))), some (.int (nI m)), some (.int (nI (numF 10 48 B i (min m 4)))), none, y6, y7]) ([.int (nI k), .ref 31]) (u) := by
                      intro k hk
                      refine g_ild1 eX12_cut_261 ?_
                      refine g_ild4 eX12_cut_262 ?_
                      refine g_lconst (v := 0) rfl eX12_cut_264 ?_
                      refine g_callVv (ci := 11) (w_token u c hcc (by omega) (nI k) (nI i) (nI (numF 10 48 B i (min m 4))) 0) rfl (Nat.le_of_ble_eq_true rfl) (Nat.le_of_ble_eq_true rfl) rfl cv_X12_203 eX12_cut_265 ⟨Nat.le_of_ble_eq_true rfl, Nat.le_of_ble_eq_true rfl⟩ rfl rfl (Nat.le_of_ble_eq_true rfl) (fun w h => ?_)
                      subst h
                      refine g_ild1 eX12_cut_268 ?_
                      refine g_ild3 eX12_cut_269 ?_
                      refine g_iadd eX12_cut_270 ?_
                      rw [nI_add, show i + m = endT B n i by omega]
                      refine g_ist1 rfl (Nat.le_of_ble_eq_true rfl) eX12_cut_271 ?_
                      refine g_goto eX12_cut_272 ?_
                      refine g_goto eX12_cut_289 ?_
                      refine next k _ 0 _ _ _ _ _ hk (fun q => ?_) (fun q => ?_)
                      · unfold kdF at q
                        rw [if_neg hb3, if_pos hb4] at q
                        have h4 : ¬ 4 < endT B n i - i := fun z => by rw [if_pos z] at q; omega
                        unfold vlF
                        rw [if_neg hb3, if_pos hb4, show min m 4 = endT B n i - i by omega]
                      · unfold kdF at q
                        rw [if_neg hb3, if_pos hb4] at q
                        split at q <;> omega
                    refine g_ald0 eX12_cut_208 ?_
                    refine g_ild1 eX12_cut_209 ?_
                    refine g_ild3 eX12_cut_210 ?_
                    refine g_iadd eX12_cut_211 ?_
                    rw [nI_add]
                    refine g_callVi (ci := 11) (w_byteAt u (hTu u hF) (i + m) (by omega)) rfl (Nat.le_of_ble_eq_true rfl) (Nat.le_of_ble_eq_true rfl) rfl cv_X12_199 eX12_cut_212 ⟨Nat.le_of_ble_eq_true rfl, Nat.le_of_ble_eq_true rfl⟩ rfl rfl (Nat.le_of_ble_eq_true rfl) (fun r u h => ?_)
                    obtain ⟨rfl, rfl⟩ := h
                    refine g_callSi (w_isDigit u _ (by0_lt (hTu u hF) _)) cs_X12_211 eX12_cut_215 ⟨Nat.le_of_ble_eq_true rfl, Nat.le_of_ble_eq_true rfl⟩ rfl rfl (Nat.le_of_ble_eq_true rfl) (fun r u h => ?_)
                    obtain ⟨rfl, rfl⟩ := h
                    refine g_if_eq eX12_cut_218 (fun hb5 => ?_) (fun hb5 => ?_)
                    · refine g_ald0 eX12_cut_250 ?_
                      refine g_ild3 eX12_cut_251 ?_
                      refine g_iconst (v := 4) (by decide) eX12_cut_252 ?_
                      refine g_icmp_le eX12_cut_253 (fun hb6 => ?_) (fun hb6 => ?_)
                      · rw [show (4 : Int32) = nI 4 from rfl, nI_leI (by omega) (by omega)] at hb6
                        refine g_iconst (v := 2) (by decide) eX12_cut_260 ?_
                        exact tokg 2 (by unfold kdF; rw [if_neg hb3, if_pos hb4, if_neg (by omega)]; rfl)
                      · rw [show (4 : Int32) = nI 4 from rfl, nI_leI (by omega) (by omega)] at hb6
                        refine g_iconst (v := 3) (by decide) eX12_cut_256 ?_
                        refine g_goto eX12_cut_257 ?_
                        exact tokg 3 (by unfold kdF; rw [if_neg hb3, if_pos hb4, if_pos (by omega)]; rfl)
                    · rw [b2_ne0] at hb5
                      exact absurd hb5 hst
                  | succ g ihg =>
                    intro m hm
                    have hst := stp_in (P := dgt) (B := B) (n := n) (i := i) (j := i + m) (by omega) (by rw [← hend]; omega)
                    have hb0 : by0 B n (i + m) = B (i + m) := by unfold by0; rw [if_pos hst.1]
                    refine g_ald0 eX12_cut_208 ?_
                    refine g_ild1 eX12_cut_209 ?_
                    refine g_ild3 eX12_cut_210 ?_
                    refine g_iadd eX12_cut_211 ?_
                    rw [nI_add]
                    refine g_callVi (ci := 11) (w_byteAt u (hTu u hF) (i + m) (by omega)) rfl (Nat.le_of_ble_eq_true rfl) (Nat.le_of_ble_eq_true rfl) rfl cv_X12_199 eX12_cut_212 ⟨Nat.le_of_ble_eq_true rfl, Nat.le_of_ble_eq_true rfl⟩ rfl rfl (Nat.le_of_ble_eq_true rfl) (fun r u h => ?_)
                    obtain ⟨rfl, rfl⟩ := h
                    refine g_callSi (w_isDigit u _ (by0_lt (hTu u hF) _)) cs_X12_211 eX12_cut_215 ⟨Nat.le_of_ble_eq_true rfl, Nat.le_of_ble_eq_true rfl⟩ rfl rfl (Nat.le_of_ble_eq_true rfl) (fun r u h => ?_)
                    obtain ⟨rfl, rfl⟩ := h
                    refine g_if_eq eX12_cut_218 (fun hb5 => ?_) (fun hb5 => ?_)
                    · rw [b2_eq0, hb0] at hb5
                      exact absurd hst.2 hb5
                    · have h9 := ihg (m + 1) (by omega)
                      rw [nFm] at h9
                      refine g_ild3 eX12_cut_221 ?_
                      refine g_iconst (v := 4) (by decide) eX12_cut_222 ?_
                      refine g_icmp_ge eX12_cut_223 (fun hb6 => ?_) (fun hb6 => ?_)
                      · rw [show (4 : Int32) = nI 4 from rfl, nI_leI (by omega) (by omega)] at hb6
                        rw [if_neg (by omega)] at h9
                        refine g_inc3 rfl (Nat.le_of_ble_eq_true rfl) rfl eX12_cut_244 ?_
                        refine g_goto eX12_cut_247 ?_
                        rw [inc1]
                        exact h9
                      · rw [show (4 : Int32) = nI 4 from rfl, nI_leI (by omega) (by omega)] at hb6
                        rw [if_pos (by omega)] at h9
                        refine g_bipush (v := 10) (by decide) eX12_cut_226 ?_
                        refine g_ild4 eX12_cut_228 ?_
                        refine g_imul eX12_cut_230 ?_
                        refine g_ald0 eX12_cut_231 ?_
                        refine g_ild1 eX12_cut_232 ?_
                        refine g_ild3 eX12_cut_233 ?_
                        refine g_iadd eX12_cut_234 ?_
                        rw [nI_add]
                        refine g_callVi (ci := 11) (w_byteAt u (hTu u hF) (i + m) (by omega)) rfl (Nat.le_of_ble_eq_true rfl) (Nat.le_of_ble_eq_true rfl) rfl cv_X12_199 eX12_cut_235 ⟨Nat.le_of_ble_eq_true rfl, Nat.le_of_ble_eq_true rfl⟩ rfl rfl (Nat.le_of_ble_eq_true rfl) (fun r u h => ?_)
                        obtain ⟨rfl, rfl⟩ := h
                        rw [hb0]
                        refine g_iadd eX12_cut_238 ?_
                        refine g_bipush (v := 48) (by decide) eX12_cut_239 ?_
                        refine g_isub eX12_cut_241 ?_
                        refine g_ist4 rfl (Nat.le_of_ble_eq_true rfl) eX12_cut_242 ?_
                        refine g_inc3 rfl (Nat.le_of_ble_eq_true rfl) rfl eX12_cut_244 ?_
                        refine g_goto eX12_cut_247 ?_
                        rw [show (10 : Int32) = nI 10 from rfl, show (48 : Int32) = nI 48 from rfl, show nI 10 * nI (numF 10 48 B i (min m 4)) = nI (10 * numF 10 48 B i (min m 4)) from (Int32.ofNat_mul _ _).symm, nI_add, nI_sub (by omega), inc1, show min m 4 = m by omega, show 10 * numF 10 48 B i m + B (i + m) - 48 = numF 10 48 B i m * 10 + (B (i + m) - 48) by have := hst.2.1; omega]
                        exact h9
                refine g_iconst (v := 0) (by decide) eX12_cut_203 ?_
                refine g_ist3 rfl (Nat.le_of_ble_eq_true rfl) eX12_cut_204 ?_
                refine g_iconst (v := 0) (by decide) eX12_cut_205 ?_
                refine g_ist4 rfl (Nat.le_of_ble_eq_true rfl) eX12_cut_206 ?_
                exact inner (endT B n i - i) 0 (by omega)
            · rw [b2_ne0] at hb3
              have hend := endT_ltr hin hb3
              have hall : ∀ x, x < endT B n i - i → ltr (B (i + x)) := fun x hx => (stp_in (P := ltr) (B := B) (n := n) (i := i) (j := i + x) (by omega) (by rw [← hend]; omega)).2
              have inner : ∀ (g m : Nat), i + m + g = endT B n i → G xp l xe (rmd (1)) xs xm xa xb xme xc D cy xad xA (YX12_cut.2.1, YX12_cut.1.cls, YX12_cut.2.2.1, YX12_cut.2.2.2) (Pv (cutP B n st)) 85 ([some (.ref 31), some (.int (nI i)), some (.int (nI (B i))), some (.int (nI m)), some (.long (lN (numF 27 96 B i (min m 8)))), none, y6, y7]) ([]) (u) := by
                intro g
                induction g with
                | zero =>
                  intro m hm
                  have em : m = endT B n i - i := by omega
                  have hst : ¬ ltr (by0 B n (i + m)) := by
                    have h9 := stp_end (P := ltr) (B := B) (n := n) (i := i)
                    rw [← hend, ← hm, Nat.add_zero] at h9
                    unfold by0
                    split
                    · exact fun q => h9 ⟨by assumption, q⟩
                    · omega
                  have tokg : ∀ (k : Nat) (y7 : Option Value), k = mkK (kdF B n i) → G xp l xe (rmd (1)) xs xm xa xb xme xc D cy xad xA (YX12_cut.2.1, YX12_cut.1.cls, YX12_cut.2.2.1, YX12_cut.2.2.2) (Pv (cutP B n st)) 179 ([some (.ref 31), some (.int (nI i)), some (.int (nI (B i))), some (.int (nI m)), some (.long (lN (numF 27 96 B i (min m 8)))), none, some (.int (nI k)), y7]) ([]) (u) := by
                    intro k y7 hk
                    refine g_ald0 eX12_cut_179 ?_
                    refine g_ild6 eX12_cut_180 ?_
                    refine g_ild1 eX12_cut_182 ?_
                    refine g_iconst (v := 0) (by decide) eX12_cut_183 ?_
                    refine g_lld4 eX12_cut_184 ?_
                    refine g_callVv (ci := 11) (w_token u c hcc (by omega) (nI k) (nI i) 0 (lN (numF 27 96 B i (min m 8)))) rfl (Nat.le_of_ble_eq_true rfl) (Nat.le_of_ble_eq_true rfl) rfl cv_X12_203 eX12_cut_186 ⟨Nat.le_of_ble_eq_true rfl, Nat.le_of_ble_eq_true rfl⟩ rfl rfl (Nat.le_of_ble_eq_true rfl) (fun w h => ?_)
                    subst h
                    refine g_ild1 eX12_cut_189 ?_
                    refine g_ild3 eX12_cut_190 ?_
                    refine g_iadd eX12_cut_191 ?_
                    rw [nI_add, show i + m = endT B n i by omega]
                    refine g_ist1 rfl (Nat.le_of_ble_eq_true rfl) eX12_cut_192 ?_
                    refine g_goto eX12_cut_193 ?_
                    refine g_goto eX12_cut_289 ?_
                    refine next k 0 _ _ _ _ _ _ hk (fun q => ?_) (fun q => ?_)
                    · unfold kdF at q
                      rw [if_pos hb3] at q
                      have hw3 := wordK_ne (wdF B i (endT B n i - i))
                      split at q <;> omega
                    · unfold kdF at q
                      rw [if_pos hb3] at q
                      have h8 : ¬ 8 < endT B n i - i := fun z => by rw [if_pos z] at q; omega
                      rw [show min m 8 = endT B n i - i by omega]
                  have kloop : m ≤ 7 → ∀ (g a : Nat) , a + g = 6 → G xp l xe (rmd (1)) xs xm xa xb xme xc D cy xad xA (YX12_cut.2.1, YX12_cut.1.cls, YX12_cut.2.2.1, YX12_cut.2.2.2) (Pv (cutP B n st)) 146 ([some (.ref 31), some (.int (nI i)), some (.int (nI (B i))), some (.int (nI m)), some (.long (lN (numF 27 96 B i (min m 8)))), none, some (.int (nI (kwF (wdF B i m) a))), some (.int (nI a))]) ([]) (u) := by
                    intro hm7 g
                    have hnl : numF 27 96 B i (min m 8) < 9223372036854775807 := by
                      refine Nat.lt_of_lt_of_le (numF_lt (by decide) _ (fun j hj => ?_)) ?_
                      · have := hall j (by omega)
                        omega
                      · calc 27 ^ (min m 8) ≤ 27 ^ 8 := Nat.pow_le_pow_right (by decide) (by omega)
                          _ ≤ 9223372036854775807 := by decide
                    induction g with
                    | zero =>
                      intro a ha
                      refine g_ild7 eX12_cut_146 ?_
                      refine g_bipush (v := 6) (by decide) eX12_cut_148 ?_
                      refine g_icmp_ge eX12_cut_150 (fun hb7 => ?_) (fun hb7 => ?_)
                      · have ea : a = 6 := by omega
                        refine tokg _ _ ?_
                        rw [ea, kwF_6]
                        unfold kdF
                        rw [if_pos hb3, if_neg (by omega), em]
                      · exact absurd (nI_le (a := 6) (b := a) (by omega) (by omega)) hb7
                    | succ g ihk =>
                      intro a ha
                      have hkl := kwF_lt (wdF B i m) a
                      have hke := ky_eq (B := B) (i := i) (m := m) (k := a) (by omega) (fun x hx => hall x (by omega))
                      have h9 := ihk (a + 1) (by omega)
                      rw [kwF] at h9
                      refine g_ild7 eX12_cut_146 ?_
                      refine g_bipush (v := 6) (by decide) eX12_cut_148 ?_
                      refine g_icmp_ge eX12_cut_150 (fun hb7 => ?_) (fun hb7 => ?_)
                      · exact absurd hb7 (nI_ge (a := a) (b := 6) (by omega) (by omega))
                      · refine g_ald0 eX12_cut_153 ?_
                        refine g_getR (ci := 11) (j := 8) rfl (Nat.le_of_ble_eq_true rfl) (Nat.le_of_ble_eq_true rfl) (Nat.le_of_ble_eq_true rfl) rfl rfl fl_X12_30 eX12_cut_154 ?_
                        refine g_ild7 eX12_cut_157 ?_
                        refine g_lald rfl (Nat.le_of_ble_eq_true rfl) (vp_in_nI (n := a) (N := 6) (by omega) (by decide)) eX12_cut_159 ?_
                        rw [nI_clamp (by omega), show u.2 38 a = lN (kyN a) by rw [hF.2.2 38 (by decide)]; exact hK a (by omega)]
                        refine g_lld4 eX12_cut_160 ?_
                        refine g_lcmp eX12_cut_162 ?_
                        have hkn := kyN_lt a (by omega)
                        refine g_if_ne eX12_cut_163 (fun hb8 => ?_) (fun hb8 => ?_)
                        · rw [lg_cmp_eq, pk_lEQ (by omega) (by omega)] at hb8
                          rw [if_neg (fun q => hb8 (by rw [show min m 8 = m by omega]; exact (hke.mpr q).symm))] at h9
                          refine g_inc7 rfl (Nat.le_of_ble_eq_true rfl) rfl eX12_cut_173 ?_
                          refine g_goto eX12_cut_176 ?_
                          rw [inc1]
                          exact h9
                        · rw [lg_cmp_eq, pk_lEQ (by omega) (by omega)] at hb8
                          rw [show min m 8 = m by omega] at hb8 h9 ⊢
                          rw [if_pos (hke.mp hb8.symm)] at h9
                          refine g_bipush (v := 20) (by decide) eX12_cut_166 ?_
                          refine g_ild7 eX12_cut_168 ?_
                          refine g_iadd eX12_cut_170 ?_
                          refine g_ist6 rfl (Nat.le_of_ble_eq_true rfl) eX12_cut_171 ?_
                          refine g_inc7 rfl (Nat.le_of_ble_eq_true rfl) rfl eX12_cut_173 ?_
                          refine g_goto eX12_cut_176 ?_
                          rw [show (20 : Int32) + nI a = nI (20 + a) from nI_add 20 a, inc1]
                          exact h9
                  refine g_ald0 eX12_cut_85 ?_
                  refine g_ild1 eX12_cut_86 ?_
                  refine g_ild3 eX12_cut_87 ?_
                  refine g_iadd eX12_cut_88 ?_
                  rw [nI_add]
                  refine g_callVi (ci := 11) (w_byteAt u (hTu u hF) (i + m) (by omega)) rfl (Nat.le_of_ble_eq_true rfl) (Nat.le_of_ble_eq_true rfl) rfl cv_X12_199 eX12_cut_89 ⟨Nat.le_of_ble_eq_true rfl, Nat.le_of_ble_eq_true rfl⟩ rfl rfl (Nat.le_of_ble_eq_true rfl) (fun r u h => ?_)
                  obtain ⟨rfl, rfl⟩ := h
                  refine g_callSi (w_isLetter u _ (by0_lt (hTu u hF) _)) cs_X12_207 eX12_cut_92 ⟨Nat.le_of_ble_eq_true rfl, Nat.le_of_ble_eq_true rfl⟩ rfl rfl (Nat.le_of_ble_eq_true rfl) (fun r u h => ?_)
                  obtain ⟨rfl, rfl⟩ := h
                  refine g_if_eq eX12_cut_95 (fun hb5 => ?_) (fun hb5 => ?_)
                  · refine g_ild3 eX12_cut_124 ?_
                    refine g_bipush (v := 8) (by decide) eX12_cut_125 ?_
                    refine g_icmp_le eX12_cut_127 (fun hb6 => ?_) (fun hb6 => ?_)
                    · rw [show (8 : Int32) = nI 8 from rfl, nI_leI (by omega) (by omega)] at hb6
                      refine g_iconst (v := 1) (by decide) eX12_cut_134 ?_
                      refine g_ist6 rfl (Nat.le_of_ble_eq_true rfl) eX12_cut_135 ?_
                      refine g_ild3 eX12_cut_137 ?_
                      refine g_bipush (v := 7) (by decide) eX12_cut_138 ?_
                      refine g_icmp_gt eX12_cut_140 (fun hb7 => ?_) (fun hb7 => ?_)
                      · rw [show (7 : Int32) = nI 7 from rfl, nI_ltI (by omega) (by omega)] at hb7
                        refine tokg 1 _ ?_
                        unfold kdF
                        rw [if_pos hb3, if_neg (by omega), wordK_long (by rw [show (wdF B i (endT B n i - i)).length = endT B n i - i by unfold wdF; simp]; omega)]
                        rfl
                      · rw [show (7 : Int32) = nI 7 from rfl, nI_ltI (by omega) (by omega)] at hb7
                        refine g_iconst (v := 0) (by decide) eX12_cut_143 ?_
                        refine g_ist7 rfl (Nat.le_of_ble_eq_true rfl) eX12_cut_144 ?_
                        exact kloop (by omega) 6 0 rfl
                    · rw [show (8 : Int32) = nI 8 from rfl, nI_leI (by omega) (by omega)] at hb6
                      refine g_iconst (v := 3) (by decide) eX12_cut_130 ?_
                      refine g_goto eX12_cut_131 ?_
                      refine g_ist6 rfl (Nat.le_of_ble_eq_true rfl) eX12_cut_135 ?_
                      refine g_ild3 eX12_cut_137 ?_
                      refine g_bipush (v := 7) (by decide) eX12_cut_138 ?_
                      refine g_icmp_gt eX12_cut_140 (fun hb7 => ?_) (fun hb7 => ?_)
                      · exact tokg 3 _ (by unfold kdF; rw [if_pos hb3, if_pos (by omega)]; rfl)
                      · exact absurd (nI_lt (a := 7) (b := m) (by omega) (by omega)) hb7
                  · rw [b2_ne0] at hb5
                    exact absurd hb5 hst
                | succ g ihg =>
                  intro m hm
                  have hst := stp_in (P := ltr) (B := B) (n := n) (i := i) (j := i + m) (by omega) (by rw [← hend]; omega)
                  have hb0 : by0 B n (i + m) = B (i + m) := by unfold by0; rw [if_pos hst.1]
                  refine g_ald0 eX12_cut_85 ?_
                  refine g_ild1 eX12_cut_86 ?_
                  refine g_ild3 eX12_cut_87 ?_
                  refine g_iadd eX12_cut_88 ?_
                  rw [nI_add]
                  refine g_callVi (ci := 11) (w_byteAt u (hTu u hF) (i + m) (by omega)) rfl (Nat.le_of_ble_eq_true rfl) (Nat.le_of_ble_eq_true rfl) rfl cv_X12_199 eX12_cut_89 ⟨Nat.le_of_ble_eq_true rfl, Nat.le_of_ble_eq_true rfl⟩ rfl rfl (Nat.le_of_ble_eq_true rfl) (fun r u h => ?_)
                  obtain ⟨rfl, rfl⟩ := h
                  refine g_callSi (w_isLetter u _ (by0_lt (hTu u hF) _)) cs_X12_207 eX12_cut_92 ⟨Nat.le_of_ble_eq_true rfl, Nat.le_of_ble_eq_true rfl⟩ rfl rfl (Nat.le_of_ble_eq_true rfl) (fun r u h => ?_)
                  obtain ⟨rfl, rfl⟩ := h
                  refine g_if_eq eX12_cut_95 (fun hb5 => ?_) (fun hb5 => ?_)
                  · rw [b2_eq0, hb0] at hb5
                    exact absurd hst.2 hb5
                  · have h9 := ihg (m + 1) (by omega)
                    rw [nFm] at h9
                    refine g_ild3 eX12_cut_98 ?_
                    refine g_bipush (v := 8) (by decide) eX12_cut_99 ?_
                    refine g_icmp_ge eX12_cut_101 (fun hb6 => ?_) (fun hb6 => ?_)
                    · rw [show (8 : Int32) = nI 8 from rfl, nI_leI (by omega) (by omega)] at hb6
                      rw [if_neg (by omega)] at h9
                      refine g_inc3 rfl (Nat.le_of_ble_eq_true rfl) rfl eX12_cut_118 ?_
                      refine g_goto eX12_cut_121 ?_
                      rw [inc1]
                      exact h9
                    · rw [show (8 : Int32) = nI 8 from rfl, nI_leI (by omega) (by omega)] at hb6
                      rw [if_pos (by omega)] at h9
                      refine g_lld4 eX12_cut_104 ?_
                      refine g_ald0 eX12_cut_106 ?_
                      refine g_ild1 eX12_cut_107 ?_
                      refine g_ild3 eX12_cut_108 ?_
                      refine g_iadd eX12_cut_109 ?_
                      rw [nI_add]
                      refine g_callVi (ci := 11) (w_byteAt u (hTu u hF) (i + m) (by omega)) rfl (Nat.le_of_ble_eq_true rfl) (Nat.le_of_ble_eq_true rfl) rfl cv_X12_199 eX12_cut_110 ⟨Nat.le_of_ble_eq_true rfl, Nat.le_of_ble_eq_true rfl⟩ rfl rfl (Nat.le_of_ble_eq_true rfl) (fun r u h => ?_)
                      obtain ⟨rfl, rfl⟩ := h
                      rw [hb0]
                      refine g_callSl (w_more u _ (B (i + m)) hst.2) cs_X12_192 eX12_cut_113 ⟨Nat.le_of_ble_eq_true rfl, Nat.le_of_ble_eq_true rfl⟩ rfl rfl (Nat.le_of_ble_eq_true rfl) (fun r u h => ?_)
                      obtain ⟨rfl, rfl⟩ := h
                      refine g_lst4 rfl (Nat.le_of_ble_eq_true rfl) eX12_cut_116 ?_
                      refine g_inc3 rfl (Nat.le_of_ble_eq_true rfl) rfl eX12_cut_118 ?_
                      refine g_goto eX12_cut_121 ?_
                      rw [inc1, show min m 8 = m by omega]
                      exact h9
              refine g_iconst (v := 0) (by decide) eX12_cut_80 ?_
              refine g_ist3 rfl (Nat.le_of_ble_eq_true rfl) eX12_cut_81 ?_
              refine g_lconst (v := 0) rfl eX12_cut_82 ?_
              refine g_lst4 rfl (Nat.le_of_ble_eq_true rfl) eX12_cut_83 ?_
              exact inner (endT B n i - i) 0 (by omega)
          refine g_ild2 eX12_cut_43 ?_
          refine g_bipush (v := 9) (by decide) eX12_cut_44 ?_
          refine g_icmp_eq eX12_cut_46 (fun h9 => ?_) (fun h9 => ?_)
          · exact blank ((nI_eq (a := B i) (b := 9) (by omega) (by omega)).mp h9 ▸ Or.inl rfl)
          · have n9 : ¬ B i = 9 := fun q => h9 (by rw [q]; rfl)
            refine g_ild2 eX12_cut_49 ?_
            refine g_bipush (v := 10) (by decide) eX12_cut_50 ?_
            refine g_icmp_eq eX12_cut_52 (fun h10 => ?_) (fun h10 => ?_)
            · exact blank (Or.inr (Or.inl ((nI_eq (a := B i) (b := 10) (by omega) (by omega)).mp h10)))
            · have n10 : ¬ B i = 10 := fun q => h10 (by rw [q]; rfl)
              refine g_ild2 eX12_cut_55 ?_
              refine g_bipush (v := 13) (by decide) eX12_cut_56 ?_
              refine g_icmp_eq eX12_cut_58 (fun h13 => ?_) (fun h13 => ?_)
              · exact blank (Or.inr (Or.inr (Or.inl ((nI_eq (a := B i) (b := 13) (by omega) (by omega)).mp h13))))
              · have n13 : ¬ B i = 13 := fun q => h13 (by rw [q]; rfl)
                refine g_ild2 eX12_cut_61 ?_
                refine g_bipush (v := 32) (by decide) eX12_cut_62 ?_
                refine g_icmp_ne eX12_cut_64 (fun h32 => ?_) (fun h32 => ?_)
                · have n32 : ¬ B i = 32 := fun q => h32 (by rw [q]; rfl)
                  exact other (by omega)
                · exact blank (Or.inr (Or.inr (Or.inr ((nI_eq (a := B i) (b := 32) (by omega) (by omega)).mp h32))))
        · exact absurd (nI_lt (by omega) (by omega)) hb2
  refine g_ald0 eX12_cut_0 ?_
  refine g_iconst (v := 0) (by decide) eX12_cut_1 ?_
  refine g_putI (ci := 11) (j := 9) rfl rfl (Nat.le_of_ble_eq_true rfl) (Nat.le_of_ble_eq_true rfl) (Nat.le_of_ble_eq_true rfl) rfl fl_X12_196 eX12_cut_2 ?_
  refine g_iconst (v := 0) (by decide) eX12_cut_5 ?_
  refine g_ist1 rfl (Nat.le_of_ble_eq_true rfl) eX12_cut_6 ?_
  exact loop n 0 0 _ _ _ _ _ _ (by omega) (Nat.zero_le _) (by omega) ⟨fun a x _ _ _ => sI_row x, fun j hj => by rw [sI_1, if_neg (by omega)], fun _ _ => rfl⟩ (by rw [sI_1, if_pos ⟨rfl, rfl⟩]; rfl) (fun k hk => absurd hk (Nat.not_lt_zero _)) (fun k hk => absurd hk (Nat.not_lt_zero _)) rfl
end CUTN
