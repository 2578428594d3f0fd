/-! THE MODEL LAYS: asks -/
/-- a code that stands for something: an open number below bs, a work done, a slot given -/
def vk (bs : Nat) (n : Nat) (c : Int) : Prop := -(bs : Int) ≤ c ∧ (c < n ∨ (40 ≤ c ∧ c < 46))
theorem vk_mono {bs n n2 : Nat} {c : Int} (h : vk bs n c) (hl : n ≤ n2) : vk bs n2 c := ⟨h.1, by rcases h.2 with q | q; exact Or.inl (by omega); exact Or.inr q⟩
theorem vk_vcd {bs n : Nat} {c : Int} (h : vk bs n c) (hl : n ≤ 40) (hb : bs ≤ 13) : vcd c ∧ -(bs : Int) ≤ c := by
  obtain ⟨h1, h2⟩ := h
  exact ⟨⟨by omega, by omega⟩, h1⟩
/-- the works only grow, and the answer stands for something -/
def gw (bs : Nat) (w : List WK) (X : List WK × Int) : Prop := w.length ≤ X.1.length ∧ vk bs X.1.length X.2
theorem gw_self {bs : Nat} {w : List WK} {c : Int} (h : vk bs w.length c) : gw bs w (w, c) := ⟨Nat.le_refl _, h⟩
theorem gw_trans {bs : Nat} {w : List WK} {X Y : List WK × Int} (h : gw bs w X) (h2 : gw bs X.1 Y) : gw bs w Y := ⟨Nat.le_trans h.1 h2.1, h2.2⟩
theorem vk_open {bs : Nat} (h2 : 2 ≤ bs) (n : Nat) (z : Int) : vk bs n (-1 - z % (bs : Int)) := by
  have := em_rng z h2
  generalize z % (bs : Int) = y at this
  exact ⟨by omega, by omega⟩
theorem adP_gw {bs : Nat} (w : List WK) (k : Nat) (a b : Int) : gw bs w (adP w k a b) := by
  have e : (adP w k a b).1.length = w.length + 1 := by unfold adP; simp
  have e2 : (adP w k a b).2 = (w.length : Int) := rfl
  exact ⟨by omega, by rw [e2]; omega, by rw [e2]; omega⟩
theorem oaP_gw {bs : Nat} (h2 : 2 ≤ bs) {w : List WK} {a : Int} (k : Int) (ha : vk bs w.length a) : gw bs w (oaP bs w a k) := by
  unfold oaP
  split
  · exact gw_self (vk_open h2 _ _)
  · split
    · exact gw_self ha
    · exact adP_gw _ _ _ _
theorem plP_gw {bs : Nat} (h2 : 2 ≤ bs) {w : List WK} {a b : Int} (ha : vk bs w.length a) (hb : vk bs w.length b) : gw bs w (plP bs w a b) := by
  unfold plP
  split
  · exact oaP_gw h2 _ hb
  · split
    · exact oaP_gw h2 _ ha
    · exact adP_gw _ _ _ _
theorem miP_gw {bs : Nat} (h2 : 2 ≤ bs) {w : List WK} {a b : Int} (ha : vk bs w.length a) : gw bs w (miP bs w a b) := by
  unfold miP
  split
  · exact oaP_gw h2 _ ha
  · split
    · have h := adP_gw (bs := bs) w 5 b (-1)
      exact gw_trans h (oaP_gw h2 _ h.2)
    · exact adP_gw _ _ _ _
theorem omP_gw {bs : Nat} (h2 : 2 ≤ bs) {w : List WK} {a : Int} (k : Int) (ha : vk bs w.length a) : gw bs w (omP bs w a k) := by
  unfold omP
  split
  · exact gw_self (vk_open h2 _ _)
  · split
    · refine gw_self ?_
      split
      · exact ⟨by omega, by omega⟩
      · exact ha
    · exact adP_gw _ _ _ _
theorem muP_gw {bs : Nat} (h2 : 2 ≤ bs) {w : List WK} {a b : Int} (ha : vk bs w.length a) (hb : vk bs w.length b) : gw bs w (muP bs w a b) := by
  unfold muP
  split
  · exact omP_gw h2 _ hb
  · split
    · exact omP_gw h2 _ ha
    · exact adP_gw _ _ _ _
theorem chP_gw {bs : Nat} (h2 : 2 ≤ bs) {w : List WK} {c a b : Int} (hc : vk bs w.length c) (ha : vk bs w.length a) (hb : vk bs w.length b) : gw bs w (chP bs w c a b) := by
  have h1 := miP_gw (b := b) h2 ha
  have h3 := muP_gw h2 (vk_mono hc h1.1) h1.2
  exact gw_trans (gw_trans h1 h3) (plP_gw h2 h3.2 (vk_mono hb (Nat.le_trans h1.1 h3.1)))
theorem asL_gw {bs : Nat} (h2 : 2 ≤ bs) {V : Nat → Nat} {cnt : Nat} {tbl x : Int} : ∀ (m : Nat) {w : List WK} {h : Int}, vk bs w.length x → vk bs w.length h → gw bs w (asL bs V cnt tbl x m w h)
  | 0, w, h, _, hh => gw_self hh
  | m + 1, w, h, hx, hh => by
    rw [asL]
    have h1 := muP_gw h2 hh hx
    have h3 := plP_gw (b := -1 - coP bs V cnt tbl m % (bs : Int)) h2 h1.2 (vk_open h2 _ _)
    have h4 := gw_trans h1 h3
    exact gw_trans h4 (asL_gw h2 m (vk_mono hx h4.1) h4.2)
theorem asP_gw {bs : Nat} (h2 : 2 ≤ bs) {V : Nat → Nat} {cnt : Nat} {tbl x : Int} {w : List WK} (hx : vk bs w.length x) : gw bs w (asP bs V cnt w tbl x) := asL_gw h2 _ hx (vk_open h2 _ _)
theorem coP_rng {t : Nat} (ht : 2 ≤ t) {V : Nat → Nat} {cnt : Nat} {tbl : Int} (j : Nat) : 0 ≤ coP t V cnt tbl j ∧ coP t V cnt tbl j < t := by
  unfold coP
  split
  · exact em_rng _ ht
  · exact csP_rng ht _ _ _
section WASKS
variable {l : Launch} {D : va_G} {cy : Nat → ClassId} {bs pg : Nat}
theorem ask30 {y : Int64} {z : Int} (h2 : 2 ≤ bs) (h13 : bs ≤ 13) (hy : y.toInt = z) (hz : 0 ≤ z ∧ z < bs) : (-30 - y.toInt32).toInt = toldF (-1 - z % (bs : Int)) := by
  have e : y.toInt32.toInt = z := by rw [l2i (by omega) (by omega), hy]
  refine rest_open h2 ?_
  rw [sub30 (by omega), e, Int.emod_eq_of_lt hz.1 hz.2]
theorem w_asks (st : St) (hL : lsM bs pg st) {w : List WK} (hw : mwOK pg st w) (hf : st.1 31 50 = 0) {k : Nat} (hk : k < 4) {V : Nat → Nat} {cnt : Nat} {tbl : Int} (hfac : ∀ j, j < bs → (st.2 51 (13 * k + j)).toInt = coP bs V cnt tbl j) (x : Int32) (c : Int) (hx : x.toInt = toldF c) (hc : vk bs w.length c) : Mi l D cy 2 YX12_asks [.ref 31, .int (nI k), .int x] st (ldP pg st (asP bs V cnt w tbl c)) := by
  have hbs := hL.1
  have h2 := hbs.2.1
  have h13 := hbs.2.2
  refine M.ofG [some (.ref 31), some (.int (nI k)), some (.int x), none, none, none] (by decide) (Nat.le_of_ble_eq_true rfl) rfl ?_
  intro xp xe xs xm xa xb xme xc xad xA
  have out : ∀ (h : Int32) (u : St) (b5 : Option Value) (b4 : Int32), ldP pg st (asP bs V cnt w tbl c) h u → G xp l xe (rmd (2)) xs xm xa xb xme xc D cy xad xA (YX12_asks.2.1, YX12_asks.1.cls, YX12_asks.2.2.1, YX12_asks.2.2.2) (Pi (ldP pg st (asP bs V cnt w tbl c))) 85 ([some (.ref 31), some (.int (nI k)), some (.int x), some (.int h), some (.int b4), b5]) ([]) (u) := by
    intro h u b5 b4 hd
    refine g_ild3 eX12_asks_85 ?_
    exact g_iret rfl eX12_asks_86 ⟨_, rfl, hd⟩
  have loop : ∀ (m : Nat) (b4 h : Int32) (u : St) (b5 : Option Value) (w2 : List WK) (h2' : Int), m < bs → b4 = nI m - 1 → lyFr pg st u → gw bs w (w2, h2') → asL bs V cnt tbl c m w2 h2' = asP bs V cnt w tbl c → ldP pg st (w2, h2') h u → G xp l xe (rmd (2)) xs xm xa xb xme xc D cy xad xA (YX12_asks.2.1, YX12_asks.1.cls, YX12_asks.2.2.1, YX12_asks.2.2.2) (Pi (ldP pg st (asP bs V cnt w tbl c))) 29 ([some (.ref 31), some (.int (nI k)), some (.int x), some (.int h), some (.int b4), b5]) ([]) (u) := by
    intro m
    induction m with
    | zero =>
      intro b4 h u b5 w2 h2' hm hb4 hF hg ha hl
      subst hb4
      refine g_ild4 eX12_asks_29 ?_
      refine g_if_lt eX12_asks_31 (fun hb => ?_) (fun hb => ?_)
      · refine out _ _ _ _ ?_
        rw [← ha]
        exact hl
      · exact absurd hb (by decide)
    | succ m ih =>
      intro b4 h u b5 w2 h2' hm hb4 hF hg ha hl
      have hg1 : w.length ≤ w2.length := hg.1
      have hg2 : vk bs w2.length h2' := hg.2
      have hc2 := vk_mono hc hg1
      have e4 : nI (m + 1) - 1 = nI m := nI_pred m
      rw [e4] at hb4
      subst hb4
      have gA := asL_gw (bs := bs) h2 (V := V) (cnt := cnt) (tbl := tbl) (x := c) (m + 1) hc2 hg2
      rw [ha] at gA
      have full : ∀ (v : Int32) (u : St) (b5 : Option Value) (b4 : Int32), lyFr pg st u → 40 < (asP bs V cnt w tbl c).1.length → u.1 31 50 = 1 → u.1 42 pg = nI 40 → G xp l xe (rmd (2)) xs xm xa xb xme xc D cy xad xA (YX12_asks.2.1, YX12_asks.1.cls, YX12_asks.2.2.1, YX12_asks.2.2.2) (Pi (ldP pg st (asP bs V cnt w tbl c))) 29 ([some (.ref 31), some (.int (nI k)), some (.int x), some (.int v), some (.int b4), b5]) ([]) (u) := by
        intro v u b5 b4 hF h4 hu1 hu2
        refine g_ild4 eX12_asks_29 ?_
        refine g_if_lt eX12_asks_31 (fun hb => ?_) (fun hb => ?_)
        · exact out _ _ _ _ ⟨hF, fun q => by omega, fun _ => ⟨hu1, hu2⟩⟩
        · refine g_ald0 eX12_asks_34 ?_
          refine g_getI (ci := 11) (j := 50) rfl (Nat.le_of_ble_eq_true rfl) (Nat.le_of_ble_eq_true rfl) (Nat.le_of_ble_eq_true rfl) rfl fl_X12_335 eX12_asks_35 ?_
          rw [hu1]
          refine g_if_ne eX12_asks_38 (fun hb2 => ?_) (fun hb2 => ?_)
          · exact out _ _ _ _ ⟨hF, fun q => by omega, fun _ => ⟨hu1, hu2⟩⟩
          · exact absurd hb2 (by decide)
      by_cases h40 : w2.length ≤ 40
      · refine g_ild4 eX12_asks_29 ?_
        refine g_if_lt eX12_asks_31 (fun hb => ?_) (fun hb => ?_)
        · exact absurd hb (by rw [fa_lt, nI_toInt (by omega)]; show ¬ ((m : Int) < 0); omega)
        · refine g_ald0 eX12_asks_34 ?_
          refine g_getI (ci := 11) (j := 50) rfl (Nat.le_of_ble_eq_true rfl) (Nat.le_of_ble_eq_true rfl) (Nat.le_of_ble_eq_true rfl) rfl fl_X12_335 eX12_asks_35 ?_
          obtain ⟨f1, f2, f3⟩ := hl.2.1 h40
          rw [f1]
          refine g_if_ne eX12_asks_38 (fun hb2 => ?_) (fun hb2 => ?_)
          · exact absurd rfl hb2
          · refine g_ald0 eX12_asks_41 ?_
            refine g_ild3 eX12_asks_42 ?_
            refine g_ild2 eX12_asks_43 ?_
            refine g_callVi (ci := 11) (w_times (w := w2) u (lsM_fr hL hF) f2 f1 h2' c h x f3 hx (vk_vcd hg2 h40 h13) (vk_vcd hc2 h40 h13)) rfl (Nat.le_of_ble_eq_true rfl) (Nat.le_of_ble_eq_true rfl) rfl cv_X12_362 eX12_asks_44 ⟨Nat.le_of_ble_eq_true rfl, Nat.le_of_ble_eq_true rfl⟩ rfl rfl (Nat.le_of_ble_eq_true rfl) (fun r u2 hr => ?_)
            have g1 := muP_gw h2 hg2 hc2
            rw [asL] at ha
            have g2 := plP_gw (b := -1 - coP bs V cnt tbl m % (bs : Int)) h2 g1.2 (vk_open h2 _ _)
            have g3 := gw_trans (gw_trans hg g1) g2
            have g4 := asL_gw (bs := bs) h2 (V := V) (cnt := cnt) (tbl := tbl) (x := c) m (vk_mono hc g3.1) g3.2
            rw [ha] at g4
            have hF2 := hF.trans hr.1
            refine g_ist5 rfl (Nat.le_of_ble_eq_true rfl) eX12_asks_47 ?_
            refine g_ald0 eX12_asks_49 ?_
            refine g_getI (ci := 11) (j := 50) rfl (Nat.le_of_ble_eq_true rfl) (Nat.le_of_ble_eq_true rfl) (Nat.le_of_ble_eq_true rfl) rfl fl_X12_335 eX12_asks_50 ?_
            by_cases h41 : (muP bs w2 h2' c).1.length ≤ 40
            · obtain ⟨i1, i2, i3⟩ := hr.2.1 h41
              rw [i1]
              refine g_if_ne eX12_asks_53 (fun hb3 => ?_) (fun hb3 => ?_)
              · exact absurd rfl hb3
              · refine g_ald0 eX12_asks_56 ?_
                refine g_ild5 eX12_asks_57 ?_
                refine g_bipush (v := (-30)) (by decide) eX12_asks_59 ?_
                refine g_ald0 eX12_asks_61 ?_
                refine g_getR (ci := 11) (j := 35) rfl (Nat.le_of_ble_eq_true rfl) (Nat.le_of_ble_eq_true rfl) (Nat.le_of_ble_eq_true rfl) rfl rfl fl_X12_73 eX12_asks_62 ?_
                refine g_bipush (v := 13) (by decide) eX12_asks_65 ?_
                refine g_ild1 eX12_asks_67 ?_
                refine g_imul eX12_asks_68 ?_
                rw [show (13 : Int32) = nI 13 from rfl, show nI 13 * nI k = nI (13 * k) from (Int32.ofNat_mul _ _).symm]
                refine g_ild4 eX12_asks_69 ?_
                refine g_iadd eX12_asks_71 ?_
                rw [nI_add]
                refine g_lald rfl (Nat.le_of_ble_eq_true rfl) (vp_in_nI (n := 13 * k + m) (N := 52) (by omega) (by decide)) eX12_asks_72 ?_
                rw [nI_clamp (by omega), show u2.2 = st.2 from hF2.2.2.1]
                refine g_l2i eX12_asks_73 ?_
                refine g_isub eX12_asks_74 ?_
                have e30 := ask30 h2 h13 (hfac m (by omega)) (coP_rng h2 m)
                generalize -30 - (st.2 51 (13 * k + m)).toInt32 = y at e30
                refine g_callVi (ci := 11) (w_plus u2 (lsM_fr hL hF2) i2 i1 (muP bs w2 h2' c).2 _ r y i3 e30 (vk_vcd g1.2 h41 h13).1 (vk_vcd (vk_open h2 0 _) (by omega) h13).1) rfl (Nat.le_of_ble_eq_true rfl) (Nat.le_of_ble_eq_true rfl) rfl cv_X12_364 eX12_asks_75 ⟨Nat.le_of_ble_eq_true rfl, Nat.le_of_ble_eq_true rfl⟩ rfl rfl (Nat.le_of_ble_eq_true rfl) (fun r3 u3 h3 => ?_)
                refine g_ist3 rfl (Nat.le_of_ble_eq_true rfl) eX12_asks_78 ?_
                refine g_inc4 rfl (Nat.le_of_ble_eq_true rfl) rfl eX12_asks_79 ?_
                refine g_goto eX12_asks_82 ?_
                have e9 : nI m + Int32.ofInt (-1) = nI m - 1 := by rw [show Int32.ofInt (-1) = -1 by decide +kernel]; exact (Int32.sub_eq_add_neg _ _).symm
                rw [e9]
                exact ih _ _ _ _ _ _ (by omega) rfl (hF2.trans h3.1) g3 ha (ld_fr hF2 h3)
            · obtain ⟨i1, i2⟩ := hr.2.2 (by omega)
              rw [i1]
              refine g_if_ne eX12_asks_53 (fun hb3 => ?_) (fun hb3 => ?_)
              · refine g_inc4 rfl (Nat.le_of_ble_eq_true rfl) rfl eX12_asks_79 ?_
                refine g_goto eX12_asks_82 ?_
                exact full _ _ _ _ hF2 (by have := g4.1; have := g2.1; omega) i1 i2
              · exact absurd hb3 (by decide)
      · exact full _ _ _ _ hF (by have := gA.1; omega) (hl.2.2 (by show 40 < w2.length; omega)).1 (hl.2.2 (by show 40 < w2.length; omega)).2
  refine g_bipush (v := (-30)) (by decide) eX12_asks_0 ?_
  refine g_ald0 eX12_asks_2 ?_
  refine g_getR (ci := 11) (j := 35) rfl (Nat.le_of_ble_eq_true rfl) (Nat.le_of_ble_eq_true rfl) (Nat.le_of_ble_eq_true rfl) rfl rfl fl_X12_73 eX12_asks_3 ?_
  refine g_bipush (v := 13) (by decide) eX12_asks_6 ?_
  refine g_ild1 eX12_asks_8 ?_
  refine g_imul eX12_asks_9 ?_
  rw [show (13 : Int32) = nI 13 from rfl, show nI 13 * nI k = nI (13 * k) from (Int32.ofNat_mul _ _).symm]
  refine g_ald0 eX12_asks_10 ?_
  refine g_getI (ci := 11) (j := 17) rfl (Nat.le_of_ble_eq_true rfl) (Nat.le_of_ble_eq_true rfl) (Nat.le_of_ble_eq_true rfl) rfl fl_X12_174 eX12_asks_11 ?_
  rw [hbs.1]
  refine g_iadd eX12_asks_14 ?_
  refine g_iconst (v := 1) (by decide) eX12_asks_15 ?_
  refine g_isub eX12_asks_16 ?_
  rw [nI_add, show nI (13 * k + bs) - 1 = nI (13 * k + (bs - 1)) by rw [show 13 * k + bs = 13 * k + (bs - 1) + 1 by omega]; exact nI_pred _]
  refine g_lald rfl (Nat.le_of_ble_eq_true rfl) (vp_in_nI (n := 13 * k + (bs - 1)) (N := 52) (by omega) (by decide)) eX12_asks_17 ?_
  rw [nI_clamp (by omega)]
  have e30 := ask30 h2 h13 (hfac (bs - 1) (by omega)) (coP_rng h2 (bs - 1))
  refine g_l2i eX12_asks_18 ?_
  refine g_isub eX12_asks_19 ?_
  generalize -30 - (st.2 51 (13 * k + (bs - 1))).toInt32 = y at e30
  refine g_ist3 rfl (Nat.le_of_ble_eq_true rfl) eX12_asks_20 ?_
  refine g_ald0 eX12_asks_21 ?_
  refine g_getI (ci := 11) (j := 17) rfl (Nat.le_of_ble_eq_true rfl) (Nat.le_of_ble_eq_true rfl) (Nat.le_of_ble_eq_true rfl) rfl fl_X12_174 eX12_asks_22 ?_
  rw [hbs.1]
  refine g_iconst (v := 2) (by decide) eX12_asks_25 ?_
  refine g_isub eX12_asks_26 ?_
  refine g_ist4 rfl (Nat.le_of_ble_eq_true rfl) eX12_asks_27 ?_
  refine loop (bs - 1) _ _ _ _ w _ (by omega) ?_ (lyFr.refl _ _) (gw_self (vk_open h2 _ _)) rfl (ld_same hw hf e30)
  have e7 : nI bs - nI 2 = nI (bs - 2) := nI_sub (by omega)
  have e8 : nI (bs - 1) - 1 = nI (bs - 2) := by
    rw [show bs - 1 = bs - 2 + 1 by omega]
    exact nI_pred _
  exact e7.trans e8.symm
end WASKS
