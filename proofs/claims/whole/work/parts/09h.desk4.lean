/-! SealedSums$Desk: two programs held against each other at every plain input -/
section DESK4
variable {l : Launch} {D : va_G} {cy : Nat → ClassId}
/-- the slots of input v: only the ins count -/
def inS (t v : Int) : Nat → Int := fun j => if j < 40 then 0 else v / t ^ (j - 40) % t
/-- works that keep to their order read only what stands there -/
def wksOK (t ins : Int) (K A B : Nat → Int) (n : Nat) : Prop := ∀ w, w < n → wkOK t ins w (K w) (A w) (B w)
theorem runSl_cong {K A B : Nat → Int} {t ins m0 : Int} {s s2 : Nat → Int} {n : Nat} (h : wksOK t ins K A B n) (hs : ∀ j : Nat, 40 ≤ j → (j : Int) < 40 + ins → s j = s2 j) : ∀ k, k ≤ n → ∀ j : Nat, (j < k ∨ (40 ≤ j ∧ (j : Int) < 40 + ins)) → runSl K A B m0 s k j = runSl K A B m0 s2 k j := by
  intro k
  induction k with
  | zero =>
    intro _ j hj
    exact hs j (by omega) (by omega)
  | succ k ih =>
    intro hk j hj
    have ih := ih (by omega)
    obtain ⟨w1, w2, w3, w4, -⟩ := h k (by omega)
    have r1 : runSl K A B m0 s k (A k).toNat = runSl K A B m0 s2 k (A k).toNat := ih _ (by rcases w3 with h | h <;> omega)
    show (if j = k then _ else _) = (if j = k then _ else _)
    by_cases hjk : j = k
    · rw [if_pos hjk, if_pos hjk, r1]
      congr 1
      by_cases hh : K k = 4 ∨ K k = 5
      · rw [if_pos hh, if_pos hh]
      · rw [if_neg hh, if_neg hh]
        exact ih _ (by rcases w4 (by omega) with h | h <;> omega)
    · rw [if_neg hjk, if_neg hjk]
      exact ih j (by omega)
/-- an out of a program at input v -/
def plO (K A B : Nat → Int) (W : Nat) (t v c : Int) : Int := outF c (runSl K A B t (inS t v) W)
theorem pg_wks {t : Int} {st : St} {q : Nat} (h : pgOK t st q) : wksOK t ((st.1 (95 + 5 * q) 4).toInt) (gK st q) (gA st q) (gB st q) ((st.1 (95 + 5 * q) 5).toInt).toNat := fun w hw => h.2.2.2.2.2.2.1 w (by have := h.1; omega)
def gU (st : St) (q : Nat) : Nat → Int := fun k => (st.1 (99 + 5 * q) k).toInt
theorem out_cong {t : Int} {st : St} {q : Nat} (h : pgOK t st q) {s : Nat → Int} {v : Int} (hs : ∀ k, k < 6 → s (40 + k) = v / t ^ k % t) {k : Nat} (hk : (k : Int) < (st.1 (95 + 5 * q) 6).toInt) : outF ((st.1 (99 + 5 * q) k).toInt) (runSl (gK st q) (gA st q) (gB st q) t s ((st.1 (95 + 5 * q) 5).toInt).toNat) = plO (gK st q) (gA st q) (gB st q) ((st.1 (95 + 5 * q) 5).toInt).toNat t v ((st.1 (99 + 5 * q) k).toInt) := by
  unfold plO outF
  split
  · rfl
  · rename_i hc
    have hi := h.2.2.2.1
    have hw := h.1
    refine runSl_cong (pg_wks h) (fun j hj hj2 => ?_) _ (Nat.le_refl _) _ ?_
    · have := hs (j - 40) (by omega)
      rw [show 40 + (j - 40) = j by omega] at this
      rw [this]
      unfold inS
      rw [if_neg (by omega)]
    · rcases h.2.2.2.2.2.2.2 k hk with (h9 | h9) | h9 <;> omega
set_option maxHeartbeats 4000000 in
theorem m_hasFirstOuts (st : St) {q : Nat} (hq : q < 4) (t : Int) (ht : 0 ≤ t ∧ t ≤ 13) (hp : pgOK t st q) : Mi l D cy 2 YX0_hasFirstOuts [.ref 24, .ref (95 + 5 * q)] st (fun r u => u = st ∧ r = b2 (∀ k, k < ((st.1 (95 + 5 * q) 6).toInt).toNat → outF ((st.1 (99 + 5 * q) k).toInt) (fun j => (st.1 25 j).toInt) = (st.1 27 k).toInt)) := by
  have ho := hp.2.2.2.2.1
  have ho2 := hp.2.2.2.2.2.1
  have hi := hp.2.2.2.1
  have hw := hp.2.1
  refine M.ofG [some (.ref 24), some (.ref (95 + 5 * q)), none] (by decide) (Nat.le_of_ble_eq_true rfl) rfl ?_
  intro xp xe xs xm xa xb xme xc xad xA
  have loop : ∀ (f k : Nat), k + f = ((st.1 (95 + 5 * q) 6).toInt).toNat → (∀ j, j < k → outF ((st.1 (99 + 5 * q) j).toInt) (fun j => (st.1 25 j).toInt) = (st.1 27 j).toInt) → G xp l xe (rmd (2)) xs xm xa xb xme xc D cy xad xA (YX0_hasFirstOuts.2.1, YX0_hasFirstOuts.1.cls, YX0_hasFirstOuts.2.2.1, YX0_hasFirstOuts.2.2.2) (Pi (fun (r : Int32) (u : St) => u = st ∧ r = b2 (∀ k, k < ((st.1 (95 + 5 * q) 6).toInt).toNat → outF ((st.1 (99 + 5 * q) k).toInt) (fun j => (st.1 25 j).toInt) = (st.1 27 k).toInt))) 2 ([some (.ref 24), some (.ref (95 + 5 * q)), some (.int (nI k))]) ([]) (st) := by
    intro f
    induction f with
    | zero =>
      intro k hk hall
      refine g_ild2 eX0_hasFirstOuts_2 ?_
      refine g_ald1 eX0_hasFirstOuts_3 ?_
      refine g_getI (ci := 6) (j := 6) (by first | rfl | exact kd_key hi | exact kd_sh hi | exact kd_ya hi | exact kd_pr hq | exact kd_pk hq | exact kd_pf hq | exact kd_ps hq | exact kd_po hq | exact kd_pr hq2 | exact kd_pk hq2 | exact kd_pf hq2 | exact kd_ps hq2 | exact kd_po hq2) (by first | decide | (unfold N0; omega)) (Nat.le_of_ble_eq_true rfl) (Nat.le_of_ble_eq_true rfl) rfl fl_X0_113 eX0_hasFirstOuts_4 ?_
      refine g_icmp_ge eX0_hasFirstOuts_7 (fun hb => ?_) (fun hb => ?_)
      · refine g_iconst (v := 1) (by decide) eX0_hasFirstOuts_33 ?_
        refine g_zret (ty := .boolean) rfl (by first | rfl | assumption) eX0_hasFirstOuts_34 ⟨_, rfl, ?_⟩
        try dsimp only
        exact ⟨rfl, b2_t (fun j hj => hall j (by omega))⟩
      · rw [fa_le, nI_toInt (by omega)] at hb
        exfalso
        omega
    | succ f ih =>
      intro k hk hall
      refine g_ild2 eX0_hasFirstOuts_2 ?_
      refine g_ald1 eX0_hasFirstOuts_3 ?_
      refine g_getI (ci := 6) (j := 6) (by first | rfl | exact kd_key hi | exact kd_sh hi | exact kd_ya hi | exact kd_pr hq | exact kd_pk hq | exact kd_pf hq | exact kd_ps hq | exact kd_po hq | exact kd_pr hq2 | exact kd_pk hq2 | exact kd_pf hq2 | exact kd_ps hq2 | exact kd_po hq2) (by first | decide | (unfold N0; omega)) (Nat.le_of_ble_eq_true rfl) (Nat.le_of_ble_eq_true rfl) rfl fl_X0_113 eX0_hasFirstOuts_4 ?_
      refine g_icmp_ge eX0_hasFirstOuts_7 (fun hb => ?_) (fun hb => ?_)
      · rw [fa_le, nI_toInt (by omega)] at hb
        exfalso
        omega
      · have hc : -100 ≤ (st.1 (99 + 5 * q) k).toInt ∧ (st.1 (99 + 5 * q) k).toInt < 46 := by
          rcases hp.2.2.2.2.2.2.2 k (by omega) with (h9 | h9) | h9 <;> omega
        refine g_ald0 eX0_hasFirstOuts_10 ?_
        refine g_ald1 eX0_hasFirstOuts_11 ?_
        refine g_ild2 eX0_hasFirstOuts_12 ?_
        refine g_callVi (ci := 0) (m_plainOut _ hq k (by omega) hc) (by first | rfl | exact kd_key hi | exact kd_sh hi | exact kd_ya hi | exact kd_pr hq | exact kd_pk hq | exact kd_pf hq | exact kd_ps hq | exact kd_po hq | exact kd_pr hq2 | exact kd_pk hq2 | exact kd_pf hq2 | exact kd_ps hq2 | exact kd_po hq2) (by first | decide | (unfold N0; omega)) (Nat.le_of_ble_eq_true rfl) rfl cv_X0_116 eX0_hasFirstOuts_13 ⟨Nat.le_of_ble_eq_true rfl, Nat.le_of_ble_eq_true rfl⟩ rfl rfl (Nat.le_of_ble_eq_true rfl) (fun r st hr => ?_)
        obtain ⟨rfl, hr⟩ := hr
        refine g_ald0 eX0_hasFirstOuts_16 ?_
        refine g_getR (ci := 0) (j := 3) (by first | rfl | exact kd_key hi | exact kd_sh hi | exact kd_ya hi | exact kd_pr hq | exact kd_pk hq | exact kd_pf hq | exact kd_ps hq | exact kd_po hq | exact kd_pr hq2 | exact kd_pk hq2 | exact kd_pf hq2 | exact kd_ps hq2 | exact kd_po hq2) (by first | decide | (unfold N0; omega)) (Nat.le_of_ble_eq_true rfl) (Nat.le_of_ble_eq_true rfl) rfl (by first | rfl | exact r_key4 hi | exact r_sh0 hi | exact r_p0 hq | exact r_p1 hq | exact r_p2 hq | exact r_p3 hq | exact r_p0 hq2 | exact r_p1 hq2 | exact r_p2 hq2 | exact r_p3 hq2) fl_X0_20 eX0_hasFirstOuts_17 ?_
        refine g_ild2 eX0_hasFirstOuts_20 ?_
        refine g_iald (by first | rfl | exact kd_key hi | exact kd_sh hi | exact kd_ya hi | exact kd_pr hq | exact kd_pk hq | exact kd_pf hq | exact kd_ps hq | exact kd_po hq | exact kd_pr hq2 | exact kd_pk hq2 | exact kd_pf hq2 | exact kd_ps hq2 | exact kd_po hq2) (by first | decide | (unfold N0; omega)) (vp_in_nI (n := k) (N := 4) (by omega) (by decide)) eX0_hasFirstOuts_21 ?_
        rw [nI_clamp (by omega)]
        refine g_icmp_eq eX0_hasFirstOuts_22 (fun h22 => ?_) (fun h22 => ?_)
        · rw [fa_eq, hr] at h22
          refine g_inc2 rfl (Nat.le_of_ble_eq_true rfl) rfl eX0_hasFirstOuts_27 ?_
          refine g_goto eX0_hasFirstOuts_30 ?_
          rw [inc1]
          refine ih (k + 1) (by omega) (fun j hj => ?_)
          by_cases hjk : j = k
          · rw [hjk]; exact h22
          · exact hall j (by omega)
        · rw [fa_eq, hr] at h22
          refine g_iconst (v := 0) (by decide) eX0_hasFirstOuts_25 ?_
          refine g_zret (ty := .boolean) rfl (by first | rfl | assumption) eX0_hasFirstOuts_26 ⟨_, rfl, ?_⟩
          try dsimp only
          exact ⟨rfl, b2_f (fun h => h22 (h k (by omega)))⟩
  refine g_iconst (v := 0) (by decide) eX0_hasFirstOuts_0 ?_
  refine g_ist2 rfl (Nat.le_of_ble_eq_true rfl) eX0_hasFirstOuts_1 ?_
  exact loop ((st.1 (95 + 5 * q) 6).toInt).toNat 0 (by omega) (fun j hj => by omega)
theorem pl_slots {t v : Int} {s f : Nat → Int32} {K A B : Nat → Int} {W : Nat} {g : Nat → Int32} (hf : plI s t v f 6) (hW : W ≤ 40) (hg : ∀ j, (g j).toInt = runSl K A B t (fun j => (f j).toInt) W j) : ∀ k, k < 6 → (g (40 + k)).toInt = v / t ^ k % t := by
  intro k hk
  rw [hg]
  have keep : ∀ n, n ≤ 40 → runSl K A B t (fun j => (f j).toInt) n (40 + k) = (f (40 + k)).toInt := by
    intro n
    induction n with
    | zero => intro _; rfl
    | succ n ih =>
      intro hn
      show (if 40 + k = n then _ else _) = _
      rw [if_neg (by omega)]
      exact ih (by omega)
  rw [keep W hW]
  exact hf.2 k hk
/-- the inputs at which two programs answer otherwise -/
def difB (st : St) (t : Int) (q r : Nat) : Nat → Bool := fun v => !decide (∀ k, k < ((st.1 (95 + 5 * r) 6).toInt).toNat → plO (gK st r) (gA st r) (gB st r) ((st.1 (95 + 5 * r) 5).toInt).toNat t v ((st.1 (99 + 5 * r) k).toInt) = plO (gK st q) (gA st q) (gB st q) ((st.1 (95 + 5 * q) 5).toInt).toNat t v ((st.1 (99 + 5 * q) k).toInt))
theorem gU_sR {st : St} {k q : Nat} {f : Nat → Int32} (hk : k < 83) (j : Nat) : (sR st k f).1 (99 + 5 * q) j = st.1 (99 + 5 * q) j := by rw [sR_hi hk (by omega)]
set_option maxHeartbeats 16000000 in
theorem m_differing (st : St) {q : Nat} (hq : q < 4) {r : Nat} (hq2 : r < 4) (ht : tOK (st.1 24 0)) (hp : pgOK (st.1 24 0).toInt st q) (hp2 : pgOK (st.1 24 0).toInt st r) (hins : (st.1 (95 + 5 * q) 4).toInt = (st.1 (95 + 5 * r) 4).toInt) (houts : (st.1 (95 + 5 * q) 6).toInt = (st.1 (95 + 5 * r) 6).toInt) (h4 : (st.1 (95 + 5 * q) 4).toInt ≤ 4) : Mi l D cy 4 YX0_differing [.ref 24, .ref (95 + 5 * q), .ref (95 + 5 * r)] st (fun z u => (∃ f g, u = sR (sR st 25 f) 27 g) ∧ z.toInt = (fb_ct (difB st (st.1 24 0).toInt q r) ((st.1 24 0).toInt ^ ((st.1 (95 + 5 * q) 4).toInt).toNat).toNat : Int)) := by
  have ho := hp.2.2.2.2.1
  have ho2 := hp.2.2.2.2.2.1
  have hi := hp.2.2.1
  have hi2 := hp.2.2.2.1
  have hw40 := hp.2.1
  have hpw := pow_le6 ht (k := ((st.1 (95 + 5 * q) 4).toInt).toNat) (by omega)
  generalize hT : (st.1 24 0).toInt = t at hp hp2 hpw ⊢
  have ht2 : 2 ≤ t ∧ t ≤ 13 := by rw [← hT]; exact ht
  refine M.ofG [some (.ref 24), some (.ref (95 + 5 * q)), some (.ref (95 + 5 * r)), none, none, none, none] (by decide) (Nat.le_of_ble_eq_true rfl) rfl ?_
  intro xp xe xs xm xa xb xme xc xad xA
  have e24 : ∀ f g, (sR (sR st 25 f) 27 g).1 24 = st.1 24 := fun f g => by rw [sR_ne (by decide), sR_ne (by decide)]
  have e25 : ∀ f g, (sR (sR st 25 f) 27 g).1 25 = f := fun f g => by rw [sR_ne (by decide), sR_at]
  have ehi : ∀ f g a, 83 ≤ a → (sR (sR st 25 f) 27 g).1 a = st.1 a := fun f g a ha => by rw [sR_hi (by decide) ha, sR_hi (by decide) ha]
  have r25 : ∀ f g h, sR (sR (sR st 25 f) 27 g) 25 h = sR (sR st 25 h) 27 g := fun f g h => by rw [sR_comm _ (by decide), sR_sR]
  have hK : ∀ f g z, gK (sR (sR st 25 f) 27 g) z = gK st z := fun f g z => by rw [gK_sR (by decide), gK_sR (by decide)]
  have hA : ∀ f g z, gA (sR (sR st 25 f) 27 g) z = gA st z := fun f g z => by rw [gA_sR (by decide), gA_sR (by decide)]
  have hB : ∀ f g z, gB (sR (sR st 25 f) 27 g) z = gB st z := fun f g z => by rw [gB_sR (by decide), gB_sR (by decide)]
  have loop : ∀ (N : Int32), N.toInt = t ^ ((st.1 (95 + 5 * q) 4).toInt).toNat → ∀ (f9 v : Nat) (f g : Nat → Int32) (a : Int32) (y : Option Value), v + f9 = (t ^ ((st.1 (95 + 5 * q) 4).toInt).toNat).toNat → a.toInt = (fb_ct (difB st t q r) v : Int) → G xp l xe (rmd (4)) xs xm xa xb xme xc D cy xad xA (YX0_differing.2.1, YX0_differing.1.cls, YX0_differing.2.2.1, YX0_differing.2.2.2) (Pi (fun (z : Int32) (u : St) => (∃ f g, u = sR (sR st 25 f) 27 g) ∧ z.toInt = (fb_ct (difB st t q r) (t ^ ((st.1 (95 + 5 * q) 4).toInt).toNat).toNat : Int))) 15 ([some (.ref 24), some (.ref (95 + 5 * q)), some (.ref (95 + 5 * r)), some (.int N), some (.int a), some (.int (nI v)), y]) ([]) (sR (sR st 25 f) 27 g) := by
    intro N hN f9
    induction f9 with
    | zero =>
      intro v f g a y hv ha
      refine g_ild5 eX0_differing_15 ?_
      refine g_ild3 eX0_differing_17 ?_
      refine g_icmp_ge eX0_differing_18 (fun hb => ?_) (fun hb => ?_)
      · refine g_ild4 eX0_differing_93 ?_
        refine g_iret rfl eX0_differing_95 ⟨_, rfl, ?_⟩
        try dsimp only
        refine ⟨⟨f, g, rfl⟩, ?_⟩
        rw [show (t ^ ((st.1 (95 + 5 * q) 4).toInt).toNat).toNat = v by omega]
        exact ha
      · rw [fa_le, nI_toInt (by omega)] at hb
        exfalso
        omega
    | succ f9 ih =>
      intro v f g a y hv ha
      have hct := fb_ct_le (difB st t q r) v
      refine g_ild5 eX0_differing_15 ?_
      refine g_ild3 eX0_differing_17 ?_
      refine g_icmp_ge eX0_differing_18 (fun hb => ?_) (fun hb => ?_)
      · rw [fa_le, nI_toInt (by omega)] at hb
        exfalso
        omega
      · refine g_ald0 eX0_differing_21 ?_
        refine g_ild5 eX0_differing_22 ?_
        refine g_callVv (ci := 0) (m_setPlainIns _ (nI v) (by rw [nI_toInt (by omega)]; omega) (by rw [e24]; exact ht)) (by first | rfl | exact kd_key hi | exact kd_sh hi | exact kd_ya hi | exact kd_pr hq | exact kd_pk hq | exact kd_pf hq | exact kd_ps hq | exact kd_po hq | exact kd_pr hq2 | exact kd_pk hq2 | exact kd_pf hq2 | exact kd_ps hq2 | exact kd_po hq2) (by first | decide | (unfold N0; omega)) (Nat.le_of_ble_eq_true rfl) rfl cv_X0_105 eX0_differing_24 ⟨Nat.le_of_ble_eq_true rfl, Nat.le_of_ble_eq_true rfl⟩ rfl rfl (Nat.le_of_ble_eq_true rfl) (fun u1 h1 => ?_)
        obtain ⟨f1, rfl, h1⟩ := h1
        rw [e24, hT, nI_toInt (by omega)] at h1
        rw [r25]
        refine g_ald0 eX0_differing_27 ?_
        refine g_ald1 eX0_differing_28 ?_
        refine g_callVv (ci := 0) (m_workOpenly _ hq (by rw [e24]; exact ht) (by rw [e24, hT]; exact pg_sR (by decide) (pg_sR (by decide) hp))) (by first | rfl | exact kd_key hi | exact kd_sh hi | exact kd_ya hi | exact kd_pr hq | exact kd_pk hq | exact kd_pf hq | exact kd_ps hq | exact kd_po hq | exact kd_pr hq2 | exact kd_pk hq2 | exact kd_pf hq2 | exact kd_ps hq2 | exact kd_po hq2) (by first | decide | (unfold N0; omega)) (Nat.le_of_ble_eq_true rfl) rfl cv_X0_109 eX0_differing_29 ⟨Nat.le_of_ble_eq_true rfl, Nat.le_of_ble_eq_true rfl⟩ rfl rfl (Nat.le_of_ble_eq_true rfl) (fun u1 h2 => ?_)
        obtain ⟨f2, rfl, h2⟩ := h2
        rw [hK, hA, hB, e24, e25, hT, ehi _ _ _ (show 83 ≤ 95 + 5 * q by omega)] at h2
        rw [r25]
        have in2 := pl_slots h1 (by have := hp.2.1; omega) h2
        have inner : ∀ (f8 k : Nat) (g2 : Nat → Int32) , k + f8 = ((st.1 (95 + 5 * q) 6).toInt).toNat → (∀ j, j < k → (g2 j).toInt = plO (gK st q) (gA st q) (gB st q) ((st.1 (95 + 5 * q) 5).toInt).toNat t v ((st.1 (99 + 5 * q) j).toInt)) → G xp l xe (rmd (4)) xs xm xa xb xme xc D cy xad xA (YX0_differing.2.1, YX0_differing.1.cls, YX0_differing.2.2.1, YX0_differing.2.2.2) (Pi (fun (z : Int32) (u : St) => (∃ f g, u = sR (sR st 25 f) 27 g) ∧ z.toInt = (fb_ct (difB st t q r) (t ^ ((st.1 (95 + 5 * q) 4).toInt).toNat).toNat : Int))) 35 ([some (.ref 24), some (.ref (95 + 5 * q)), some (.ref (95 + 5 * r)), some (.int N), some (.int a), some (.int (nI v)), some (.int (nI k))]) ([]) (sR (sR st 25 f2) 27 g2) := by
          intro f8
          induction f8 with
          | zero =>
            intro k g2 hk hg2
            refine g_ild6 eX0_differing_35 ?_
            refine g_ald1 eX0_differing_37 ?_
            refine g_getI (ci := 6) (j := 6) (by first | rfl | exact kd_key hi | exact kd_sh hi | exact kd_ya hi | exact kd_pr hq | exact kd_pk hq | exact kd_pf hq | exact kd_ps hq | exact kd_po hq | exact kd_pr hq2 | exact kd_pk hq2 | exact kd_pf hq2 | exact kd_ps hq2 | exact kd_po hq2) (by first | decide | (unfold N0; omega)) (Nat.le_of_ble_eq_true rfl) (Nat.le_of_ble_eq_true rfl) rfl fl_X0_113 eX0_differing_38 ?_
            rw [ehi _ _ _ (show 83 ≤ 95 + 5 * q by omega)]
            refine g_icmp_ge eX0_differing_41 (fun hb2 => ?_) (fun hb2 => ?_)
            · refine g_ald0 eX0_differing_64 ?_
              refine g_ald2 eX0_differing_65 ?_
              refine g_callVv (ci := 0) (m_workOpenly _ hq2 (by rw [e24]; exact ht) (by rw [e24, hT]; exact pg_sR (by decide) (pg_sR (by decide) hp2))) (by first | rfl | exact kd_key hi | exact kd_sh hi | exact kd_ya hi | exact kd_pr hq | exact kd_pk hq | exact kd_pf hq | exact kd_ps hq | exact kd_po hq | exact kd_pr hq2 | exact kd_pk hq2 | exact kd_pf hq2 | exact kd_ps hq2 | exact kd_po hq2) (by first | decide | (unfold N0; omega)) (Nat.le_of_ble_eq_true rfl) rfl cv_X0_109 eX0_differing_66 ⟨Nat.le_of_ble_eq_true rfl, Nat.le_of_ble_eq_true rfl⟩ rfl rfl (Nat.le_of_ble_eq_true rfl) (fun u1 h3 => ?_)
              obtain ⟨f3, rfl, h3⟩ := h3
              rw [hK, hA, hB, e24, e25, hT, ehi _ _ _ (show 83 ≤ 95 + 5 * r by omega)] at h3
              rw [r25]
              refine g_ild4 eX0_differing_69 ?_
              refine g_ald0 eX0_differing_71 ?_
              refine g_ald2 eX0_differing_72 ?_
              refine g_callVi (ci := 0) (m_hasFirstOuts _ hq2 t (by omega) (pg_sR (by decide) (pg_sR (by decide) hp2))) (by first | rfl | exact kd_key hi | exact kd_sh hi | exact kd_ya hi | exact kd_pr hq | exact kd_pk hq | exact kd_pf hq | exact kd_ps hq | exact kd_po hq | exact kd_pr hq2 | exact kd_pk hq2 | exact kd_pf hq2 | exact kd_ps hq2 | exact kd_po hq2) (by first | decide | (unfold N0; omega)) (Nat.le_of_ble_eq_true rfl) rfl cv_X0_120 eX0_differing_73 ⟨Nat.le_of_ble_eq_true rfl, Nat.le_of_ble_eq_true rfl⟩ rfl rfl (Nat.le_of_ble_eq_true rfl) (fun z u1 hz => ?_)
              obtain ⟨rfl, rfl⟩ := hz
              have key : (∀ k, k < ((sR (sR st 25 f3) 27 g2).1 (95 + 5 * r) 6).toInt.toNat → outF ((sR (sR st 25 f3) 27 g2).1 (99 + 5 * r) k).toInt (fun j => ((sR (sR st 25 f3) 27 g2).1 25 j).toInt) = ((sR (sR st 25 f3) 27 g2).1 27 k).toInt) ↔ difB st t q r v = false := by
                unfold difB
                rw [ehi _ _ _ (show 83 ≤ 95 + 5 * r by omega), ehi _ _ _ (show 83 ≤ 99 + 5 * r by omega), e25, sR_at]
                simp only [Bool.not_eq_false', decide_eq_true_eq]
                have hrow : (fun j => (f3 j).toInt) = runSl (gK st r) (gA st r) (gB st r) t (fun j => (f2 j).toInt) ((st.1 (95 + 5 * r) 5).toInt).toNat := funext h3
                constructor
                · intro hh k9 hk9
                  have := hh k9 hk9
                  rw [hrow, out_cong hp2 in2 (by omega), hg2 k9 (by omega)] at this
                  exact this
                · intro hh k9 hk9
                  rw [hrow, out_cong hp2 in2 (by omega), hg2 k9 (by omega)]
                  exact hh k9 hk9
              refine g_if_eq eX0_differing_76 (fun h76 => ?_) (fun h76 => ?_)
              · rw [b2_eq0, key] at h76
                have hd : difB st t q r v = true := by simpa using h76
                refine g_iconst (v := 1) (by decide) eX0_differing_83 ?_
                refine g_iadd eX0_differing_84 ?_
                refine g_ist4 rfl (Nat.le_of_ble_eq_true rfl) eX0_differing_85 ?_
                refine g_inc5 rfl (Nat.le_of_ble_eq_true rfl) rfl eX0_differing_87 ?_
                refine g_goto eX0_differing_90 ?_
                rw [inc1]
                refine ih (v + 1) f3 g2 _ _ (by omega) ?_
                rw [fb_ct_succ, hd, fb_addI] <;> rw [ha, o32] <;> (try simp) <;> omega
              · rw [b2_ne0, key] at h76
                refine g_iconst (v := 0) (by decide) eX0_differing_79 ?_
                refine g_goto eX0_differing_80 ?_
                refine g_iadd eX0_differing_84 ?_
                refine g_ist4 rfl (Nat.le_of_ble_eq_true rfl) eX0_differing_85 ?_
                refine g_inc5 rfl (Nat.le_of_ble_eq_true rfl) rfl eX0_differing_87 ?_
                refine g_goto eX0_differing_90 ?_
                rw [inc1]
                refine ih (v + 1) f3 g2 _ _ (by omega) ?_
                rw [fb_ct_succ, h76, fb_addI] <;> rw [ha, z32] <;> (try simp) <;> omega
            · rw [fa_le, nI_toInt (by omega)] at hb2
              exfalso
              omega
          | succ f8 ih2 =>
            intro k g2 hk hg2
            refine g_ild6 eX0_differing_35 ?_
            refine g_ald1 eX0_differing_37 ?_
            refine g_getI (ci := 6) (j := 6) (by first | rfl | exact kd_key hi | exact kd_sh hi | exact kd_ya hi | exact kd_pr hq | exact kd_pk hq | exact kd_pf hq | exact kd_ps hq | exact kd_po hq | exact kd_pr hq2 | exact kd_pk hq2 | exact kd_pf hq2 | exact kd_ps hq2 | exact kd_po hq2) (by first | decide | (unfold N0; omega)) (Nat.le_of_ble_eq_true rfl) (Nat.le_of_ble_eq_true rfl) rfl fl_X0_113 eX0_differing_38 ?_
            rw [ehi _ _ _ (show 83 ≤ 95 + 5 * q by omega)]
            refine g_icmp_ge eX0_differing_41 (fun hb2 => ?_) (fun hb2 => ?_)
            · rw [fa_le, nI_toInt (by omega)] at hb2
              exfalso
              omega
            · have hc : -100 ≤ (st.1 (99 + 5 * q) k).toInt ∧ (st.1 (99 + 5 * q) k).toInt < 46 := by
                rcases hp.2.2.2.2.2.2.2 k (by omega) with (h9 | h9) | h9 <;> omega
              refine g_ald0 eX0_differing_44 ?_
              refine g_getR (ci := 0) (j := 3) (by first | rfl | exact kd_key hi | exact kd_sh hi | exact kd_ya hi | exact kd_pr hq | exact kd_pk hq | exact kd_pf hq | exact kd_ps hq | exact kd_po hq | exact kd_pr hq2 | exact kd_pk hq2 | exact kd_pf hq2 | exact kd_ps hq2 | exact kd_po hq2) (by first | decide | (unfold N0; omega)) (Nat.le_of_ble_eq_true rfl) (Nat.le_of_ble_eq_true rfl) rfl (by first | rfl | exact r_key4 hi | exact r_sh0 hi | exact r_p0 hq | exact r_p1 hq | exact r_p2 hq | exact r_p3 hq | exact r_p0 hq2 | exact r_p1 hq2 | exact r_p2 hq2 | exact r_p3 hq2) fl_X0_20 eX0_differing_45 ?_
              refine g_ild6 eX0_differing_48 ?_
              refine g_ald0 eX0_differing_50 ?_
              refine g_ald1 eX0_differing_51 ?_
              refine g_ild6 eX0_differing_52 ?_
              refine g_callVi (ci := 0) (m_plainOut _ hq k (by omega) (by rw [ehi _ _ _ (show 83 ≤ 99 + 5 * q by omega)]; exact hc)) (by first | rfl | exact kd_key hi | exact kd_sh hi | exact kd_ya hi | exact kd_pr hq | exact kd_pk hq | exact kd_pf hq | exact kd_ps hq | exact kd_po hq | exact kd_pr hq2 | exact kd_pk hq2 | exact kd_pf hq2 | exact kd_ps hq2 | exact kd_po hq2) (by first | decide | (unfold N0; omega)) (Nat.le_of_ble_eq_true rfl) rfl cv_X0_116 eX0_differing_54 ⟨Nat.le_of_ble_eq_true rfl, Nat.le_of_ble_eq_true rfl⟩ rfl rfl (Nat.le_of_ble_eq_true rfl) (fun z u1 hz => ?_)
              obtain ⟨rfl, hz⟩ := hz
              rw [ehi _ _ _ (show 83 ≤ 99 + 5 * q by omega), e25, show (fun j => (f2 j).toInt) = runSl (gK st q) (gA st q) (gB st q) t (fun j => (f1 j).toInt) ((st.1 (95 + 5 * q) 5).toInt).toNat from funext h2, out_cong hp h1.2 (by omega)] at hz
              refine g_iast (by first | rfl | exact kd_key hi | exact kd_sh hi | exact kd_ya hi | exact kd_pr hq | exact kd_pk hq | exact kd_pf hq | exact kd_ps hq | exact kd_po hq | exact kd_pr hq2 | exact kd_pk hq2 | exact kd_pf hq2 | exact kd_ps hq2 | exact kd_po hq2) (by first | decide | (unfold N0; omega)) (vp_in_nI (n := k) (N := 4) (by omega) (by decide)) eX0_differing_57 ?_
              refine g_inc6 rfl (Nat.le_of_ble_eq_true rfl) rfl eX0_differing_58 ?_
              refine g_goto eX0_differing_61 ?_
              rw [nI_clamp (by omega), sI_sR, inc1]
              refine ih2 (k + 1) _ (by omega) (fun j hj => ?_)
              unfold upd
              by_cases hjk : j = k
              · rw [if_pos hjk, hjk]; exact hz
              · rw [if_neg hjk]; exact hg2 j (by omega)
        refine g_iconst (v := 0) (by decide) eX0_differing_32 ?_
        refine g_ist6 rfl (Nat.le_of_ble_eq_true rfl) eX0_differing_33 ?_
        exact inner ((st.1 (95 + 5 * q) 6).toInt).toNat 0 g (by omega) (fun j hj => by omega)
  refine g_ald0 eX0_differing_0 ?_
  refine g_ald1 eX0_differing_1 ?_
  refine g_getI (ci := 6) (j := 4) (by first | rfl | exact kd_key hi | exact kd_sh hi | exact kd_ya hi | exact kd_pr hq | exact kd_pk hq | exact kd_pf hq | exact kd_ps hq | exact kd_po hq | exact kd_pr hq2 | exact kd_pk hq2 | exact kd_pf hq2 | exact kd_ps hq2 | exact kd_po hq2) (by first | decide | (unfold N0; omega)) (Nat.le_of_ble_eq_true rfl) (Nat.le_of_ble_eq_true rfl) rfl fl_X0_33 eX0_differing_2 ?_
  have e4 : st.1 (95 + 5 * q) 4 = nI ((st.1 (95 + 5 * q) 4).toInt).toNat := by rw [fa_eq, nI_toInt (by omega)]; omega
  have mp := m_plainInputs (l := l) (D := D) (cy := cy) st ((st.1 (95 + 5 * q) 4).toInt).toNat (by omega) ht
  rw [← e4] at mp
  refine g_callVi (ci := 0) (mp) (by first | rfl | exact kd_key hi | exact kd_sh hi | exact kd_ya hi | exact kd_pr hq | exact kd_pk hq | exact kd_pf hq | exact kd_ps hq | exact kd_po hq | exact kd_pr hq2 | exact kd_pk hq2 | exact kd_pf hq2 | exact kd_ps hq2 | exact kd_po hq2) (by first | decide | (unfold N0; omega)) (Nat.le_of_ble_eq_true rfl) rfl cv_X0_102 eX0_differing_5 ⟨Nat.le_of_ble_eq_true rfl, Nat.le_of_ble_eq_true rfl⟩ rfl rfl (Nat.le_of_ble_eq_true rfl) (fun N st hN => ?_)
  obtain ⟨rfl, hN⟩ := hN
  rw [hT] at hN
  refine g_ist3 rfl (Nat.le_of_ble_eq_true rfl) eX0_differing_8 ?_
  refine g_iconst (v := 0) (by decide) eX0_differing_9 ?_
  refine g_ist4 rfl (Nat.le_of_ble_eq_true rfl) eX0_differing_10 ?_
  refine g_iconst (v := 0) (by decide) eX0_differing_12 ?_
  refine g_ist5 rfl (Nat.le_of_ble_eq_true rfl) eX0_differing_13 ?_
  have go := loop N hN (t ^ ((st.1 (95 + 5 * q) 4).toInt).toNat).toNat 0 (st.1 25) (st.1 27) 0 none (by omega) rfl
  rw [sR_same, sR_same] at go
  exact go
end DESK4
