/-! SealedSums$Desk: the best laying, the sealed run, two programs compared -/
section DESK3
variable {l : Launch} {D : va_G} {cy : Nat → ClassId}
theorem sR_hi {st : St} {k a : Nat} {f : Nat → Int32} (hk : k < 83) (ha : 83 ≤ a) : (sR st k f).1 a = st.1 a := sR_ne (by omega)
theorem gK_sR {st : St} {k q : Nat} {f : Nat → Int32} (hk : k < 83) : gK (sR st k f) q = gK st q := by
  unfold gK
  rw [sR_hi hk (by omega)]
theorem gA_sR {st : St} {k q : Nat} {f : Nat → Int32} (hk : k < 83) : gA (sR st k f) q = gA st q := by
  unfold gA
  rw [sR_hi hk (by omega)]
theorem gB_sR {st : St} {k q : Nat} {f : Nat → Int32} (hk : k < 83) : gB (sR st k f) q = gB st q := by
  unfold gB
  rw [sR_hi hk (by omega)]
theorem key_sR {st : St} {k i : Nat} {f : Nat → Int32} (hk : k < 83) (h : keyAt st i) : keyAt (sR st k f) i := by
  show kOK _ _ _
  rw [sR_hi hk (by omega)]
  exact h
theorem pg_sR {t : Int} {st : St} {k q : Nat} {f : Nat → Int32} (hk : k < 83) (h : pgOK t st q) : pgOK t (sR st k f) q := by
  unfold pgOK at h ⊢
  rw [sR_hi hk (show 83 ≤ 95 + 5 * q by omega), sR_hi hk (show 83 ≤ 96 + 5 * q by omega), sR_hi hk (show 83 ≤ 97 + 5 * q by omega), sR_hi hk (show 83 ≤ 98 + 5 * q by omega), sR_hi hk (show 83 ≤ 99 + 5 * q by omega)]
  exact h
/-- the first of the layings that hold with the fewest made anew -/
def bestG (S : Nat → Bool) : Nat → Int × Nat
  | 0 => (-2, 13)
  | n + 1 => if popN n < (bestG S n).2 ∧ S n = true then ((n : Int), popN n) else bestG S n
theorem bestG_rng (S : Nat → Bool) : ∀ n, n ≤ 4096 → -2 ≤ (bestG S n).1 ∧ (bestG S n).1 < 4096 ∧ (bestG S n).2 ≤ 13
  | 0, _ => ⟨by show (-2 : Int) ≤ -2; decide, by show (-2 : Int) < 4096; decide, by show 13 ≤ 13; decide⟩
  | n + 1, h => by
    have ih := bestG_rng S n (by omega)
    have hp := pop_le n
    show -2 ≤ (if _ then _ else _ : Int × Nat).1 ∧ (if _ then _ else _ : Int × Nat).1 < 4096 ∧ (if _ then _ else _ : Int × Nat).2 ≤ 13
    split
    · exact ⟨by show (-2 : Int) ≤ (n : Int); omega, by show (n : Int) < 4096; omega, by show popN n ≤ 13; omega⟩
    · exact ih
def stB (st : St) (q i : Nat) (F : Int) : Nat → Bool := fun n => decide (stays (gK st q) (gA st q) (gB st q) ((st.1 (95 + 5 * q) 4).toInt) ((st.1 (95 + 5 * q) 5).toInt).toNat F (st.1 (83 + 3 * i) 0).toInt (n : Int))
theorem lay_shl {x : Int32} (h : 0 ≤ x.toInt ∧ x.toInt ≤ 40) : ((1 : Int32) <<< ((if (12 : Int32) < x then 12 else x) &&& 31)).toInt = layN x.toInt := by
  have e : (if (12 : Int32) < x then 12 else x) = nI (min x.toInt 12).toNat := by
    rw [fa_eq, nI_toInt (by omega)]
    have e12 : (12 : Int32).toInt = 12 := rfl
    split
    · rename_i hh
      rw [fa_lt, e12] at hh
      rw [e12]
      omega
    · rename_i hh
      rw [fa_lt, e12] at hh
      omega
  rw [e, shl_pow (by omega)]
  rfl
set_option maxHeartbeats 8000000 in
theorem m_bestLaying (st : St) {q : Nat} (hq : q < 4) {i : Nat} (hi : i < 4) (hk : keyAt st i) (ht : tOK (st.1 24 0)) (hp : pgOK (st.1 24 0).toInt st q) : Mi l D cy 4 YX0_bestLaying [.ref 24, .ref (95 + 5 * q), .ref (83 + 3 * i)] st (fun r u => (∃ g, u = sR st 26 g) ∧ r.toInt = (bestG (stB st q i ((st.1 24 0).toInt * (st.1 (83 + 3 * i) 2).toInt + (st.1 24 0).toInt - 1)) (layN ((st.1 (95 + 5 * q) 5).toInt)).toNat).1) := by
  have hw := hp.1
  have hw2 := hp.2.1
  generalize hF : (st.1 24 0).toInt * (st.1 (83 + 3 * i) 2).toInt + (st.1 24 0).toInt - 1 = F
  have hl1 := layN_pos ((st.1 (95 + 5 * q) 5).toInt)
  have hl2 := layN_le ((st.1 (95 + 5 * q) 5).toInt)
  have hsh := lay_shl (x := st.1 (95 + 5 * q) 5) ⟨hw, hw2⟩
  refine M.ofG [some (.ref 24), some (.ref (95 + 5 * q)), some (.ref (83 + 3 * i)), none, none, none, none, none] (by decide) (Nat.le_of_ble_eq_true rfl) rfl ?_
  intro xp xe xs xm xa xb xme xc xad xA
  have loop : ∀ (z : Int32), z.toInt = layN ((st.1 (95 + 5 * q) 5).toInt) → ∀ (f k : Nat) (g : Nat → Int32) (a b : Int32) (y : Option Value), k + f = (layN ((st.1 (95 + 5 * q) 5).toInt)).toNat → a.toInt = (bestG (stB st q i F) k).1 → b.toInt = ((bestG (stB st q i F) k).2 : Int) → G xp l xe (rmd (4)) xs xm xa xb xme xc D cy xad xA (YX0_bestLaying.2.1, YX0_bestLaying.1.cls, YX0_bestLaying.2.2.1, YX0_bestLaying.2.2.2) (Pi (fun (r : Int32) (u : St) => (∃ g, u = sR st 26 g) ∧ r.toInt = (bestG (stB st q i F) (layN ((st.1 (95 + 5 * q) 5).toInt)).toNat).1)) 23 ([some (.ref 24), some (.ref (95 + 5 * q)), some (.ref (83 + 3 * i)), some (.int a), some (.int b), some (.int z), some (.int (nI k)), y]) ([]) (sR st 26 g) := by
    intro z hz f
    induction f with
    | zero =>
      intro k g a b y hk9 ha hb9
      refine g_ild6 eX0_bestLaying_23 ?_
      refine g_ild5 eX0_bestLaying_25 ?_
      refine g_icmp_ge eX0_bestLaying_27 (fun hb => ?_) (fun hb => ?_)
      · refine g_ild3 eX0_bestLaying_68 ?_
        refine g_iret rfl eX0_bestLaying_69 ⟨_, rfl, ?_⟩
        try dsimp only
        refine ⟨⟨g, rfl⟩, ?_⟩
        rw [show (layN ((st.1 (95 + 5 * q) 5).toInt)).toNat = k by omega]
        exact ha
      · rw [fa_le, nI_toInt (by omega)] at hb
        exfalso
        omega
    | succ f ih =>
      intro k g a b y hk9 ha hb9
      have hpop := pop_le k
      refine g_ild6 eX0_bestLaying_23 ?_
      refine g_ild5 eX0_bestLaying_25 ?_
      refine g_icmp_ge eX0_bestLaying_27 (fun hb => ?_) (fun hb => ?_)
      · rw [fa_le, nI_toInt (by omega)] at hb
        exfalso
        omega
      · refine g_ild6 eX0_bestLaying_30 ?_
        refine g_callSi (m_bitCount _ (nI k)) cs_X0_60 eX0_bestLaying_32 ⟨Nat.le_of_ble_eq_true rfl, Nat.le_of_ble_eq_true rfl⟩ rfl rfl (Nat.le_of_ble_eq_true rfl) (fun r u2 hr => ?_)
        obtain ⟨rfl, rfl⟩ := hr
        rw [bc_pop (by omega)]
        refine g_ist7 rfl (Nat.le_of_ble_eq_true rfl) eX0_bestLaying_35 ?_
        refine g_ild7 eX0_bestLaying_37 ?_
        refine g_ild4 eX0_bestLaying_39 ?_
        refine g_icmp_ge eX0_bestLaying_41 (fun h41 => ?_) (fun h41 => ?_)
        · rw [fa_le, nI_toInt (by omega), hb9] at h41
          refine g_inc6 rfl (Nat.le_of_ble_eq_true rfl) rfl eX0_bestLaying_62 ?_
          refine g_goto eX0_bestLaying_65 ?_
          rw [inc1]
          have e : bestG (stB st q i F) (k + 1) = bestG (stB st q i F) k := if_neg (fun h => by have := h.1; omega)
          exact ih (k + 1) g a b _ (by omega) (by rw [e]; exact ha) (by rw [e]; exact hb9)
        · rw [fa_le, nI_toInt (by omega), hb9] at h41
          refine g_ald0 eX0_bestLaying_44 ?_
          refine g_ald1 eX0_bestLaying_45 ?_
          refine g_ald2 eX0_bestLaying_46 ?_
          refine g_ild6 eX0_bestLaying_47 ?_
          refine g_callVi (ci := 0) (m_staysAfloat _ hq hi (key_sR (by decide) hk) (by rw [sR_ne (by decide)]; exact ht) (by rw [sR_ne (by decide)]; exact pg_sR (by decide) hp) (nI k) (by rw [nI_toInt (by omega)]; omega)) (by first | rfl | exact kd_key hi | exact kd_sh hi | exact kd_ya hi | exact kd_pr hq | exact kd_pk hq | exact kd_pf hq | exact kd_ps hq | exact kd_po hq | exact kd_pr hq2 | exact kd_pk hq2 | exact kd_pf hq2 | exact kd_ps hq2 | exact kd_po hq2) (by first | decide | (unfold N0; omega)) (Nat.le_of_ble_eq_true rfl) rfl cv_X0_65 eX0_bestLaying_49 ⟨Nat.le_of_ble_eq_true rfl, Nat.le_of_ble_eq_true rfl⟩ rfl rfl (Nat.le_of_ble_eq_true rfl) (fun r u2 hr => ?_)
          obtain ⟨⟨g2, rfl⟩, rfl⟩ := hr
          rw [sR_sR, gK_sR (by decide), gA_sR (by decide), gB_sR (by decide), sR_hi (by decide) (show 83 ≤ 95 + 5 * q by omega), sR_hi (by decide) (show 83 ≤ 83 + 3 * i by omega), sR_ne (show 24 ≠ 26 by decide), hF, nI_toInt (by omega)]
          refine g_if_eq eX0_bestLaying_52 (fun h52 => ?_) (fun h52 => ?_)
          · rw [b2_eq0] at h52
            refine g_inc6 rfl (Nat.le_of_ble_eq_true rfl) rfl eX0_bestLaying_62 ?_
            refine g_goto eX0_bestLaying_65 ?_
            rw [inc1]
            have e : bestG (stB st q i F) (k + 1) = bestG (stB st q i F) k := if_neg (fun h => h52 (of_decide_eq_true h.2))
            exact ih (k + 1) g2 a b _ (by omega) (by rw [e]; exact ha) (by rw [e]; exact hb9)
          · rw [b2_ne0] at h52
            refine g_ild6 eX0_bestLaying_55 ?_
            refine g_ist3 rfl (Nat.le_of_ble_eq_true rfl) eX0_bestLaying_57 ?_
            refine g_ild7 eX0_bestLaying_58 ?_
            refine g_ist4 rfl (Nat.le_of_ble_eq_true rfl) eX0_bestLaying_60 ?_
            refine g_inc6 rfl (Nat.le_of_ble_eq_true rfl) rfl eX0_bestLaying_62 ?_
            refine g_goto eX0_bestLaying_65 ?_
            rw [inc1]
            have e : bestG (stB st q i F) (k + 1) = ((k : Int), popN k) := if_pos ⟨by omega, decide_eq_true h52⟩
            exact ih (k + 1) g2 _ _ _ (by omega) (by rw [e, nI_toInt (by omega)]) (by rw [e, nI_toInt (by omega)])
  refine g_bipush (v := (-2)) (by decide) eX0_bestLaying_0 ?_
  refine g_ist3 rfl (Nat.le_of_ble_eq_true rfl) eX0_bestLaying_2 ?_
  refine g_bipush (v := 13) (by decide) eX0_bestLaying_3 ?_
  refine g_ist4 rfl (Nat.le_of_ble_eq_true rfl) eX0_bestLaying_5 ?_
  refine g_iconst (v := 1) (by decide) eX0_bestLaying_7 ?_
  refine g_ald1 eX0_bestLaying_8 ?_
  refine g_getI (ci := 6) (j := 5) (by first | rfl | exact kd_key hi | exact kd_sh hi | exact kd_ya hi | exact kd_pr hq | exact kd_pk hq | exact kd_pf hq | exact kd_ps hq | exact kd_po hq | exact kd_pr hq2 | exact kd_pk hq2 | exact kd_pf hq2 | exact kd_ps hq2 | exact kd_po hq2) (by first | decide | (unfold N0; omega)) (Nat.le_of_ble_eq_true rfl) (Nat.le_of_ble_eq_true rfl) rfl fl_X0_43 eX0_bestLaying_9 ?_
  refine g_bipush (v := 12) (by decide) eX0_bestLaying_12 ?_
  refine g_imin mw_X0_54 ⟨Nat.le_of_ble_eq_true rfl, Nat.le_of_ble_eq_true rfl⟩ (Nat.le_of_ble_eq_true rfl) eX0_bestLaying_14 ?_
  refine g_ishl eX0_bestLaying_17 ?_
  generalize ((1 : Int32) <<< ((if (12 : Int32) < st.1 (95 + 5 * q) 5 then 12 else st.1 (95 + 5 * q) 5) &&& 31)) = z at hsh ⊢
  refine g_ist5 rfl (Nat.le_of_ble_eq_true rfl) eX0_bestLaying_18 ?_
  refine g_iconst (v := 0) (by decide) eX0_bestLaying_20 ?_
  refine g_ist6 rfl (Nat.le_of_ble_eq_true rfl) eX0_bestLaying_21 ?_
  have go := loop z hsh (layN ((st.1 (95 + 5 * q) 5).toInt)).toNat 0 (st.1 26) (-2) 13 none (by omega) rfl rfl
  rw [sR_same] at go
  exact go
def wkC (K A B : Nat → Int) (m0 : Int) (s : Nat → Int) (n : Nat) : Int := workF (K n) (s (A n).toNat) (if K n = 4 ∨ K n = 5 then B n else s (B n).toNat) m0
def wkB (K A B : Nat → Int) (s : Nat → Int) (n : Nat) : Int := boundF (K n) (s (A n).toNat) (if K n = 4 ∨ K n = 5 then B n else s (B n).toNat)
def putN (s : Nat → Int) (n : Nat) (x : Int) : Nat → Int := fun j => if j = n then x else s j
/-- C's and bounds behind n works of a sealed run; none where one to be made anew is drowned -/
noncomputable def rnF (K A B : Nat → Int) (p q b t lay : Int) (seed : Int32) (s : (Nat → Int) × (Nat → Int)) : Nat → Option ((Nat → Int) × (Nat → Int))
  | 0 => some s
  | n + 1 => match rnF K A B p q b t lay seed s n with
    | none => none
    | some r =>
      if laidF lay n then
        if p ≤ 2 * wkB K A B r.2 n then none
        else some (putN r.1 n (freshF p q b t (noiseF (wkC K A B (p * q) r.1 n) p % t) (seed + nI (10 * n))), putN r.2 n (t * b + t - 1))
      else some (putN r.1 n (wkC K A B (p * q) r.1 n), putN r.2 n (wkB K A B r.2 n))
theorem rnF_none {K A B : Nat → Int} {p q b t lay : Int} {seed : Int32} {s : (Nat → Int) × (Nat → Int)} {n : Nat} (h : rnF K A B p q b t lay seed s n = none) : ∀ m, rnF K A B p q b t lay seed s (n + m) = none
  | 0 => h
  | m + 1 => by
    show (match rnF K A B p q b t lay seed s (n + m) with | none => none | some r => _) = none
    rw [rnF_none h m]
theorem s2_25 (st : St) (f g : Nat → Int32) (n : Nat) (x : Int32) : sI (sR (sR st 25 f) 26 g) 25 n x = sR (sR st 25 (upd f n x)) 26 g := by
  rw [sR_comm st (by decide), sI_sR, sR_comm st (by decide)]
theorem upd_int (f : Nat → Int32) (s : Nat → Int) (n : Nat) (x : Int32) (z : Int) (hx : x.toInt = z) (h : ∀ j, (f j).toInt = s j) : ∀ j, (upd f n x j).toInt = putN s n z j := by
  intro j
  unfold upd putN
  split
  · exact hx
  · exact h j
set_option maxHeartbeats 16000000 in
theorem m_runs (st : St) {q : Nat} (hq : q < 4) {i : Nat} (hi : i < 4) (hk : keyAt st i) (ht : tOK (st.1 24 0)) (hp : pgOK (st.1 24 0).toInt st q) (x seed : Int32) (hx : 0 ≤ x.toInt) (hbd : ∀ j : Nat, 40 ≤ j → j < 46 → (j : Int) < 40 + (st.1 (95 + 5 * q) 4).toInt → 0 ≤ (st.1 26 j).toInt ∧ (st.1 26 j).toInt ≤ 1000000) : Mi l D cy 3 YX0_runs [.ref 24, .ref (95 + 5 * q), .ref (83 + 3 * i), .int x, .int seed] st (fun r u => ∃ f g, u = sR (sR st 25 f) 26 g ∧ match rnF (gK st q) (gA st q) (gB st q) (st.1 (83 + 3 * i) 0).toInt (st.1 (83 + 3 * i) 1).toInt (st.1 (83 + 3 * i) 2).toInt (st.1 24 0).toInt x.toInt seed (fun j => (st.1 25 j).toInt, fun j => (st.1 26 j).toInt) ((st.1 (95 + 5 * q) 5).toInt).toNat with | none => r = 0 | some s => r = 1 ∧ (∀ j, (f j).toInt = s.1 j) ∧ (∀ j, (g j).toInt = s.2 j) ∧ ∀ j : Nat, ((j : Int) < (st.1 (95 + 5 * q) 5).toInt ∨ (40 ≤ j ∧ (j : Int) < 40 + (st.1 (95 + 5 * q) 4).toInt)) → 0 ≤ s.2 j ∧ s.2 j ≤ 1000000) := by
  have hw := hp.1
  have hw2 := hp.2.1
  have hin := hp.2.2.1
  have hin2 := hp.2.2.2.1
  have htb := tb_rng ht hk.2.2.2.2
  have hpq := pq_rng hk
  refine M.ofG [some (.ref 24), some (.ref (95 + 5 * q)), some (.ref (83 + 3 * i)), some (.int x), some (.int seed), none] (by decide) (Nat.le_of_ble_eq_true rfl) rfl ?_
  intro xp xe xs xm xa xb xme xc xad xA
  generalize hR : rnF (gK st q) (gA st q) (gB st q) (st.1 (83 + 3 * i) 0).toInt (st.1 (83 + 3 * i) 1).toInt (st.1 (83 + 3 * i) 2).toInt (st.1 24 0).toInt x.toInt seed (fun j => (st.1 25 j).toInt, fun j => (st.1 26 j).toInt) = RR
  have loop : ∀ (f9 k : Nat) (f g : Nat → Int32) (s0 : (Nat → Int) × (Nat → Int)), k + f9 = ((st.1 (95 + 5 * q) 5).toInt).toNat → RR k = some s0 → (∀ j, (f j).toInt = s0.1 j) → (∀ j, (g j).toInt = s0.2 j) → (∀ j : Nat, (j < k ∨ (40 ≤ j ∧ (j : Int) < 40 + (st.1 (95 + 5 * q) 4).toInt)) → 0 ≤ s0.2 j ∧ s0.2 j ≤ 1000000) → G xp l xe (rmd 3) xs xm xa xb xme xc D cy xad xA (YX0_runs.2.1, YX0_runs.1.cls, YX0_runs.2.2.1, YX0_runs.2.2.2) (Pi (fun (r : Int32) (u : St) => ∃ f g, u = sR (sR st 25 f) 26 g ∧ match RR ((st.1 (95 + 5 * q) 5).toInt).toNat with | none => r = 0 | some s => r = 1 ∧ (∀ j, (f j).toInt = s.1 j) ∧ (∀ j, (g j).toInt = s.2 j) ∧ ∀ j : Nat, ((j : Int) < (st.1 (95 + 5 * q) 5).toInt ∨ (40 ≤ j ∧ (j : Int) < 40 + (st.1 (95 + 5 * q) 4).toInt)) → 0 ≤ s.2 j ∧ s.2 j ≤ 1000000)) 3 [some (.ref 24), some (.ref (95 + 5 * q)), some (.ref (83 + 3 * i)), some (.int x), some (.int seed), some (.int (nI k))] [] (sR (sR st 25 f) 26 g) := by
    intro f9
    induction f9 with
    | zero =>
      intro k f g s0 hk9 hs hf hg hb9
      refine g_ild5 eX0_runs_3 ?_
      refine g_ald1 eX0_runs_5 ?_
      refine g_getI (ci := 6) (j := 5) (by first | rfl | exact kd_key hi | exact kd_sh hi | exact kd_ya hi | exact kd_pr hq | exact kd_pk hq | exact kd_pf hq | exact kd_ps hq | exact kd_po hq | exact kd_pr hq2 | exact kd_pk hq2 | exact kd_pf hq2 | exact kd_ps hq2 | exact kd_po hq2) (by first | decide | (unfold N0; omega)) (Nat.le_of_ble_eq_true rfl) (Nat.le_of_ble_eq_true rfl) rfl fl_X0_43 eX0_runs_6 ?_
      rw [sR_hi (by decide) (show 83 ≤ 95 + 5 * q by omega), sR_hi (by decide) (show 83 ≤ 95 + 5 * q by omega)]
      refine g_icmp_ge eX0_runs_9 (fun hb => ?_) (fun hb => ?_)
      · refine g_iconst (v := 1) (by decide) eX0_runs_134 ?_
        refine g_zret (ty := .boolean) rfl (by first | rfl | assumption) eX0_runs_135 ⟨_, rfl, ?_⟩
        try dsimp only
        refine ⟨f, g, rfl, ?_⟩
        rw [show ((st.1 (95 + 5 * q) 5).toInt).toNat = k by omega, hs]
        exact ⟨rfl, hf, hg, fun j hj => hb9 j (by omega)⟩
      · rw [fa_le, nI_toInt (by omega)] at hb
        exfalso
        omega
    | succ f9 ih =>
      intro k f g s0 hk9 hs hf hg hb9
      have e24 : ∀ f g, (sR (sR st 25 f) 26 g).1 24 = st.1 24 := fun f g => by rw [sR_ne (by decide), sR_ne (by decide)]
      have e25 : ∀ f g, (sR (sR st 25 f) 26 g).1 25 = f := fun f g => by rw [sR_ne (by decide), sR_at]
      have ehi : ∀ f g a, 83 ≤ a → (sR (sR st 25 f) 26 g).1 a = st.1 a := fun f g a ha => by rw [sR_hi (by decide) ha, sR_hi (by decide) ha]
      obtain ⟨i1, i2, i3⟩ := pg_in hp (w := k) (by omega)
      obtain ⟨w1, w2, w3, w4, -⟩ := hp.2.2.2.2.2.2.1 k (by omega)
      have w3' : (gA st q k).toNat < k ∨ (40 ≤ (gA st q k).toNat ∧ ((gA st q k).toNat : Int) < 40 + (st.1 (95 + 5 * q) 4).toInt) := by
        show ((st.1 (97 + 5 * q) k).toInt).toNat < k ∨ _
        unfold gA
        rcases w3 with h | h
        · left; omega
        · right; omega
      have rA := hb9 _ w3'
      refine g_ild5 eX0_runs_3 ?_
      refine g_ald1 eX0_runs_5 ?_
      refine g_getI (ci := 6) (j := 5) (by first | rfl | exact kd_key hi | exact kd_sh hi | exact kd_ya hi | exact kd_pr hq | exact kd_pk hq | exact kd_pf hq | exact kd_ps hq | exact kd_po hq | exact kd_pr hq2 | exact kd_pk hq2 | exact kd_pf hq2 | exact kd_ps hq2 | exact kd_po hq2) (by first | decide | (unfold N0; omega)) (Nat.le_of_ble_eq_true rfl) (Nat.le_of_ble_eq_true rfl) rfl fl_X0_43 eX0_runs_6 ?_
      rw [ehi f g _ (show 83 ≤ 95 + 5 * q by omega)]
      refine g_icmp_ge eX0_runs_9 (fun hb => ?_) (fun hb => ?_)
      · rw [fa_le, nI_toInt (by omega)] at hb
        exfalso
        omega
      · refine g_ald0 eX0_runs_12 ?_
        refine g_getR (ci := 0) (j := 1) (by first | rfl | exact kd_key hi | exact kd_sh hi | exact kd_ya hi | exact kd_pr hq | exact kd_pk hq | exact kd_pf hq | exact kd_ps hq | exact kd_po hq | exact kd_pr hq2 | exact kd_pk hq2 | exact kd_pf hq2 | exact kd_ps hq2 | exact kd_po hq2) (by first | decide | (unfold N0; omega)) (Nat.le_of_ble_eq_true rfl) (Nat.le_of_ble_eq_true rfl) rfl (by first | rfl | exact r_key4 hi | exact r_sh0 hi | exact r_p0 hq | exact r_p1 hq | exact r_p2 hq | exact r_p3 hq | exact r_p0 hq2 | exact r_p1 hq2 | exact r_p2 hq2 | exact r_p3 hq2) fl_X0_11 eX0_runs_13 ?_
        refine g_ild5 eX0_runs_16 ?_
        refine g_ald1 eX0_runs_18 ?_
        refine g_ild5 eX0_runs_19 ?_
        refine g_ald0 eX0_runs_21 ?_
        refine g_getR (ci := 0) (j := 1) (by first | rfl | exact kd_key hi | exact kd_sh hi | exact kd_ya hi | exact kd_pr hq | exact kd_pk hq | exact kd_pf hq | exact kd_ps hq | exact kd_po hq | exact kd_pr hq2 | exact kd_pk hq2 | exact kd_pf hq2 | exact kd_ps hq2 | exact kd_po hq2) (by first | decide | (unfold N0; omega)) (Nat.le_of_ble_eq_true rfl) (Nat.le_of_ble_eq_true rfl) rfl (by first | rfl | exact r_key4 hi | exact r_sh0 hi | exact r_p0 hq | exact r_p1 hq | exact r_p2 hq | exact r_p3 hq | exact r_p0 hq2 | exact r_p1 hq2 | exact r_p2 hq2 | exact r_p3 hq2) fl_X0_11 eX0_runs_22 ?_
        refine g_ald2 eX0_runs_25 ?_
        refine g_callVi (ci := 2) (m_modulus _ hi (key_sR (by decide) (key_sR (by decide) hk))) (by first | rfl | exact kd_key hi | exact kd_sh hi | exact kd_ya hi | exact kd_pr hq | exact kd_pk hq | exact kd_pf hq | exact kd_ps hq | exact kd_po hq | exact kd_pr hq2 | exact kd_pk hq2 | exact kd_pf hq2 | exact kd_ps hq2 | exact kd_po hq2) (by first | decide | (unfold N0; omega)) (Nat.le_of_ble_eq_true rfl) rfl cv_X0_69 eX0_runs_26 ⟨Nat.le_of_ble_eq_true rfl, Nat.le_of_ble_eq_true rfl⟩ rfl rfl (Nat.le_of_ble_eq_true rfl) (fun mo u1 hmo => ?_)
        obtain ⟨rfl, hmo⟩ := hmo
        rw [ehi f g _ (show 83 ≤ 83 + 3 * i by omega)] at hmo
        refine g_callVi (ci := 6) (m_resultOf _ hq k i1 (by rw [ehi f g _ (by omega)]; exact i2) (by rw [ehi f g _ (by omega), ehi f g _ (by omega)]; exact i3) mo (by omega)) (by first | rfl | exact kd_key hi | exact kd_sh hi | exact kd_ya hi | exact kd_pr hq | exact kd_pk hq | exact kd_pf hq | exact kd_ps hq | exact kd_po hq | exact kd_pr hq2 | exact kd_pk hq2 | exact kd_pf hq2 | exact kd_ps hq2 | exact kd_po hq2) (by first | decide | (unfold N0; omega)) (Nat.le_of_ble_eq_true rfl) rfl cv_X0_73 eX0_runs_29 ⟨Nat.le_of_ble_eq_true rfl, Nat.le_of_ble_eq_true rfl⟩ rfl rfl (Nat.le_of_ble_eq_true rfl) (fun r u2 hr => ?_)
        obtain ⟨rfl, hr⟩ := hr
        unfold secF at hr
        rw [ehi f g _ (show 83 ≤ 96 + 5 * q by omega), ehi f g _ (show 83 ≤ 97 + 5 * q by omega), ehi f g _ (show 83 ≤ 98 + 5 * q by omega), e25, hmo] at hr
        have hrC : r.toInt = wkC (gK st q) (gA st q) (gB st q) ((st.1 (83 + 3 * i) 0).toInt * (st.1 (83 + 3 * i) 1).toInt) s0.1 k := by
          rw [hr]
          unfold wkC
          rw [hf]
          congr 1
          by_cases hh : gK st q k = 4 ∨ gK st q k = 5
          · exact (if_pos hh).trans (if_pos hh).symm
          · refine (if_neg hh).trans (Eq.trans (hf _) (if_neg hh).symm)
        refine g_iast (by first | rfl | exact kd_key hi | exact kd_sh hi | exact kd_ya hi | exact kd_pr hq | exact kd_pk hq | exact kd_pf hq | exact kd_ps hq | exact kd_po hq | exact kd_pr hq2 | exact kd_pk hq2 | exact kd_pf hq2 | exact kd_ps hq2 | exact kd_po hq2) (by first | decide | (unfold N0; omega)) (vp_in_nI (n := k) (N := 46) (by omega) (by decide)) eX0_runs_32 ?_
        refine g_ald0 eX0_runs_33 ?_
        refine g_getR (ci := 0) (j := 2) (by first | rfl | exact kd_key hi | exact kd_sh hi | exact kd_ya hi | exact kd_pr hq | exact kd_pk hq | exact kd_pf hq | exact kd_ps hq | exact kd_po hq | exact kd_pr hq2 | exact kd_pk hq2 | exact kd_pf hq2 | exact kd_ps hq2 | exact kd_po hq2) (by first | decide | (unfold N0; omega)) (Nat.le_of_ble_eq_true rfl) (Nat.le_of_ble_eq_true rfl) rfl (by first | rfl | exact r_key4 hi | exact r_sh0 hi | exact r_p0 hq | exact r_p1 hq | exact r_p2 hq | exact r_p3 hq | exact r_p0 hq2 | exact r_p1 hq2 | exact r_p2 hq2 | exact r_p3 hq2) fl_X0_17 eX0_runs_34 ?_
        refine g_ild5 eX0_runs_37 ?_
        refine g_ald1 eX0_runs_39 ?_
        refine g_ild5 eX0_runs_40 ?_
        refine g_ald0 eX0_runs_42 ?_
        refine g_getR (ci := 0) (j := 2) (by first | rfl | exact kd_key hi | exact kd_sh hi | exact kd_ya hi | exact kd_pr hq | exact kd_pk hq | exact kd_pf hq | exact kd_ps hq | exact kd_po hq | exact kd_pr hq2 | exact kd_pk hq2 | exact kd_pf hq2 | exact kd_ps hq2 | exact kd_po hq2) (by first | decide | (unfold N0; omega)) (Nat.le_of_ble_eq_true rfl) (Nat.le_of_ble_eq_true rfl) rfl (by first | rfl | exact r_key4 hi | exact r_sh0 hi | exact r_p0 hq | exact r_p1 hq | exact r_p2 hq | exact r_p3 hq | exact r_p0 hq2 | exact r_p1 hq2 | exact r_p2 hq2 | exact r_p3 hq2) fl_X0_17 eX0_runs_43 ?_
        rw [nI_clamp (by omega), s2_25]
        have hf2 := upd_int f s0.1 k r _ hrC hf
        generalize hfu : upd f k r = f2 at hf2 ⊢
        refine g_callVi (ci := 6) (m_boundOf _ hq k i1 (by rw [ehi f2 g _ (by omega)]; exact i2) (by rw [ehi f2 g _ (by omega), ehi f2 g _ (by omega)]; exact i3) (by rw [sR_at, ehi f2 g _ (show 83 ≤ 97 + 5 * q by omega), hg]; exact rA.1)) (by first | rfl | exact kd_key hi | exact kd_sh hi | exact kd_ya hi | exact kd_pr hq | exact kd_pk hq | exact kd_pf hq | exact kd_ps hq | exact kd_po hq | exact kd_pr hq2 | exact kd_pk hq2 | exact kd_pf hq2 | exact kd_ps hq2 | exact kd_po hq2) (by first | decide | (unfold N0; omega)) (Nat.le_of_ble_eq_true rfl) rfl cv_X0_46 eX0_runs_46 ⟨Nat.le_of_ble_eq_true rfl, Nat.le_of_ble_eq_true rfl⟩ rfl rfl (Nat.le_of_ble_eq_true rfl) (fun d u2 hd => ?_)
        obtain ⟨rfl, hd⟩ := hd
        unfold secF at hd
        rw [ehi f2 g _ (show 83 ≤ 96 + 5 * q by omega), ehi f2 g _ (show 83 ≤ 97 + 5 * q by omega), ehi f2 g _ (show 83 ≤ 98 + 5 * q by omega), sR_at] at hd
        have hdB : d.toInt = wkB (gK st q) (gA st q) (gB st q) s0.2 k := by
          rw [hd]
          unfold wkB
          rw [hg]
          congr 1
          by_cases hh : gK st q k = 4 ∨ gK st q k = 5
          · exact (if_pos hh).trans (if_pos hh).symm
          · refine (if_neg hh).trans (Eq.trans (hg _) (if_neg hh).symm)
        have hdr : 0 ≤ d.toInt ∧ d.toInt ≤ 1000000 := by
          rw [hdB]
          exact bound_rng _ _ _ rA.1
        refine g_iast (by first | rfl | exact kd_key hi | exact kd_sh hi | exact kd_ya hi | exact kd_pr hq | exact kd_pk hq | exact kd_pf hq | exact kd_ps hq | exact kd_po hq | exact kd_pr hq2 | exact kd_pk hq2 | exact kd_pf hq2 | exact kd_ps hq2 | exact kd_po hq2) (by first | decide | (unfold N0; omega)) (vp_in_nI (n := k) (N := 46) (by omega) (by decide)) eX0_runs_49 ?_
        refine g_ild3 eX0_runs_50 ?_
        refine g_ild5 eX0_runs_51 ?_
        rw [nI_clamp (by omega), sI_sR]
        have hg2 := upd_int g s0.2 k d _ hdB hg
        have hgk : upd g k d k = d := pk_us
        generalize hgu : upd g k d = g2 at hg2 hgk ⊢
        have hfk : f2 k = r := by rw [← hfu]; exact pk_us
        have step : RR (k + 1) = if laidF x.toInt k then (if (st.1 (83 + 3 * i) 0).toInt ≤ 2 * wkB (gK st q) (gA st q) (gB st q) s0.2 k then none else some (putN s0.1 k (freshF (st.1 (83 + 3 * i) 0).toInt (st.1 (83 + 3 * i) 1).toInt (st.1 (83 + 3 * i) 2).toInt (st.1 24 0).toInt (noiseF (wkC (gK st q) (gA st q) (gB st q) ((st.1 (83 + 3 * i) 0).toInt * (st.1 (83 + 3 * i) 1).toInt) s0.1 k) (st.1 (83 + 3 * i) 0).toInt % (st.1 24 0).toInt) (seed + nI (10 * k))), putN s0.2 k ((st.1 24 0).toInt * (st.1 (83 + 3 * i) 2).toInt + (st.1 24 0).toInt - 1))) else some (putN s0.1 k (wkC (gK st q) (gA st q) (gB st q) ((st.1 (83 + 3 * i) 0).toInt * (st.1 (83 + 3 * i) 1).toInt) s0.1 k), putN s0.2 k (wkB (gK st q) (gA st q) (gB st q) s0.2 k)) := by
          rw [← hR] at hs ⊢
          show (match rnF (gK st q) (gA st q) (gB st q) (st.1 (83 + 3 * i) 0).toInt (st.1 (83 + 3 * i) 1).toInt (st.1 (83 + 3 * i) 2).toInt (st.1 24 0).toInt x.toInt seed (fun j => (st.1 25 j).toInt, fun j => (st.1 26 j).toInt) k with | none => none | some r => _) = _
          rw [hs]
        refine g_callSi (m_isLaid _ x hx k i1) cs_X0_50 eX0_runs_53 ⟨Nat.le_of_ble_eq_true rfl, Nat.le_of_ble_eq_true rfl⟩ rfl rfl (Nat.le_of_ble_eq_true rfl) (fun lz u3 hlz => ?_)
        obtain ⟨rfl, rfl⟩ := hlz
        refine g_if_eq eX0_runs_56 (fun hl => ?_) (fun hl => ?_)
        · rw [b2_eq0] at hl
          rw [if_neg hl] at step
          refine g_inc5 rfl (Nat.le_of_ble_eq_true rfl) rfl eX0_runs_128 ?_
          refine g_goto eX0_runs_131 ?_
          rw [inc1]
          refine ih (k + 1) f2 g2 _ (by omega) step hf2 hg2 (fun j hj => ?_)
          show 0 ≤ putN s0.2 k _ j ∧ putN s0.2 k _ j ≤ 1000000
          unfold putN
          split
          · rw [← hdB]; exact hdr
          · exact hb9 j (by omega)
        · rw [b2_ne0] at hl
          rw [if_pos hl] at step
          refine g_ald2 eX0_runs_59 ?_
          refine g_ald0 eX0_runs_60 ?_
          refine g_getR (ci := 0) (j := 2) (by first | rfl | exact kd_key hi | exact kd_sh hi | exact kd_ya hi | exact kd_pr hq | exact kd_pk hq | exact kd_pf hq | exact kd_ps hq | exact kd_po hq | exact kd_pr hq2 | exact kd_pk hq2 | exact kd_pf hq2 | exact kd_ps hq2 | exact kd_po hq2) (by first | decide | (unfold N0; omega)) (Nat.le_of_ble_eq_true rfl) (Nat.le_of_ble_eq_true rfl) rfl (by first | rfl | exact r_key4 hi | exact r_sh0 hi | exact r_p0 hq | exact r_p1 hq | exact r_p2 hq | exact r_p3 hq | exact r_p0 hq2 | exact r_p1 hq2 | exact r_p2 hq2 | exact r_p3 hq2) fl_X0_17 eX0_runs_61 ?_
          refine g_ild5 eX0_runs_64 ?_
          refine g_iald (by first | rfl | exact kd_key hi | exact kd_sh hi | exact kd_ya hi | exact kd_pr hq | exact kd_pk hq | exact kd_pf hq | exact kd_ps hq | exact kd_po hq | exact kd_pr hq2 | exact kd_pk hq2 | exact kd_pf hq2 | exact kd_ps hq2 | exact kd_po hq2) (by first | decide | (unfold N0; omega)) (vp_in_nI (n := k) (N := 46) (by omega) (by decide)) eX0_runs_66 ?_
          rw [sR_at, nI_clamp (by omega), hgk]
          refine g_callVi (ci := 2) (m_drowns _ hi d hdr) (by first | rfl | exact kd_key hi | exact kd_sh hi | exact kd_ya hi | exact kd_pr hq | exact kd_pk hq | exact kd_pf hq | exact kd_ps hq | exact kd_po hq | exact kd_pr hq2 | exact kd_pk hq2 | exact kd_pf hq2 | exact kd_ps hq2 | exact kd_po hq2) (by first | decide | (unfold N0; omega)) (Nat.le_of_ble_eq_true rfl) rfl cv_X0_36 eX0_runs_67 ⟨Nat.le_of_ble_eq_true rfl, Nat.le_of_ble_eq_true rfl⟩ rfl rfl (Nat.le_of_ble_eq_true rfl) (fun dz u3 hdz => ?_)
          obtain ⟨rfl, rfl⟩ := hdz
          rw [ehi f2 g2 _ (show 83 ≤ 83 + 3 * i by omega), hdB]
          refine g_if_eq eX0_runs_70 (fun hdd => ?_) (fun hdd => ?_)
          · rw [b2_eq0] at hdd
            rw [if_neg hdd] at step
            refine g_ald0 eX0_runs_75 ?_
            refine g_getR (ci := 0) (j := 1) (by first | rfl | exact kd_key hi | exact kd_sh hi | exact kd_ya hi | exact kd_pr hq | exact kd_pk hq | exact kd_pf hq | exact kd_ps hq | exact kd_po hq | exact kd_pr hq2 | exact kd_pk hq2 | exact kd_pf hq2 | exact kd_ps hq2 | exact kd_po hq2) (by first | decide | (unfold N0; omega)) (Nat.le_of_ble_eq_true rfl) (Nat.le_of_ble_eq_true rfl) rfl (by first | rfl | exact r_key4 hi | exact r_sh0 hi | exact r_p0 hq | exact r_p1 hq | exact r_p2 hq | exact r_p3 hq | exact r_p0 hq2 | exact r_p1 hq2 | exact r_p2 hq2 | exact r_p3 hq2) fl_X0_11 eX0_runs_76 ?_
            refine g_ild5 eX0_runs_79 ?_
            refine g_ald2 eX0_runs_81 ?_
            refine g_ald0 eX0_runs_82 ?_
            refine g_getI (ci := 0) (j := 0) (by first | rfl | exact kd_key hi | exact kd_sh hi | exact kd_ya hi | exact kd_pr hq | exact kd_pk hq | exact kd_pf hq | exact kd_ps hq | exact kd_po hq | exact kd_pr hq2 | exact kd_pk hq2 | exact kd_pf hq2 | exact kd_ps hq2 | exact kd_po hq2) (by first | decide | (unfold N0; omega)) (Nat.le_of_ble_eq_true rfl) (Nat.le_of_ble_eq_true rfl) rfl fl_X0_23 eX0_runs_83 ?_
            refine g_ald2 eX0_runs_86 ?_
            refine g_ald0 eX0_runs_87 ?_
            refine g_getR (ci := 0) (j := 1) (by first | rfl | exact kd_key hi | exact kd_sh hi | exact kd_ya hi | exact kd_pr hq | exact kd_pk hq | exact kd_pf hq | exact kd_ps hq | exact kd_po hq | exact kd_pr hq2 | exact kd_pk hq2 | exact kd_pf hq2 | exact kd_ps hq2 | exact kd_po hq2) (by first | decide | (unfold N0; omega)) (Nat.le_of_ble_eq_true rfl) (Nat.le_of_ble_eq_true rfl) rfl (by first | rfl | exact r_key4 hi | exact r_sh0 hi | exact r_p0 hq | exact r_p1 hq | exact r_p2 hq | exact r_p3 hq | exact r_p0 hq2 | exact r_p1 hq2 | exact r_p2 hq2 | exact r_p3 hq2) fl_X0_11 eX0_runs_88 ?_
            refine g_ild5 eX0_runs_91 ?_
            refine g_iald (by first | rfl | exact kd_key hi | exact kd_sh hi | exact kd_ya hi | exact kd_pr hq | exact kd_pk hq | exact kd_pf hq | exact kd_ps hq | exact kd_po hq | exact kd_pr hq2 | exact kd_pk hq2 | exact kd_pf hq2 | exact kd_ps hq2 | exact kd_po hq2) (by first | decide | (unfold N0; omega)) (vp_in_nI (n := k) (N := 46) (by omega) (by decide)) eX0_runs_93 ?_
            refine g_ald0 eX0_runs_94 ?_
            refine g_getI (ci := 0) (j := 0) (by first | rfl | exact kd_key hi | exact kd_sh hi | exact kd_ya hi | exact kd_pr hq | exact kd_pk hq | exact kd_pf hq | exact kd_ps hq | exact kd_po hq | exact kd_pr hq2 | exact kd_pk hq2 | exact kd_pf hq2 | exact kd_ps hq2 | exact kd_po hq2) (by first | decide | (unfold N0; omega)) (Nat.le_of_ble_eq_true rfl) (Nat.le_of_ble_eq_true rfl) rfl fl_X0_23 eX0_runs_95 ?_
            rw [e24, e25, nI_clamp (by omega), hfk]
            refine g_callVi (ci := 2) (m_openedOf _ hi (key_sR (by decide) (key_sR (by decide) hk)) r _ ht) (by first | rfl | exact kd_key hi | exact kd_sh hi | exact kd_ya hi | exact kd_pr hq | exact kd_pk hq | exact kd_pf hq | exact kd_ps hq | exact kd_po hq | exact kd_pr hq2 | exact kd_pk hq2 | exact kd_pf hq2 | exact kd_ps hq2 | exact kd_po hq2) (by first | decide | (unfold N0; omega)) (Nat.le_of_ble_eq_true rfl) rfl cv_X0_77 eX0_runs_98 ⟨Nat.le_of_ble_eq_true rfl, Nat.le_of_ble_eq_true rfl⟩ rfl rfl (Nat.le_of_ble_eq_true rfl) (fun op u3 hop => ?_)
            obtain ⟨rfl, hop⟩ := hop
            rw [ehi f2 g2 _ (show 83 ≤ 83 + 3 * i by omega), hrC] at hop
            have hopr : 0 ≤ op.toInt ∧ op.toInt < 13 := by
              rw [hop]
              have h1 := Int.emod_nonneg (noiseF (wkC (gK st q) (gA st q) (gB st q) ((st.1 (83 + 3 * i) 0).toInt * (st.1 (83 + 3 * i) 1).toInt) s0.1 k) (st.1 (83 + 3 * i) 0).toInt) (b := (st.1 24 0).toInt) (by omega)
              have h2 := Int.emod_lt_of_pos (noiseF (wkC (gK st q) (gA st q) (gB st q) ((st.1 (83 + 3 * i) 0).toInt * (st.1 (83 + 3 * i) 1).toInt) s0.1 k) (st.1 (83 + 3 * i) 0).toInt) (b := (st.1 24 0).toInt) (by omega)
              omega
            refine g_ild4 eX0_runs_101 ?_
            refine g_bipush (v := 10) (by decide) eX0_runs_103 ?_
            refine g_ild5 eX0_runs_105 ?_
            refine g_imul eX0_runs_107 ?_
            refine g_iadd eX0_runs_108 ?_
            rw [show (10 : Int32) * nI k = nI (10 * k) from pk_mul 10 k]
            refine g_callVi (ci := 2) (m_freshC _ hi (key_sR (by decide) (key_sR (by decide) hk)) _ op _ ht hopr) (by first | rfl | exact kd_key hi | exact kd_sh hi | exact kd_ya hi | exact kd_pr hq | exact kd_pk hq | exact kd_pf hq | exact kd_ps hq | exact kd_po hq | exact kd_pr hq2 | exact kd_pk hq2 | exact kd_pf hq2 | exact kd_ps hq2 | exact kd_po hq2) (by first | decide | (unfold N0; omega)) (Nat.le_of_ble_eq_true rfl) rfl cv_X0_80 eX0_runs_109 ⟨Nat.le_of_ble_eq_true rfl, Nat.le_of_ble_eq_true rfl⟩ rfl rfl (Nat.le_of_ble_eq_true rfl) (fun fc u3 hfc => ?_)
            obtain ⟨rfl, hfc⟩ := hfc
            rw [ehi f2 g2 _ (show 83 ≤ 83 + 3 * i by omega), hop] at hfc
            refine g_iast (by first | rfl | exact kd_key hi | exact kd_sh hi | exact kd_ya hi | exact kd_pr hq | exact kd_pk hq | exact kd_pf hq | exact kd_ps hq | exact kd_po hq | exact kd_pr hq2 | exact kd_pk hq2 | exact kd_pf hq2 | exact kd_ps hq2 | exact kd_po hq2) (by first | decide | (unfold N0; omega)) (vp_in_nI (n := k) (N := 46) (by omega) (by decide)) eX0_runs_112 ?_
            refine g_ald0 eX0_runs_113 ?_
            refine g_getR (ci := 0) (j := 2) (by first | rfl | exact kd_key hi | exact kd_sh hi | exact kd_ya hi | exact kd_pr hq | exact kd_pk hq | exact kd_pf hq | exact kd_ps hq | exact kd_po hq | exact kd_pr hq2 | exact kd_pk hq2 | exact kd_pf hq2 | exact kd_ps hq2 | exact kd_po hq2) (by first | decide | (unfold N0; omega)) (Nat.le_of_ble_eq_true rfl) (Nat.le_of_ble_eq_true rfl) rfl (by first | rfl | exact r_key4 hi | exact r_sh0 hi | exact r_p0 hq | exact r_p1 hq | exact r_p2 hq | exact r_p3 hq | exact r_p0 hq2 | exact r_p1 hq2 | exact r_p2 hq2 | exact r_p3 hq2) fl_X0_17 eX0_runs_114 ?_
            refine g_ild5 eX0_runs_117 ?_
            refine g_ald2 eX0_runs_119 ?_
            refine g_ald0 eX0_runs_120 ?_
            refine g_getI (ci := 0) (j := 0) (by first | rfl | exact kd_key hi | exact kd_sh hi | exact kd_ya hi | exact kd_pr hq | exact kd_pk hq | exact kd_pf hq | exact kd_ps hq | exact kd_po hq | exact kd_pr hq2 | exact kd_pk hq2 | exact kd_pf hq2 | exact kd_ps hq2 | exact kd_po hq2) (by first | decide | (unfold N0; omega)) (Nat.le_of_ble_eq_true rfl) (Nat.le_of_ble_eq_true rfl) rfl fl_X0_23 eX0_runs_121 ?_
            rw [nI_clamp (by omega), s2_25, e24]
            have hf3 := upd_int f2 _ k fc _ hfc hf2
            generalize upd f2 k fc = f3 at hf3 ⊢
            refine g_callVi (ci := 2) (m_freshBound _ hi (key_sR (by decide) (key_sR (by decide) hk)) _ ht) (by first | rfl | exact kd_key hi | exact kd_sh hi | exact kd_ya hi | exact kd_pr hq | exact kd_pk hq | exact kd_pf hq | exact kd_ps hq | exact kd_po hq | exact kd_pr hq2 | exact kd_pk hq2 | exact kd_pf hq2 | exact kd_ps hq2 | exact kd_po hq2) (by first | decide | (unfold N0; omega)) (Nat.le_of_ble_eq_true rfl) rfl cv_X0_27 eX0_runs_124 ⟨Nat.le_of_ble_eq_true rfl, Nat.le_of_ble_eq_true rfl⟩ rfl rfl (Nat.le_of_ble_eq_true rfl) (fun fb u3 hfb => ?_)
            obtain ⟨rfl, hfb⟩ := hfb
            rw [ehi f3 g2 _ (show 83 ≤ 83 + 3 * i by omega)] at hfb
            refine g_iast (by first | rfl | exact kd_key hi | exact kd_sh hi | exact kd_ya hi | exact kd_pr hq | exact kd_pk hq | exact kd_pf hq | exact kd_ps hq | exact kd_po hq | exact kd_pr hq2 | exact kd_pk hq2 | exact kd_pf hq2 | exact kd_ps hq2 | exact kd_po hq2) (by first | decide | (unfold N0; omega)) (vp_in_nI (n := k) (N := 46) (by omega) (by decide)) eX0_runs_127 ?_
            refine g_inc5 rfl (Nat.le_of_ble_eq_true rfl) rfl eX0_runs_128 ?_
            refine g_goto eX0_runs_131 ?_
            rw [nI_clamp (by omega), sI_sR, inc1]
            have hg3 := upd_int g2 _ k fb _ hfb hg2
            refine ih (k + 1) f3 _ _ (by omega) step (fun j => ?_) (fun j => ?_) (fun j hj => ?_)
            · rw [hf3 j]
              show putN (putN s0.1 k _) k _ j = putN s0.1 k _ j
              unfold putN
              split <;> rfl
            · rw [hg3 j]
              show putN (putN s0.2 k _) k _ j = putN s0.2 k _ j
              unfold putN
              split <;> rfl
            · show 0 ≤ putN s0.2 k _ j ∧ putN s0.2 k _ j ≤ 1000000
              unfold putN
              split
              · omega
              · exact hb9 j (by omega)
          · rw [b2_ne0] at hdd
            rw [if_pos hdd] at step
            refine g_iconst (v := 0) (by decide) eX0_runs_73 ?_
            refine g_zret (ty := .boolean) rfl (by first | rfl | assumption) eX0_runs_74 ⟨_, rfl, ?_⟩
            try dsimp only
            refine ⟨f2, g2, rfl, ?_⟩
            have hn : RR ((st.1 (95 + 5 * q) 5).toInt).toNat = none := by
              rw [← hR] at step ⊢
              have h9 := rnF_none step f9
              rw [show k + 1 + f9 = ((st.1 (95 + 5 * q) 5).toInt).toNat by omega] at h9
              exact h9
            rw [hn]
  refine g_iconst (v := 0) (by decide) eX0_runs_0 ?_
  refine g_ist5 rfl (Nat.le_of_ble_eq_true rfl) eX0_runs_1 ?_
  have go := loop ((st.1 (95 + 5 * q) 5).toInt).toNat 0 (st.1 25) (st.1 26) _ (by omega) (by rw [← hR]; rfl) (fun _ => rfl) (fun _ => rfl) (fun j hj => hbd j (by omega) (by omega) (by omega))
  rw [sR_same, sR_same] at go
  exact go
end DESK3
