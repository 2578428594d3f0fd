/-! SealedSums: run, the walk -/
section CLSG
variable {l : Launch} {D : va_G} {cy : Nat → ClassId}
theorem s2_row {st : St} {f g : Nat → Int32} {a : Nat} (h1 : a ≠ 25) (h2 : a ≠ 26) : (sR (sR st 25 f) 26 g).1 a = st.1 a := by rw [sR_ne h2, sR_ne h1]
theorem s2_s2 (st : St) (f g f2 g2 : Nat → Int32) : sR (sR (sR (sR st 25 f) 26 g) 25 f2) 26 g2 = sR (sR st 25 f2) 26 g2 := by
  rw [sR_comm (sR st 25 f) (by decide) g f2, sR_sR, sR_sR]
theorem s2_f {st : St} {f g : Nat → Int32} : (sR (sR st 25 f) 26 g).1 25 = f := by rw [sR_ne (by decide), sR_at]
theorem s2_g {st : St} {f g : Nat → Int32} : (sR (sR st 25 f) 26 g).1 26 = g := by rw [sR_at]
theorem s2_26 (st : St) (f g : Nat → Int32) (n : Nat) (x : Int32) : sI (sR (sR st 25 f) 26 g) 26 n x = sR (sR st 25 f) 26 (upd g n x) := sI_sR _ _ _ _ _
def runOKx (st : St) (np n : Nat) (x k : Int32) : Prop := ((isS np x ∧ 0 ≤ k.toInt ∧ k.toInt < layN ((st.1 (95 + 5 * (qI x)) 5).toInt)) ∧ givOK (xgv st) (xkof st) ((st.1 (95 + 5 * (qI x)) 4).toInt).toNat) ∧ alvX st (xkof st (xgv st 0).toNat) ∧ n + ((st.1 (95 + 5 * (qI x)) 6).toInt).toNat ≤ 60
noncomputable def xrun (st : St) (i q : Nat) (lay : Int) (seed : Int32) : Option ((Nat → Int) × (Nat → Int)) := rnF (gK st q) (gA st q) (gB st q) (kP st i) (kQ st i) (kB st i) (st.1 0 0).toInt lay seed (inSl (xcof st) (xgv st), inSl (xbof st) (xgv st)) ((st.1 (95 + 5 * q) 5).toInt).toNat
def runPx (st : St) (np n : Nat) (x k seed : Int32) (r : Int32) (u : St) : Prop :=
  (runOKx st np n x k → match xrun st (xkof st (xgv st 0).toNat).toNat (qI x) k.toInt seed with
    | none => r = -2 ∧ ∃ f g, u = sR (sR st 25 f) 26 g
    | some s => r = nI n ∧ ∃ f g, addR (sR (sR st 25 f) 26 g) n (nI (xkof st (xgv st 0).toNat).toNat) (outC (kP st (xkof st (xgv st 0).toNat).toNat) (kQ st (xkof st (xgv st 0).toNat).toNat) (kB st (xkof st (xgv st 0).toNat).toNat) (st.1 0 0).toInt seed (gU st (qI x)) s.1) (outB (fB st (xkof st (xgv st 0).toNat).toNat) (gU st (qI x)) s.2) ((st.1 (95 + 5 * (qI x)) 6).toInt).toNat u) ∧
  (¬ runOKx st np n x k → r = -1 ∧ u = st)
theorem addR_cong {st : St} {n : Nat} {key : Int32} {C C2 Bd B2 : Nat → Int} : ∀ {k : Nat} {u : St}, (∀ j, j < k → C j = C2 j ∧ Bd j = B2 j) → addR st n key C Bd k u → addR st n key C2 B2 k u
  | 0, _, _, h => h
  | k + 1, u, he, h => by
    obtain ⟨u0, h0, c, b, h1, h2, h3⟩ := h
    exact ⟨u0, addR_cong (fun j hj => he j (by omega)) h0, c, b, by rw [h1]; exact (he k (by omega)).1, by rw [h2]; exact (he k (by omega)).2, h3⟩
theorem b2_of {P Q : Prop} [Decidable P] [Decidable Q] (h : P ↔ Q) : b2 P = b2 Q := by
  unfold b2
  by_cases hp : P
  · rw [if_pos hp, if_pos (h.mp hp)]
  · rw [if_neg hp, if_neg (fun q => hp (h.mpr q))]
theorem fB_rngX {st : St} {i : Nat} (ho : keyAt st i) (ht : tOK (st.1 0 0)) : 0 ≤ fB st i ∧ fB st i ≤ 1000000 := by
  have h := tb_rng (t := (st.1 0 0).toInt) (b := (st.1 (83 + 3 * i) 2).toInt) ht ⟨ho.2.2.2.2.1, ho.2.2.2.2.2⟩
  have := ht.1
  have := ht.2
  unfold fB
  omega
set_option maxHeartbeats 8000000 in
theorem m_run (st : St) {nk n : Nat} (hx : xOK st nk n) (hgv : ∀ i, i < 6 → xgv st i = -1 ∨ (0 ≤ xgv st i ∧ xgv st i < (n : Int))) {np : Nat} (hp : pOK st np) (x k seed : Int32) : Mi l D cy 6 YX11_run [.ref 0, .int x, .int k, .int seed] st (runPx st np n x k seed) := by
  have hx9 := hx
  have hp0 := hp
  obtain ⟨x1, x2, x3, x4, x5, x6, x7, x8⟩ := hx
  obtain ⟨p1, p2, p3, p4, p5⟩ := hp
  have hkc : (st.1 0 7).toInt = nk := by rw [x1, nI_toInt (by omega)]
  refine M.ofG [some (.ref 0), some (.int x), some (.int k), some (.int seed), none, none, none, none] (by decide) (Nat.le_of_ble_eq_true rfl) rfl ?_
  intro xp xe xs xm xa xb xme xc xad xA
  refine g_ald0 eX11_run_0 ?_
  refine g_ild1 eX11_run_1 ?_
  refine g_ild2 eX11_run_2 ?_
  refine g_callVi (ci := 10) (m_hasLaying _ hp0 x k) (by first | rfl | exact kd_key hi | exact kd_sh hi | exact kd_ya hi | exact kd_pr hq | exact kd_pk hq | exact kd_pf hq | exact kd_ps hq | exact kd_po hq | exact kd_pr hq2 | exact kd_pk hq2 | exact kd_pf hq2 | exact kd_ps hq2 | exact kd_po hq2) (by first | decide | (unfold N0; omega)) (Nat.le_of_ble_eq_true rfl) rfl cv_X11_228 eX11_run_3 ⟨Nat.le_of_ble_eq_true rfl, Nat.le_of_ble_eq_true rfl⟩ rfl rfl (Nat.le_of_ble_eq_true rfl) (fun r st h => ?_)
  obtain ⟨rfl, rfl⟩ := h
  refine g_if_ne eX11_run_6 (fun hb => ?_) (fun hb => ?_)
  · rw [b2_ne0] at hb
    have hC := hb
    obtain ⟨q, hq9, rfl⟩ := as_nI hb.1
    have hq : q < 4 := by omega
    have e : qI (nI q) = q := nI_clamp (by omega)
    rw [e] at hb
    have hg := p5 q hq9
    have hgi := hg.2.2.1
    have hgi2 := hg.2.2.2.1
    have hgo := hg.2.2.2.2.1
    have hgo2 := hg.2.2.2.2.2.1
    obtain ⟨ins, hins⟩ : ∃ m : Nat, m = ((st.1 (95 + 5 * q) 4).toInt).toNat := ⟨_, rfl⟩
    obtain ⟨outs, houts⟩ : ∃ m : Nat, m = ((st.1 (95 + 5 * q) 6).toInt).toNat := ⟨_, rfl⟩
    have e4 : st.1 (95 + 5 * q) 4 = nI ins := by rw [fa_eq, nI_toInt (by omega)]; omega
    have e6 : st.1 (95 + 5 * q) 6 = nI outs := by rw [fa_eq, nI_toInt (by omega)]; omega
    have bad : ∀ (y5 : Option Value), ¬ runOKx st np n (nI q) k → G xp l xe (rmd (6)) xs xm xa xb xme xc D cy xad xA (YX11_run.2.1, YX11_run.1.cls, YX11_run.2.2.1, YX11_run.2.2.2) (Pi (runPx st np n (nI q) k seed)) 54 ([some (.ref 0), some (.int (nI q)), some (.int k), some (.int seed), some (.ref (95 + 5 * q)), y5, none, none]) ([]) (st) := by
      intro y5 hb
      refine g_iconst (v := (-1)) (by decide) eX11_run_54 ?_
      refine g_iret rfl eX11_run_55 ⟨_, rfl, ?_⟩
      try dsimp only
      exact ⟨fun h => absurd h hb, fun _ => ⟨rfl, rfl⟩⟩
    refine g_ald0 eX11_run_11 ?_
    refine g_getR (ci := 10) (j := 9) (by first | rfl | exact kd_key hi | exact kd_sh hi | exact kd_ya hi | exact kd_pr hq | exact kd_pk hq | exact kd_pf hq | exact kd_ps hq | exact kd_po hq | exact kd_pr hq2 | exact kd_pk hq2 | exact kd_pf hq2 | exact kd_ps hq2 | exact kd_po hq2) (by first | decide | (unfold N0; omega)) (Nat.le_of_ble_eq_true rfl) (Nat.le_of_ble_eq_true rfl) rfl (by first | rfl | exact r_key4 hi | exact r_sh0 hi | exact r_p0 hq | exact r_p1 hq | exact r_p2 hq | exact r_p3 hq | exact r_p0 hq2 | exact r_p1 hq2 | exact r_p2 hq2 | exact r_p3 hq2) fl_X11_45 eX11_run_12 ?_
    refine g_ild1 eX11_run_15 ?_
    refine g_aald (by decide) (Nat.le_of_ble_eq_true rfl) (progIx hq).1 (progIx hq).2 eX11_run_16 ?_
    refine g_ast4 rfl (Nat.le_of_ble_eq_true rfl) eX11_run_17 ?_
    refine g_ald0 eX11_run_19 ?_
    refine g_ald4 eX11_run_20 ?_
    refine g_getI (ci := 6) (j := 4) (by first | rfl | exact kd_key hi | exact kd_sh hi | exact kd_ya hi | exact kd_pr hq | exact kd_pk hq | exact kd_pf hq | exact kd_ps hq | exact kd_po hq | exact kd_pr hq2 | exact kd_pk hq2 | exact kd_pf hq2 | exact kd_ps hq2 | exact kd_po hq2) (by first | decide | (unfold N0; omega)) (Nat.le_of_ble_eq_true rfl) (Nat.le_of_ble_eq_true rfl) rfl fl_X11_245 eX11_run_22 ?_
    rw [e4]
    refine g_callVi (ci := 10) (m_keyOfGivenIns _ hx9 hgv ins (by omega)) (by first | rfl | exact kd_key hi | exact kd_sh hi | exact kd_ya hi | exact kd_pr hq | exact kd_pk hq | exact kd_pf hq | exact kd_ps hq | exact kd_po hq | exact kd_pr hq2 | exact kd_pk hq2 | exact kd_pf hq2 | exact kd_ps hq2 | exact kd_po hq2) (by first | decide | (unfold N0; omega)) (Nat.le_of_ble_eq_true rfl) rfl cv_X11_248 eX11_run_25 ⟨Nat.le_of_ble_eq_true rfl, Nat.le_of_ble_eq_true rfl⟩ rfl rfl (Nat.le_of_ble_eq_true rfl) (fun key st h => ?_)
    obtain ⟨rfl, hk1, hk2⟩ := h
    refine g_ist5 rfl (Nat.le_of_ble_eq_true rfl) eX11_run_28 ?_
    refine g_ald0 eX11_run_30 ?_
    refine g_ild5 eX11_run_31 ?_
    refine g_callVi (ci := 10) (m_isAlive _ key (by rw [hkc]; omega)) (by first | rfl | exact kd_key hi | exact kd_sh hi | exact kd_ya hi | exact kd_pr hq | exact kd_pk hq | exact kd_pf hq | exact kd_ps hq | exact kd_po hq | exact kd_pr hq2 | exact kd_pk hq2 | exact kd_pf hq2 | exact kd_ps hq2 | exact kd_po hq2) (by first | decide | (unfold N0; omega)) (Nat.le_of_ble_eq_true rfl) rfl cv_X11_136 eX11_run_33 ⟨Nat.le_of_ble_eq_true rfl, Nat.le_of_ble_eq_true rfl⟩ rfl rfl (Nat.le_of_ble_eq_true rfl) (fun r st h => ?_)
    obtain ⟨rfl, rfl⟩ := h
    by_cases hG : givOK (xgv st) (xkof st) ins
    · have hkey := hk1 hG
      have hv0 : 0 ≤ xgv st 0 ∧ xgv st 0 < (n : Int) := by
        rcases hgv 0 (by decide) with h | h
        · have := (hG.2 0 hG.1).1; omega
        · exact h
      obtain ⟨i, hik, hi9⟩ := x7 (xgv st 0).toNat (by omega)
      have hxk : xkof st (xgv st 0).toNat = i := by unfold xkof; rw [hi9, nI_toInt (by omega)]
      have hkn : key = nI i := by rw [fa_eq, hkey, hxk, nI_toInt (by omega)]
      subst hkn
      have hi : i < 4 := by omega
      refine g_if_eq eX11_run_36 (fun hb2 => ?_) (fun hb2 => ?_)
      · rw [b2_eq0, nI_toInt (by omega)] at hb2
        exact bad _ (fun h => hb2 (by have := h.2.1; rw [hxk] at this; exact this))
      · rw [b2_ne0, nI_toInt (by omega)] at hb2
        refine g_ald0 eX11_run_39 ?_
        refine g_getR (ci := 10) (j := 8) (by first | rfl | exact kd_key hi | exact kd_sh hi | exact kd_ya hi | exact kd_pr hq | exact kd_pk hq | exact kd_pf hq | exact kd_ps hq | exact kd_po hq | exact kd_pr hq2 | exact kd_pk hq2 | exact kd_pf hq2 | exact kd_ps hq2 | exact kd_po hq2) (by first | decide | (unfold N0; omega)) (Nat.le_of_ble_eq_true rfl) (Nat.le_of_ble_eq_true rfl) rfl (by first | rfl | exact r_key4 hi | exact r_sh0 hi | exact r_p0 hq | exact r_p1 hq | exact r_p2 hq | exact r_p3 hq | exact r_p0 hq2 | exact r_p1 hq2 | exact r_p2 hq2 | exact r_p3 hq2) fl_X11_39 eX11_run_40 ?_
        refine g_ald4 eX11_run_43 ?_
        refine g_getI (ci := 6) (j := 6) (by first | rfl | exact kd_key hi | exact kd_sh hi | exact kd_ya hi | exact kd_pr hq | exact kd_pk hq | exact kd_pf hq | exact kd_ps hq | exact kd_po hq | exact kd_pr hq2 | exact kd_pk hq2 | exact kd_pf hq2 | exact kd_ps hq2 | exact kd_po hq2) (by first | decide | (unfold N0; omega)) (Nat.le_of_ble_eq_true rfl) (Nat.le_of_ble_eq_true rfl) rfl fl_X11_251 eX11_run_45 ?_
        refine g_callVi (ci := 7) (m_hasRoomFor _ _ (by rw [x3, nI_toInt (by omega)]; omega) (by omega)) (by first | rfl | exact kd_key hi | exact kd_sh hi | exact kd_ya hi | exact kd_pr hq | exact kd_pk hq | exact kd_pf hq | exact kd_ps hq | exact kd_po hq | exact kd_pr hq2 | exact kd_pk hq2 | exact kd_pf hq2 | exact kd_ps hq2 | exact kd_po hq2) (by first | decide | (unfold N0; omega)) (Nat.le_of_ble_eq_true rfl) rfl cv_X11_254 eX11_run_48 ⟨Nat.le_of_ble_eq_true rfl, Nat.le_of_ble_eq_true rfl⟩ rfl rfl (Nat.le_of_ble_eq_true rfl) (fun r st h => ?_)
        obtain ⟨rfl, rfl⟩ := h
        refine g_if_ne eX11_run_51 (fun hb3 => ?_) (fun hb3 => ?_)
        · rw [b2_ne0, x3, nI_toInt (by omega)] at hb3
          have hroom : n + outs ≤ 60 := by omega
          have hOK : runOKx st np n (nI q) k := ⟨⟨hC, by rw [e, ← hins]; exact hG⟩, by rw [hxk]; exact hb2, by rw [e, ← houts]; exact hroom⟩
          -- behind the ins
          have tail : ∀ f g : Nat → Int32, (∀ j, j < ins → (f (40 + j)).toInt = xcof st (xgv st j).toNat ∧ (g (40 + j)).toInt = xbof st (xgv st j).toNat) → G xp l xe (rmd (6)) xs xm xa xb xme xc D cy xad xA (YX11_run.2.1, YX11_run.1.cls, YX11_run.2.2.1, YX11_run.2.2.2) (Pi (runPx st np n (nI q) k seed)) 114 ([some (.ref 0), some (.int (nI q)), some (.int k), some (.int seed), some (.ref (95 + 5 * q)), some (.int (nI i)), some (.int (nI ins)), none]) ([]) (sR (sR st 25 f) 26 g) := by
            intro f g hfg
            have hrow : ∀ a, a ≠ 25 → a ≠ 26 → (sR (sR st 25 f) 26 g).1 a = st.1 a := fun a h1 h2 => s2_row h1 h2
            have hky : keyAt (sR (sR st 25 f) 26 g) i := key_sR (by decide) (key_sR (by decide) (x6 i hik))
            have ht24 : (sR (sR st 25 f) 26 g).1 24 0 = st.1 0 0 := by rw [hrow 24 (by decide) (by decide)]; exact p4
            have hpg : pgOK ((sR (sR st 25 f) 26 g).1 24 0).toInt (sR (sR st 25 f) 26 g) q := by rw [ht24]; exact pg_sR (by decide) (pg_sR (by decide) hg)
            refine g_ald0 eX11_run_114 ?_
            refine g_getR (ci := 10) (j := 12) (by first | rfl | exact kd_key hi | exact kd_sh hi | exact kd_ya hi | exact kd_pr hq | exact kd_pk hq | exact kd_pf hq | exact kd_ps hq | exact kd_po hq | exact kd_pr hq2 | exact kd_pk hq2 | exact kd_pf hq2 | exact kd_ps hq2 | exact kd_po hq2) (by first | decide | (unfold N0; omega)) (Nat.le_of_ble_eq_true rfl) (Nat.le_of_ble_eq_true rfl) rfl (by first | rfl | exact r_key4 hi | exact r_sh0 hi | exact r_p0 hq | exact r_p1 hq | exact r_p2 hq | exact r_p3 hq | exact r_p0 hq2 | exact r_p1 hq2 | exact r_p2 hq2 | exact r_p3 hq2) fl_X11_87 eX11_run_115 ?_
            refine g_ald4 eX11_run_118 ?_
            refine g_ald0 eX11_run_120 ?_
            refine g_getR (ci := 10) (j := 6) (by first | rfl | exact kd_key hi | exact kd_sh hi | exact kd_ya hi | exact kd_pr hq | exact kd_pk hq | exact kd_pf hq | exact kd_ps hq | exact kd_po hq | exact kd_pr hq2 | exact kd_pk hq2 | exact kd_pf hq2 | exact kd_ps hq2 | exact kd_po hq2) (by first | decide | (unfold N0; omega)) (Nat.le_of_ble_eq_true rfl) (Nat.le_of_ble_eq_true rfl) rfl (by first | rfl | exact r_key4 hi | exact r_sh0 hi | exact r_p0 hq | exact r_p1 hq | exact r_p2 hq | exact r_p3 hq | exact r_p0 hq2 | exact r_p1 hq2 | exact r_p2 hq2 | exact r_p3 hq2) fl_X11_29 eX11_run_121 ?_
            refine g_ild5 eX11_run_124 ?_
            refine g_aald (by decide) (Nat.le_of_ble_eq_true rfl) (keyIx hi).1 (keyIx hi).2 eX11_run_126 ?_
            refine g_ild2 eX11_run_127 ?_
            refine g_ild3 eX11_run_128 ?_
            refine g_callVi (ci := 0) (m_runs _ hq hi hky (by rw [ht24]; exact x5) hpg k seed hb.2.1 (fun j hj1 hj2 hj3 => ?_)) (by first | rfl | exact kd_key hi | exact kd_sh hi | exact kd_ya hi | exact kd_pr hq | exact kd_pk hq | exact kd_pf hq | exact kd_ps hq | exact kd_po hq | exact kd_pr hq2 | exact kd_pk hq2 | exact kd_pf hq2 | exact kd_ps hq2 | exact kd_po hq2) (by first | decide | (unfold N0; omega)) (Nat.le_of_ble_eq_true rfl) rfl cv_X11_260 eX11_run_129 ⟨Nat.le_of_ble_eq_true rfl, Nat.le_of_ble_eq_true rfl⟩ rfl rfl (Nat.le_of_ble_eq_true rfl) (fun r u h => ?_)
            · rw [hrow _ (by omega) (by omega)] at hj3
              obtain ⟨m, rfl⟩ : ∃ m, j = 40 + m := ⟨j - 40, by omega⟩
              have hm : m < ins := by omega
              rw [s2_g, (hfg m hm).2]
              have h9 := (hG.2 m hm).1
              have h8 := (hgv m (by omega)).resolve_left (fun q => by omega)
              exact x8 _ (by omega)
            · obtain ⟨f2, g2, rfl, h⟩ := h
              rw [s2_s2]
              rw [ht24, gK_sR (by decide), gK_sR (by decide), gA_sR (by decide), gA_sR (by decide), gB_sR (by decide), gB_sR (by decide), hrow (83 + 3 * i) (by omega) (by omega), hrow (95 + 5 * q) (by omega) (by omega), s2_f, s2_g] at h
              have hcg := rnF_cong (K := gK st q) (A := gA st q) (B := gB st q) (p := kP st i) (q := kQ st i) (b := kB st i) (t := (st.1 0 0).toInt) (lay := k.toInt) (seed := seed) (s := (fun j => (f j).toInt, fun j => (g j).toInt)) (s2 := (inSl (xcof st) (xgv st), inSl (xbof st) (xgv st))) (pg_wks hg) (fun j h1 h2 => by
                obtain ⟨m, rfl⟩ : ∃ m, j = 40 + m := ⟨j - 40, by omega⟩
                have hm := hfg m (by omega)
                show (f (40 + m)).toInt = inSl (xcof st) (xgv st) (40 + m) ∧ (g (40 + m)).toInt = inSl (xbof st) (xgv st) (40 + m)
                unfold inSl
                rw [if_neg (by omega), if_neg (by omega), show 40 + m - 40 = m by omega]
                exact hm) ((st.1 (95 + 5 * q) 5).toInt).toNat (Nat.le_refl _)
              rcases hcg with ⟨c1, c2⟩ | ⟨s1, s2, c1, c2, c3⟩
              · rw [c1] at h
                simp only at h
                subst h
                refine g_if_ne eX11_run_132 (fun hb4 => ?_) (fun hb4 => ?_)
                · exact absurd rfl hb4
                · refine g_bipush (v := (-2)) (by decide) eX11_run_135 ?_
                  refine g_iret rfl eX11_run_137 ⟨_, rfl, ?_⟩
                  try dsimp only
                  refine ⟨fun _ => ?_, fun h => absurd hOK h⟩
                  rw [hxk, e, Int.toNat_natCast]
                  unfold xrun
                  rw [c2]
                  exact ⟨rfl, _, _, rfl⟩
              · rw [c1] at h
                simp only at h
                obtain ⟨rfl, hf2, hg2, hbb⟩ := h
                have hrow2 : ∀ a, a ≠ 25 → a ≠ 26 → (sR (sR st 25 f2) 26 g2).1 a = st.1 a := fun a h1 h2 => s2_row h1 h2
                have hxs : xOK (sR (sR st 25 f2) 26 g2) nk n := xOK_sR (xOK_sR hx9 f2 (by decide) (by decide)) g2 (by decide) (by decide)
                have hU : ∀ m, m < outs → cOK ((st.1 (95 + 5 * q) 5).toInt) ((st.1 (95 + 5 * q) 4).toInt) ((st.1 (99 + 5 * q) m).toInt) ∨ (-(st.1 0 0).toInt ≤ (st.1 (99 + 5 * q) m).toInt ∧ (st.1 (99 + 5 * q) m).toInt < 0) := fun m hm => hg.2.2.2.2.2.2.2 m (by omega)
                have hBd : ∀ m, m < outs → 0 ≤ outB (fB st i) (gU st q) s1.2 m ∧ outB (fB st i) (gU st q) s1.2 m ≤ 1000000 := by
                  intro m hm
                  unfold outB
                  by_cases hU0 : gU st q m < 0
                  · rw [if_pos hU0]; exact fB_rngX (x6 i hik) x5
                  · rw [if_neg hU0]
                    refine hbb _ ?_
                    have h9 := hU m hm
                    unfold cOK at h9
                    have h8 : gU st q m = (st.1 (99 + 5 * q) m).toInt := rfl
                    have := hg.1
                    omega
                have oloop : ∀ (d a : Nat) (u : St), a + d = outs → addR (sR (sR st 25 f2) 26 g2) n (nI i) (outC (kP st i) (kQ st i) (kB st i) (st.1 0 0).toInt seed (gU st q) s1.1) (outB (fB st i) (gU st q) s1.2) a u → G xp l xe (rmd (6)) xs xm xa xb xme xc D cy xad xA (YX11_run.2.1, YX11_run.1.cls, YX11_run.2.2.1, YX11_run.2.2.2) (Pi (runPx st np n (nI q) k seed)) 150 ([some (.ref 0), some (.int (nI q)), some (.int k), some (.int seed), some (.ref (95 + 5 * q)), some (.int (nI i)), some (.int (nI n)), some (.int (nI a))]) ([]) (u) := by
                  intro d
                  induction d with
                  | zero =>
                    intro a u had hR
                    obtain ⟨k1, k2, k3⟩ := addR_keeps hxs hik hroom hBd (by omega) hR
                    refine g_ild7 eX11_run_150 ?_
                    refine g_ald4 eX11_run_152 ?_
                    refine g_getI (ci := 6) (j := 6) (by first | rfl | exact kd_key hi | exact kd_sh hi | exact kd_ya hi | exact kd_pr hq | exact kd_pk hq | exact kd_pf hq | exact kd_ps hq | exact kd_po hq | exact kd_pr hq2 | exact kd_pk hq2 | exact kd_pf hq2 | exact kd_ps hq2 | exact kd_po hq2) (by first | decide | (unfold N0; omega)) (Nat.le_of_ble_eq_true rfl) (Nat.le_of_ble_eq_true rfl) rfl fl_X11_251 eX11_run_154 ?_
                    rw [k2 (95 + 5 * q) (by omega) (by omega) (by omega) (by omega) (by omega), hrow2 (95 + 5 * q) (by omega) (by omega), e6]
                    refine g_icmp_ge eX11_run_157 (fun hb5 => ?_) (fun hb5 => ?_)
                    · refine g_ild6 eX11_run_188 ?_
                      refine g_iret rfl eX11_run_190 ⟨_, rfl, ?_⟩
                      try dsimp only
                      refine ⟨fun _ => ?_, fun h => absurd hOK h⟩
                      rw [hxk, e, Int.toNat_natCast]
                      unfold xrun
                      rw [c2, ← houts]
                      refine ⟨rfl, f2, g2, ?_⟩
                      have ha : a = outs := by omega
                      subst ha
                      refine addR_cong (fun m hm => ?_) hR
                      have h9 := hU m hm
                      unfold cOK at h9
                      have h8 : gU st q m = (st.1 (99 + 5 * q) m).toInt := rfl
                      unfold outC outB
                      by_cases hU0 : gU st q m < 0
                      · rw [if_pos hU0, if_pos hU0, if_pos hU0, if_pos hU0]; exact ⟨rfl, rfl⟩
                      · rw [if_neg hU0, if_neg hU0, if_neg hU0, if_neg hU0]
                        refine c3 _ ?_
                        have := hg.1
                        omega
                    · exact absurd (nI_le (by omega) (by omega)) hb5
                  | succ d ih =>
                    intro a u had hR
                    obtain ⟨k1, k2, k3⟩ := addR_keeps hxs hik hroom hBd (by omega) hR
                    have kr : ∀ z, z ≠ 18 → z ≠ 19 → z ≠ 20 → z ≠ 21 → z ≠ 17 → z ≠ 25 → z ≠ 26 → u.1 z = st.1 z := fun z q1 q2 q3 q4 q5 q6 q7 => by rw [k2 z q1 q2 q3 q4 q5, hrow2 z q6 q7]
                    have ka : (nI a).toNatClampNeg = a := nI_clamp (by omega)
                    refine g_ild7 eX11_run_150 ?_
                    refine g_ald4 eX11_run_152 ?_
                    refine g_getI (ci := 6) (j := 6) (by first | rfl | exact kd_key hi | exact kd_sh hi | exact kd_ya hi | exact kd_pr hq | exact kd_pk hq | exact kd_pf hq | exact kd_ps hq | exact kd_po hq | exact kd_pr hq2 | exact kd_pk hq2 | exact kd_pf hq2 | exact kd_ps hq2 | exact kd_po hq2) (by first | decide | (unfold N0; omega)) (Nat.le_of_ble_eq_true rfl) (Nat.le_of_ble_eq_true rfl) rfl fl_X11_251 eX11_run_154 ?_
                    rw [kr (95 + 5 * q) (by omega) (by omega) (by omega) (by omega) (by omega) (by omega) (by omega), e6]
                    refine g_icmp_ge eX11_run_157 (fun hb5 => ?_) (fun hb5 => ?_)
                    · exact absurd hb5 (nI_ge (by omega) (by omega))
                    · refine g_ald0 eX11_run_160 ?_
                      refine g_ild5 eX11_run_161 ?_
                      refine g_ald4 eX11_run_163 ?_
                      refine g_getR (ci := 6) (j := 3) (by first | rfl | exact kd_key hi | exact kd_sh hi | exact kd_ya hi | exact kd_pr hq | exact kd_pk hq | exact kd_pf hq | exact kd_ps hq | exact kd_po hq | exact kd_pr hq2 | exact kd_pk hq2 | exact kd_pf hq2 | exact kd_ps hq2 | exact kd_po hq2) (by first | decide | (unfold N0; omega)) (Nat.le_of_ble_eq_true rfl) (Nat.le_of_ble_eq_true rfl) rfl (by first | rfl | exact r_key4 hi | exact r_sh0 hi | exact r_p0 hq | exact r_p1 hq | exact r_p2 hq | exact r_p3 hq | exact r_p0 hq2 | exact r_p1 hq2 | exact r_p2 hq2 | exact r_p3 hq2) fl_X11_225 eX11_run_165 ?_
                      refine g_ild7 eX11_run_168 ?_
                      refine g_iald (by first | rfl | exact kd_key hi | exact kd_sh hi | exact kd_ya hi | exact kd_pr hq | exact kd_pk hq | exact kd_pf hq | exact kd_ps hq | exact kd_po hq | exact kd_pr hq2 | exact kd_pk hq2 | exact kd_pf hq2 | exact kd_ps hq2 | exact kd_po hq2) (by first | decide | (unfold N0; omega)) (by rw [ln_po hq]; exact vp_in_nI (n := a) (N := 4) (by omega) (by decide)) eX11_run_170 ?_
                      rw [ka, kr (99 + 5 * q) (by omega) (by omega) (by omega) (by omega) (by omega) (by omega) (by omega)]
                      refine g_ild3 eX11_run_171 ?_
                      refine g_sipush (v := 1000) (by decide) eX11_run_172 ?_
                      refine g_iadd eX11_run_175 ?_
                      refine g_ild7 eX11_run_176 ?_
                      refine g_iadd eX11_run_178 ?_
                      rw [in1000]
                      have h9 := hU a (by omega)
                      unfold cOK at h9
                      have hw40 := hg.2.1
                      have h13 := x5.2
                      refine g_callVv (ci := 10) (m_addOutX _ k1 (by omega) hik (st.1 (99 + 5 * q) a) (seed + nI (1000 + a)) (by omega)) (by first | rfl | exact kd_key hi | exact kd_sh hi | exact kd_ya hi | exact kd_pr hq | exact kd_pk hq | exact kd_pf hq | exact kd_ps hq | exact kd_po hq | exact kd_pr hq2 | exact kd_pk hq2 | exact kd_pf hq2 | exact kd_ps hq2 | exact kd_po hq2) (by first | decide | (unfold N0; omega)) (Nat.le_of_ble_eq_true rfl) rfl cv_X11_267 eX11_run_179 ⟨Nat.le_of_ble_eq_true rfl, Nat.le_of_ble_eq_true rfl⟩ rfl rfl (Nat.le_of_ble_eq_true rfl) (fun u2 h => ?_)
                      obtain ⟨c, b, hc, hbd, rfl⟩ := h
                      refine g_inc7 rfl (Nat.le_of_ble_eq_true rfl) rfl eX11_run_182 ?_
                      refine g_goto eX11_run_185 ?_
                      rw [inc1]
                      refine ih (a + 1) _ (by omega) ⟨u, hR, c, b, ?_, ?_, rfl⟩
                      · rw [hc]
                        have h8 : gU st q a = (st.1 (99 + 5 * q) a).toInt := rfl
                        unfold outC fC
                        rw [kr (83 + 3 * i) (by omega) (by omega) (by omega) (by omega) (by omega) (by omega) (by omega), kr 0 (by omega) (by omega) (by omega) (by omega) (by omega) (by omega) (by omega), k2 25 (by omega) (by omega) (by omega) (by omega) (by omega), s2_f, hf2, h8]
                      · rw [hbd]
                        have h8 : gU st q a = (st.1 (99 + 5 * q) a).toInt := rfl
                        unfold outB fB
                        rw [kr (83 + 3 * i) (by omega) (by omega) (by omega) (by omega) (by omega) (by omega) (by omega), kr 0 (by omega) (by omega) (by omega) (by omega) (by omega) (by omega) (by omega), k2 26 (by omega) (by omega) (by omega) (by omega) (by omega), s2_g, hg2, h8]
                refine g_if_ne eX11_run_132 (fun hb4 => ?_) (fun hb4 => ?_)
                · refine g_ald0 eX11_run_138 ?_
                  refine g_getR (ci := 10) (j := 8) (by first | rfl | exact kd_key hi | exact kd_sh hi | exact kd_ya hi | exact kd_pr hq | exact kd_pk hq | exact kd_pf hq | exact kd_ps hq | exact kd_po hq | exact kd_pr hq2 | exact kd_pk hq2 | exact kd_pf hq2 | exact kd_ps hq2 | exact kd_po hq2) (by first | decide | (unfold N0; omega)) (Nat.le_of_ble_eq_true rfl) (Nat.le_of_ble_eq_true rfl) rfl (by first | rfl | exact r_key4 hi | exact r_sh0 hi | exact r_p0 hq | exact r_p1 hq | exact r_p2 hq | exact r_p3 hq | exact r_p0 hq2 | exact r_p1 hq2 | exact r_p2 hq2 | exact r_p3 hq2) fl_X11_39 eX11_run_139 ?_
                  refine g_getI (ci := 7) (j := 4) (by first | rfl | exact kd_key hi | exact kd_sh hi | exact kd_ya hi | exact kd_pr hq | exact kd_pk hq | exact kd_pf hq | exact kd_ps hq | exact kd_po hq | exact kd_pr hq2 | exact kd_pk hq2 | exact kd_pf hq2 | exact kd_ps hq2 | exact kd_po hq2) (by first | decide | (unfold N0; omega)) (Nat.le_of_ble_eq_true rfl) (Nat.le_of_ble_eq_true rfl) rfl fl_X11_264 eX11_run_142 ?_
                  rw [hrow2 17 (by decide) (by decide), x3]
                  refine g_ist6 rfl (Nat.le_of_ble_eq_true rfl) eX11_run_145 ?_
                  refine g_iconst (v := 0) (by decide) eX11_run_147 ?_
                  refine g_ist7 rfl (Nat.le_of_ble_eq_true rfl) eX11_run_148 ?_
                  exact oloop outs 0 _ (by omega) rfl
                · exact absurd hb4 (by decide)
          have iloop : ∀ (d a : Nat) (f g : Nat → Int32), a + d = ins → (∀ j, j < a → (f (40 + j)).toInt = xcof st (xgv st j).toNat ∧ (g (40 + j)).toInt = xbof st (xgv st j).toNat) → G xp l xe (rmd (6)) xs xm xa xb xme xc D cy xad xA (YX11_run.2.1, YX11_run.1.cls, YX11_run.2.2.1, YX11_run.2.2.2) (Pi (runPx st np n (nI q) k seed)) 59 ([some (.ref 0), some (.int (nI q)), some (.int k), some (.int seed), some (.ref (95 + 5 * q)), some (.int (nI i)), some (.int (nI a)), none]) ([]) (sR (sR st 25 f) 26 g) := by
            intro d
            induction d with
            | zero =>
              intro a f g had hfg
              refine g_ild6 eX11_run_59 ?_
              refine g_ald4 eX11_run_61 ?_
              refine g_getI (ci := 6) (j := 4) (by first | rfl | exact kd_key hi | exact kd_sh hi | exact kd_ya hi | exact kd_pr hq | exact kd_pk hq | exact kd_pf hq | exact kd_ps hq | exact kd_po hq | exact kd_pr hq2 | exact kd_pk hq2 | exact kd_pf hq2 | exact kd_ps hq2 | exact kd_po hq2) (by first | decide | (unfold N0; omega)) (Nat.le_of_ble_eq_true rfl) (Nat.le_of_ble_eq_true rfl) rfl fl_X11_245 eX11_run_63 ?_
              rw [s2_row (a := 95 + 5 * q) (by omega) (by omega), e4]
              refine g_icmp_ge eX11_run_66 (fun hb5 => ?_) (fun hb5 => ?_)
              · have ha : a = ins := by omega
                subst ha
                exact tail f g hfg
              · exact absurd (nI_le (by omega) (by omega)) hb5
            | succ d ih =>
              intro a f g had hfg
              have ka : (nI a).toNatClampNeg = a := nI_clamp (by omega)
              have hr23 : (sR (sR st 25 f) 26 g).1 23 = st.1 23 := s2_row (by decide) (by decide)
              have hr19 : (sR (sR st 25 f) 26 g).1 19 = st.1 19 := s2_row (by decide) (by decide)
              have hr20 : (sR (sR st 25 f) 26 g).1 20 = st.1 20 := s2_row (by decide) (by decide)
              have h9 := (hG.2 a (by omega)).1
              have h8 : 0 ≤ (st.1 23 a).toInt ∧ (st.1 23 a).toInt < (n : Int) := (hgv a (by omega)).resolve_left (fun q => by omega)
              refine g_ild6 eX11_run_59 ?_
              refine g_ald4 eX11_run_61 ?_
              refine g_getI (ci := 6) (j := 4) (by first | rfl | exact kd_key hi | exact kd_sh hi | exact kd_ya hi | exact kd_pr hq | exact kd_pk hq | exact kd_pf hq | exact kd_ps hq | exact kd_po hq | exact kd_pr hq2 | exact kd_pk hq2 | exact kd_pf hq2 | exact kd_ps hq2 | exact kd_po hq2) (by first | decide | (unfold N0; omega)) (Nat.le_of_ble_eq_true rfl) (Nat.le_of_ble_eq_true rfl) rfl fl_X11_245 eX11_run_63 ?_
              rw [s2_row (a := 95 + 5 * q) (by omega) (by omega), e4]
              refine g_icmp_ge eX11_run_66 (fun hb5 => ?_) (fun hb5 => ?_)
              · exact absurd hb5 (nI_ge (by omega) (by omega))
              · refine g_ald0 eX11_run_69 ?_
                refine g_getR (ci := 10) (j := 12) (by first | rfl | exact kd_key hi | exact kd_sh hi | exact kd_ya hi | exact kd_pr hq | exact kd_pk hq | exact kd_pf hq | exact kd_ps hq | exact kd_po hq | exact kd_pr hq2 | exact kd_pk hq2 | exact kd_pf hq2 | exact kd_ps hq2 | exact kd_po hq2) (by first | decide | (unfold N0; omega)) (Nat.le_of_ble_eq_true rfl) (Nat.le_of_ble_eq_true rfl) rfl (by first | rfl | exact r_key4 hi | exact r_sh0 hi | exact r_p0 hq | exact r_p1 hq | exact r_p2 hq | exact r_p3 hq | exact r_p0 hq2 | exact r_p1 hq2 | exact r_p2 hq2 | exact r_p3 hq2) fl_X11_87 eX11_run_70 ?_
                refine g_ild6 eX11_run_73 ?_
                refine g_ald0 eX11_run_75 ?_
                refine g_getR (ci := 10) (j := 8) (by first | rfl | exact kd_key hi | exact kd_sh hi | exact kd_ya hi | exact kd_pr hq | exact kd_pk hq | exact kd_pf hq | exact kd_ps hq | exact kd_po hq | exact kd_pr hq2 | exact kd_pk hq2 | exact kd_pf hq2 | exact kd_ps hq2 | exact kd_po hq2) (by first | decide | (unfold N0; omega)) (Nat.le_of_ble_eq_true rfl) (Nat.le_of_ble_eq_true rfl) rfl (by first | rfl | exact r_key4 hi | exact r_sh0 hi | exact r_p0 hq | exact r_p1 hq | exact r_p2 hq | exact r_p3 hq | exact r_p0 hq2 | exact r_p1 hq2 | exact r_p2 hq2 | exact r_p3 hq2) fl_X11_39 eX11_run_76 ?_
                refine g_getR (ci := 7) (j := 1) (by first | rfl | exact kd_key hi | exact kd_sh hi | exact kd_ya hi | exact kd_pr hq | exact kd_pk hq | exact kd_pf hq | exact kd_ps hq | exact kd_po hq | exact kd_pr hq2 | exact kd_pk hq2 | exact kd_pf hq2 | exact kd_ps hq2 | exact kd_po hq2) (by first | decide | (unfold N0; omega)) (Nat.le_of_ble_eq_true rfl) (Nat.le_of_ble_eq_true rfl) rfl (by first | rfl | exact r_key4 hi | exact r_sh0 hi | exact r_p0 hq | exact r_p1 hq | exact r_p2 hq | exact r_p3 hq | exact r_p0 hq2 | exact r_p1 hq2 | exact r_p2 hq2 | exact r_p3 hq2) fl_X11_157 eX11_run_79 ?_
                refine g_ald0 eX11_run_82 ?_
                refine g_getR (ci := 10) (j := 11) (by first | rfl | exact kd_key hi | exact kd_sh hi | exact kd_ya hi | exact kd_pr hq | exact kd_pk hq | exact kd_pf hq | exact kd_ps hq | exact kd_po hq | exact kd_pr hq2 | exact kd_pk hq2 | exact kd_pf hq2 | exact kd_ps hq2 | exact kd_po hq2) (by first | decide | (unfold N0; omega)) (Nat.le_of_ble_eq_true rfl) (Nat.le_of_ble_eq_true rfl) rfl (by first | rfl | exact r_key4 hi | exact r_sh0 hi | exact r_p0 hq | exact r_p1 hq | exact r_p2 hq | exact r_p3 hq | exact r_p0 hq2 | exact r_p1 hq2 | exact r_p2 hq2 | exact r_p3 hq2) fl_X11_52 eX11_run_83 ?_
                refine g_ild6 eX11_run_86 ?_
                refine g_iald (by first | rfl | exact kd_key hi | exact kd_sh hi | exact kd_ya hi | exact kd_pr hq | exact kd_pk hq | exact kd_pf hq | exact kd_ps hq | exact kd_po hq | exact kd_pr hq2 | exact kd_pk hq2 | exact kd_pf hq2 | exact kd_ps hq2 | exact kd_po hq2) (by first | decide | (unfold N0; omega)) (vp_in_nI (n := a) (N := 6) (by omega) (by decide)) eX11_run_88 ?_
                rw [ka, hr23]
                refine g_iald (by first | rfl | exact kd_key hi | exact kd_sh hi | exact kd_ya hi | exact kd_pr hq | exact kd_pk hq | exact kd_pf hq | exact kd_ps hq | exact kd_po hq | exact kd_pr hq2 | exact kd_pk hq2 | exact kd_pf hq2 | exact kd_ps hq2 | exact kd_po hq2) (by first | decide | (unfold N0; omega)) (vin h8.1 (by show (st.1 23 a).toInt < ((60 : Nat) : Int); omega)) eX11_run_89 ?_
                refine g_ald0 eX11_run_90 ?_
                refine g_getR (ci := 10) (j := 8) (by first | rfl | exact kd_key hi | exact kd_sh hi | exact kd_ya hi | exact kd_pr hq | exact kd_pk hq | exact kd_pf hq | exact kd_ps hq | exact kd_po hq | exact kd_pr hq2 | exact kd_pk hq2 | exact kd_pf hq2 | exact kd_ps hq2 | exact kd_po hq2) (by first | decide | (unfold N0; omega)) (Nat.le_of_ble_eq_true rfl) (Nat.le_of_ble_eq_true rfl) rfl (by first | rfl | exact r_key4 hi | exact r_sh0 hi | exact r_p0 hq | exact r_p1 hq | exact r_p2 hq | exact r_p3 hq | exact r_p0 hq2 | exact r_p1 hq2 | exact r_p2 hq2 | exact r_p3 hq2) fl_X11_39 eX11_run_91 ?_
                refine g_getR (ci := 7) (j := 2) (by first | rfl | exact kd_key hi | exact kd_sh hi | exact kd_ya hi | exact kd_pr hq | exact kd_pk hq | exact kd_pf hq | exact kd_ps hq | exact kd_po hq | exact kd_pr hq2 | exact kd_pk hq2 | exact kd_pf hq2 | exact kd_ps hq2 | exact kd_po hq2) (by first | decide | (unfold N0; omega)) (Nat.le_of_ble_eq_true rfl) (Nat.le_of_ble_eq_true rfl) rfl (by first | rfl | exact r_key4 hi | exact r_sh0 hi | exact r_p0 hq | exact r_p1 hq | exact r_p2 hq | exact r_p3 hq | exact r_p0 hq2 | exact r_p1 hq2 | exact r_p2 hq2 | exact r_p3 hq2) fl_X11_160 eX11_run_94 ?_
                refine g_ald0 eX11_run_97 ?_
                refine g_getR (ci := 10) (j := 11) (by first | rfl | exact kd_key hi | exact kd_sh hi | exact kd_ya hi | exact kd_pr hq | exact kd_pk hq | exact kd_pf hq | exact kd_ps hq | exact kd_po hq | exact kd_pr hq2 | exact kd_pk hq2 | exact kd_pf hq2 | exact kd_ps hq2 | exact kd_po hq2) (by first | decide | (unfold N0; omega)) (Nat.le_of_ble_eq_true rfl) (Nat.le_of_ble_eq_true rfl) rfl (by first | rfl | exact r_key4 hi | exact r_sh0 hi | exact r_p0 hq | exact r_p1 hq | exact r_p2 hq | exact r_p3 hq | exact r_p0 hq2 | exact r_p1 hq2 | exact r_p2 hq2 | exact r_p3 hq2) fl_X11_52 eX11_run_98 ?_
                refine g_ild6 eX11_run_101 ?_
                refine g_iald (by first | rfl | exact kd_key hi | exact kd_sh hi | exact kd_ya hi | exact kd_pr hq | exact kd_pk hq | exact kd_pf hq | exact kd_ps hq | exact kd_po hq | exact kd_pr hq2 | exact kd_pk hq2 | exact kd_pf hq2 | exact kd_ps hq2 | exact kd_po hq2) (by first | decide | (unfold N0; omega)) (vp_in_nI (n := a) (N := 6) (by omega) (by decide)) eX11_run_103 ?_
                rw [ka, hr23]
                refine g_iald (by first | rfl | exact kd_key hi | exact kd_sh hi | exact kd_ya hi | exact kd_pr hq | exact kd_pk hq | exact kd_pf hq | exact kd_ps hq | exact kd_po hq | exact kd_pr hq2 | exact kd_pk hq2 | exact kd_pf hq2 | exact kd_ps hq2 | exact kd_po hq2) (by first | decide | (unfold N0; omega)) (vin h8.1 (by show (st.1 23 a).toInt < ((60 : Nat) : Int); omega)) eX11_run_104 ?_
                rw [hr19, hr20]
                refine g_callVv (ci := 0) (m_takeIn _ a (by omega) _ _) (by first | rfl | exact kd_key hi | exact kd_sh hi | exact kd_ya hi | exact kd_pr hq | exact kd_pk hq | exact kd_pf hq | exact kd_ps hq | exact kd_po hq | exact kd_pr hq2 | exact kd_pk hq2 | exact kd_pf hq2 | exact kd_ps hq2 | exact kd_po hq2) (by first | decide | (unfold N0; omega)) (Nat.le_of_ble_eq_true rfl) rfl cv_X11_257 eX11_run_105 ⟨Nat.le_of_ble_eq_true rfl, Nat.le_of_ble_eq_true rfl⟩ rfl rfl (Nat.le_of_ble_eq_true rfl) (fun u h => ?_)
                subst h
                rw [s2_25, s2_26]
                refine g_inc6 rfl (Nat.le_of_ble_eq_true rfl) rfl eX11_run_108 ?_
                refine g_goto eX11_run_111 ?_
                rw [inc1]
                refine ih (a + 1) _ _ (by omega) (fun j hj => ?_)
                by_cases hja : j = a
                · subst hja
                  rw [show upd f (40 + j) _ (40 + j) = _ from if_pos rfl, show upd g (40 + j) _ (40 + j) = _ from if_pos rfl]
                  exact ⟨rfl, rfl⟩
                · rw [show upd f (40 + a) _ (40 + j) = _ from if_neg (by omega), show upd g (40 + a) _ (40 + j) = _ from if_neg (by omega)]
                  exact hfg j (by omega)
          refine g_iconst (v := 0) (by decide) eX11_run_56 ?_
          refine g_ist6 rfl (Nat.le_of_ble_eq_true rfl) eX11_run_57 ?_
          have e0 : st = sR (sR st 25 (st.1 25)) 26 (st.1 26) := by rw [sR_same, sR_same]
          have go := iloop ins 0 (st.1 25) (st.1 26) (by omega) (fun j hj => by omega)
          rw [← e0] at go
          exact go
        · rw [b2_eq0, x3, nI_toInt (by omega)] at hb3
          refine bad _ (fun h => hb3 ?_)
          have h9 := h.2.2
          rw [e] at h9
          omega
    · have hkn := hk2 hG
      subst hkn
      refine g_if_eq eX11_run_36 (fun hb2 => ?_) (fun hb2 => ?_)
      · exact bad _ (fun h => hG (by have := h.1.2; rw [e, ← hins] at this; exact this))
      · rw [b2_ne0] at hb2
        exact absurd hb2.1.1 (by decide)
  · rw [b2_eq0] at hb
    refine g_iconst (v := (-1)) (by decide) eX11_run_9 ?_
    refine g_iret rfl eX11_run_10 ⟨_, rfl, ?_⟩
    try dsimp only
    exact ⟨fun h => absurd h.1.1 hb, fun _ => ⟨rfl, rfl⟩⟩
end CLSG
