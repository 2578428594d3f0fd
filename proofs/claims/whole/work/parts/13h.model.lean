/-! a call with up to 16 words under it; SealedSumsModel: what stands for a value in a run -/
section CALL16
variable {p : Program} {l : Launch} {e : Env} {R : Room} {s : State} {m : MethodId} {args : Array Value} {below : List Frame} {meth : Method} {c : Code} {H : Heap} {locs : List Loc} {cells slots : Nat}
variable {y : MethodName} {bytes cc : ByteArray} {maxL nL mc ms n index : Nat} {ret : Option FieldType} {ws : List Cond} {rm : Room} {Pc : Array Value → State → Prop} {Qc : Array Value → State → Outcome → State → Prop} {free : Addr → Prop} {Ts : List Cond} {own C : String} {b : Addr} {As rest : List Value} {g : JFrame}
theorem runV16 (S : CallFix p m c cc nL s args Ts own) (hM : Met l y ws rm Pc Qc mc ms free) (cw : CallW R s args own C index y bytes maxL ret ws rm mc ms n) (hlo : 16 + (maxL + 11) + rm.locals ≤ R.locals) (hp : PreV s H C b Pc As)
    (hg : g.method = m) (hn : As.length = n) (hsize : g.locals.size = nL) (hstack : g.stack = As.reverse ++ .ref b :: rest) (hW : 2 * g.monitorRoom + (rest.map fun v => v.category).sum ≤ 16) (hdg : decode cc g.pc = .ok (.invokevirtual index, 3)) (hf : cells + mc ≤ R.cells ∧ slots + ms ≤ R.slots) :
    va_Run p l e R s m args below meth c H locs cells slots mc ms g rest (Qc (Value.ref b :: As).toArray) (free) := by
  obtain ⟨⟨hrc, hrs, hfr, -, hws, hcw, hcode, hini, hy, hlen, hl⟩, hin, hse⟩ := cw
  have hK : Back l R p e below s args y 3 16 (PreOf R mc ms Pc) (PostOf Qc mc ms free) := back_of (bytes := bytes) (maxL := maxL) (ret := ret) hM hp.1 hrc hrs hfr hlo hws hcw (fun a' U hW => word_at hW (Or.inl (by first | rfl | simp [Cond.onTables, Cond.keeps, Cond.steady])) hini)
  obtain ⟨hx, hb, hml, ho, -⟩ := S
  obtain ⟨-, ⟨cellB, hcB, hoB, hclB⟩, hPc⟩ := hp
  intro T hT X
  obtain ⟨v, vm₁, ⟨U', l2, c2, s2⟩, hW₁, X', ⟨g', mk, t, L, e1, e2, hq, h1, hL, h2, h3⟩, st⟩ := callV X hx (C := C) (bytes := bytes) (maxL := maxL) (ret := ret) ho hl hin hse hcode hy hK (by rw [hT]; exact hcB) hoB hclB hg (hsize.trans hml.symm) (argsL := As) (rest := rest) (fun sig h => hn.trans (hlen sig h)) hstack hW (by rw [hb]; exact hdg)
    (fun vm₁ hW₁ => ⟨hf.1, hf.2, hPc (T.setVm vm₁) hT hW₁⟩)
  dsimp only [Pt.U, Pt.locs, Pt.cells, Pt.slots] at X' e1 e2 h1 h2 h3 st
  subst h1; subst h2; subst h3
  exact ⟨v, (T.setVm vm₁).calling g' mk (Value.ref b :: As).toArray, t, U', L, hT, X', hL, e1, e2, hq, st⟩
end CALL16
section CALL16B
variable {p : Program} {l : Launch} {e : Env} {R : Room} {s : State} {m : MethodId} {args : Array Value} {below : List Frame} {meth : Method} {c : Code} {D : va_G} {cy : Nat → ClassId} {ad : Nat → Nat} {A : Nat → Prop} {I : MI} {post : Option Value → St → Prop} {pc n : Nat} {L : List (Option Value)} {S : List Value} {st : St}
theorem g_callV16 {x d k ci : Nat} {Y : MY} {as S0 : List Value} {post2 : Option Value → St → Prop} {n9 : Nat} (hM : M l D cy d Y (.ref k :: as) st post2) (hk : kd k = ci) (hN : k < N0) (hci : ci < 12) (hC : RC ci = Y.1.cls) (hw : CV I.2.1 x Y n9) (hm : Y.2.2.1 ≤ 37) (hd : DD I.1 pc (.invokevirtual x) 3 n) (hR : d + 1 ≤ R.frames ∧ 64 * (d + 1) ≤ R.locals) (hn : as.length = n9) (hs : S0 = as.reverse ++ .ref k :: S) (hc : (S.map fun v => v.category).sum ≤ 16)
    (kk : ∀ (v : Option Value) (u : St), post2 v u → G p l e R s m args below meth c D cy ad A I post n L (v.toList ++ S) u) : G p l e R s m args below meth c D cy ad A I post pc L S0 st := by
  obtain ⟨h1, h2⟩ := hd
  subst h2
  subst hs
  subst hk
  intro h H locs ls hl hP hD hS
  have hrc := va_recv (q0 := k) h.2.2.2.2.2.2.2.1 hP (cl_at _ hci) ((cw_get cy ad st hN).trans (by rw [ce_obj hci]))
  refine run_G (st := st) (rest := S.map (cv ad)) (post2 := post2) (runV16 (As := as.map (cv ad)) (b := ad k) (C := Y.1.cls) (Ts := wsA) ⟨h.1, h.2.1, h.2.2.1, h.2.2.2.2.2.1, h.2.2.2.2.2.2.1⟩ (hM ad H.size) ⟨cb_of hw.1 h.2.2.2.2.2.2.1 hR, h.2.2.2.2.2.2.1 _ hw.2.1, h.2.2.2.2.2.2.1 _ hw.2.2⟩ (by show 16 + (Y.2.2.1 + 11) + 64 * d ≤ R.locals; omega) ⟨pco_blind, by rw [← hC]; exact hrc, pco_at h hP hD hS⟩ rfl (by rw [List.length_map]; exact hn) hl.1 (by show (as.reverse ++ .ref k :: S).map (cv ad) = _; rw [List.map_append, List.map_reverse]; rfl) (by show 2 * 0 + _ ≤ 16; rw [cat_S]; omega) h1 ⟨Nat.zero_le _, Nat.zero_le _⟩) hD hS h.2.2.2.2.2.2.2.2.1 (fun v u H1 locs1 hp hP1 hD1 hS1 => ?_)
  rw [stk_v]
  exact kk v u hp h H1 locs1 ls hl hP1 hD1 hS1
theorem g_callVl16 {x d n9 : Nat} {k ci : Nat} {Y : MY} {as S0 : List Value} {pp : Int64 → St → Prop} (hM : Ml l D cy d Y (.ref k :: as) st pp) (hk : kd k = ci) (hN : k < N0) (hci : ci < 12) (hC : RC ci = Y.1.cls) (hw : CV I.2.1 x Y n9) (hm : Y.2.2.1 ≤ 37) (hd : DD I.1 pc (.invokevirtual x) 3 n) (hR : d + 1 ≤ R.frames ∧ 64 * (d + 1) ≤ R.locals) (hn : as.length = n9) (hs : S0 = as.reverse ++ .ref k :: S) (hc : (S.map fun v => v.category).sum ≤ 16)
    (kk : ∀ (r : Int64) (u : St), pp r u → G p l e R s m args below meth c D cy ad A I post n L (.long r :: S) u) : G p l e R s m args below meth c D cy ad A I post pc L S0 st := g_callV16 hM hk hN hci hC hw hm hd hR hn hs hc (fun v u h => by obtain ⟨r, rfl, h⟩ := h; exact kk r u h)
end CALL16B
section MODI
variable {l : Launch} {D : va_G} {cy : Nat → ClassId}
/-- the C and the bound that stand for a value -/
def slC (st : St) (j : Nat) : Int64 := if j < 40 then st.2 73 j else st.2 68 (st.1 72 (j - 40)).toInt.toNat
def slB (st : St) (j : Nat) : Int64 := if j < 40 then st.2 74 j else st.2 69 (st.1 72 (j - 40)).toInt.toNat
theorem told_cases {W I : Nat} {c : Int} (h : cOK W I c) (hW : W ≤ 40) : (toldF c < 0 ∧ 40 ≤ c ∧ c < 40 + (I : Int) ∧ toldF c = -10 - (c - 40)) ∨ (0 ≤ toldF c ∧ 0 ≤ c ∧ c < (W : Int) ∧ toldF c = c) := by
  unfold cOK at h
  unfold toldF
  rcases h with h | h
  · right
    rw [if_neg (by omega), if_pos (by omega)]
    omega
  · left
    rw [if_neg (by omega), if_neg (by omega)]
    omega
theorem w_valueC (st : St) {W I : Nat} (hW : W ≤ 40) (hI : I ≤ 6) (hg : ∀ i, i < I → 0 ≤ (st.1 72 i).toInt ∧ (st.1 72 i).toInt < 60) (c : Int) (hc : cOK W I c) (x : Int32) (hx : x.toInt = toldF c) : Ml l D cy 0 YX12_valueC [.ref 31, .int x] st (fun r u => u = st ∧ r = slC st c.toNat) := by
  have e10 : (-10 : Int32).toInt = -10 := rfl
  have e0 : (0 : Int32).toInt = 0 := rfl
  refine M.ofG [some (.ref 31), some (.int x)] (by decide) (Nat.le_of_ble_eq_true rfl) rfl ?_
  intro xp xe xs xm xa xb xme xc xad xA
  refine g_ild1 eX12_valueC_0 ?_
  rcases told_cases hc hW with ⟨h1, h2, h3, h4⟩ | ⟨h1, h2, h3, h4⟩
  · refine g_if_lt eX12_valueC_1 (fun hb => ?_) (fun hb => ?_)
    · have hgi := hg (c - 40).toNat (by omega)
      have ei : (-10 - x).toInt = ((c - 40).toNat : Int) := by rw [fb_subI] <;> rw [e10, hx, h4] <;> omega
      refine g_ald0 eX12_valueC_13 ?_
      refine g_getR (ci := 11) (j := 60) rfl (Nat.le_of_ble_eq_true rfl) (Nat.le_of_ble_eq_true rfl) (Nat.le_of_ble_eq_true rfl) rfl rfl fl_X12_125 eX12_valueC_14 ?_
      refine g_ald0 eX12_valueC_17 ?_
      refine g_getR (ci := 11) (j := 67) rfl (Nat.le_of_ble_eq_true rfl) (Nat.le_of_ble_eq_true rfl) (Nat.le_of_ble_eq_true rfl) rfl rfl fl_X12_137 eX12_valueC_18 ?_
      refine g_bipush (v := (-10)) (by decide) eX12_valueC_21 ?_
      refine g_ild1 eX12_valueC_23 ?_
      refine g_isub eX12_valueC_24 ?_
      refine g_iald rfl (Nat.le_of_ble_eq_true rfl) (vin (by rw [ei]; omega) (by rw [ei]; show ((c - 40).toNat : Int) < ((6 : Nat) : Int); omega)) eX12_valueC_25 ?_
      rw [clamp ei]
      refine g_lald rfl (Nat.le_of_ble_eq_true rfl) (vin (by omega) (by show (st.1 72 (c - 40).toNat).toInt < ((60 : Nat) : Int); omega)) eX12_valueC_26 ?_
      refine g_lret rfl eX12_valueC_27 ⟨_, rfl, ?_⟩
      try dsimp only
      refine ⟨rfl, ?_⟩
      unfold slC
      rw [if_neg (by omega), clamp_to, show c.toNat - 40 = (c - 40).toNat by omega]
    · exact absurd (by rw [fa_lt, e0, hx]; exact h1) hb
  · refine g_if_lt eX12_valueC_1 (fun hb => ?_) (fun hb => ?_)
    · exact absurd (by rw [fa_lt, e0, hx] at hb; exact hb) (by omega)
    · refine g_ald0 eX12_valueC_4 ?_
      refine g_getR (ci := 11) (j := 68) rfl (Nat.le_of_ble_eq_true rfl) (Nat.le_of_ble_eq_true rfl) (Nat.le_of_ble_eq_true rfl) rfl rfl fl_X12_140 eX12_valueC_5 ?_
      refine g_ild1 eX12_valueC_8 ?_
      refine g_lald rfl (Nat.le_of_ble_eq_true rfl) (vin (by omega) (by rw [hx, h4]; show c < ((40 : Nat) : Int); omega)) eX12_valueC_9 ?_
      refine g_goto eX12_valueC_10 ?_
      refine g_lret rfl eX12_valueC_27 ⟨_, rfl, ?_⟩
      try dsimp only
      refine ⟨rfl, ?_⟩
      unfold slC
      rw [if_pos (by omega), clamp_to, hx, h4]
theorem w_valueBound (st : St) {W I : Nat} (hW : W ≤ 40) (hI : I ≤ 6) (hg : ∀ i, i < I → 0 ≤ (st.1 72 i).toInt ∧ (st.1 72 i).toInt < 60) (c : Int) (hc : cOK W I c) (x : Int32) (hx : x.toInt = toldF c) : Ml l D cy 0 YX12_valueBound [.ref 31, .int x] st (fun r u => u = st ∧ r = slB st c.toNat) := by
  have e10 : (-10 : Int32).toInt = -10 := rfl
  have e0 : (0 : Int32).toInt = 0 := rfl
  refine M.ofG [some (.ref 31), some (.int x)] (by decide) (Nat.le_of_ble_eq_true rfl) rfl ?_
  intro xp xe xs xm xa xb xme xc xad xA
  refine g_ild1 eX12_valueBound_0 ?_
  rcases told_cases hc hW with ⟨h1, h2, h3, h4⟩ | ⟨h1, h2, h3, h4⟩
  · refine g_if_lt eX12_valueBound_1 (fun hb => ?_) (fun hb => ?_)
    · have hgi := hg (c - 40).toNat (by omega)
      have ei : (-10 - x).toInt = ((c - 40).toNat : Int) := by rw [fb_subI] <;> rw [e10, hx, h4] <;> omega
      refine g_ald0 eX12_valueBound_13 ?_
      refine g_getR (ci := 11) (j := 61) rfl (Nat.le_of_ble_eq_true rfl) (Nat.le_of_ble_eq_true rfl) (Nat.le_of_ble_eq_true rfl) rfl rfl fl_X12_128 eX12_valueBound_14 ?_
      refine g_ald0 eX12_valueBound_17 ?_
      refine g_getR (ci := 11) (j := 67) rfl (Nat.le_of_ble_eq_true rfl) (Nat.le_of_ble_eq_true rfl) (Nat.le_of_ble_eq_true rfl) rfl rfl fl_X12_137 eX12_valueBound_18 ?_
      refine g_bipush (v := (-10)) (by decide) eX12_valueBound_21 ?_
      refine g_ild1 eX12_valueBound_23 ?_
      refine g_isub eX12_valueBound_24 ?_
      refine g_iald rfl (Nat.le_of_ble_eq_true rfl) (vin (by rw [ei]; omega) (by rw [ei]; show ((c - 40).toNat : Int) < ((6 : Nat) : Int); omega)) eX12_valueBound_25 ?_
      rw [clamp ei]
      refine g_lald rfl (Nat.le_of_ble_eq_true rfl) (vin (by omega) (by show (st.1 72 (c - 40).toNat).toInt < ((60 : Nat) : Int); omega)) eX12_valueBound_26 ?_
      refine g_lret rfl eX12_valueBound_27 ⟨_, rfl, ?_⟩
      try dsimp only
      refine ⟨rfl, ?_⟩
      unfold slB
      rw [if_neg (by omega), clamp_to, show c.toNat - 40 = (c - 40).toNat by omega]
    · exact absurd (by rw [fa_lt, e0, hx]; exact h1) hb
  · refine g_if_lt eX12_valueBound_1 (fun hb => ?_) (fun hb => ?_)
    · exact absurd (by rw [fa_lt, e0, hx] at hb; exact hb) (by omega)
    · refine g_ald0 eX12_valueBound_4 ?_
      refine g_getR (ci := 11) (j := 69) rfl (Nat.le_of_ble_eq_true rfl) (Nat.le_of_ble_eq_true rfl) (Nat.le_of_ble_eq_true rfl) rfl rfl fl_X12_143 eX12_valueBound_5 ?_
      refine g_ild1 eX12_valueBound_8 ?_
      refine g_lald rfl (Nat.le_of_ble_eq_true rfl) (vin (by omega) (by rw [hx, h4]; show c < ((40 : Nat) : Int); omega)) eX12_valueBound_9 ?_
      refine g_goto eX12_valueBound_10 ?_
      refine g_lret rfl eX12_valueBound_27 ⟨_, rfl, ?_⟩
      try dsimp only
      refine ⟨rfl, ?_⟩
      unfold slB
      rw [if_pos (by omega), clamp_to, hx, h4]
/-- scratch of a run -/
def rS (st : St) (f g : Nat → Int64) (c d : Int64) : St := mkS (sLR (sLR st 73 f) 74 g) c d
theorem rS_1 (st : St) (f g : Nat → Int64) (c d : Int64) : (rS st f g c d).1 = st.1 := rfl
theorem rS_f (st : St) (f g : Nat → Int64) (c d : Int64) : (rS st f g c d).2 73 = f := by unfold rS; rw [mkS_row _ _ _ (by decide), sLR_ne (by decide), sLR_at]
theorem rS_g (st : St) (f g : Nat → Int64) (c d : Int64) : (rS st f g c d).2 74 = g := by unfold rS; rw [mkS_row _ _ _ (by decide), sLR_at]
theorem rS_row (st : St) (f g : Nat → Int64) (c d : Int64) {k : Nat} (h1 : k ≠ 31) (h2 : k ≠ 73) (h3 : k ≠ 74) : (rS st f g c d).2 k = st.2 k := by unfold rS; rw [mkS_row _ _ _ h1, sLR_ne h3, sLR_ne h2]
theorem rS_C (st : St) (f g : Nat → Int64) (c d : Int64) : (rS st f g c d).2 31 63 = c := mkS_C _ _ _
theorem rS_B (st : St) (f g : Nat → Int64) (c d : Int64) : (rS st f g c d).2 31 64 = d := mkS_B _ _ _
theorem rS_mk (st : St) (f g : Nat → Int64) (c d c2 d2 : Int64) : mkS (rS st f g c d) c2 d2 = rS st f g c2 d2 := mkS_mkS _ _ _ _ _
theorem rS_pg (st : St) (f g : Nat → Int64) (c d : Int64) (j : Nat) (x : Int64) : sL (rS st f g c d) 74 j x = rS st f (vp_updL g j x) c d := by unfold rS; rw [mkS_sL (by decide), sL_sLR]
theorem rS_pf (st : St) (f g : Nat → Int64) (c d : Int64) (j : Nat) (x : Int64) : sL (rS st f g c d) 73 j x = rS st (vp_updL f j x) g c d := by unfold rS; rw [mkS_sL (by decide), ← sLR_sL (by decide), sL_sLR]
theorem rS_same (st : St) : rS st (st.2 73) (st.2 74) (st.2 31 63) (st.2 31 64) = st := by
  unfold rS
  rw [sLR_same, sLR_same, mkS_same]
theorem rS_slC (st : St) (f g : Nat → Int64) (c d : Int64) (j : Nat) : slC (rS st f g c d) j = if j < 40 then f j else st.2 68 (st.1 72 (j - 40)).toInt.toNat := by
  unfold slC
  rw [rS_f, rS_row _ _ _ _ _ (by decide) (by decide) (by decide), rS_1]
theorem rS_slB (st : St) (f g : Nat → Int64) (c d : Int64) (j : Nat) : slB (rS st f g c d) j = if j < 40 then g j else st.2 69 (st.1 72 (j - 40)).toInt.toNat := by
  unfold slB
  rw [rS_g, rS_row _ _ _ _ _ (by decide) (by decide) (by decide), rS_1]
/-- what a run steps over -/
theorem rnF_step {K A B : Nat → Int} {p q b t lay : Int} {seed : Int32} {s s0 : (Nat → Int) × (Nat → Int)} {n : Nat} (h : rnF K A B p q b t lay seed s n = some s0) : rnF K A B p q b t lay seed s (n + 1) = if laidF lay n then (if p ≤ 2 * wkB K A B s0.2 n then none else some (putN s0.1 n (freshF p q b t (noiseF (wkC K A B (p * q) s0.1 n) p % t) (seed + nI (10 * n))), putN s0.2 n (t * b + t - 1))) else some (putN s0.1 n (wkC K A B (p * q) s0.1 n), putN s0.2 n (wkB K A B s0.2 n)) := by
  show (match rnF K A B p q b t lay seed s n with | none => none | some r => _) = _
  rw [h]
theorem rnF_back {K A B : Nat → Int} {p q b t lay : Int} {seed : Int32} {s s1 : (Nat → Int) × (Nat → Int)} {n : Nat} (h : rnF K A B p q b t lay seed s (n + 1) = some s1) : ∃ s0 : (Nat → Int) × (Nat → Int), rnF K A B p q b t lay seed s n = some s0 ∧ ∃ x y, s1 = (putN s0.1 n x, putN s0.2 n y) := by
  cases e : rnF K A B p q b t lay seed s n with
  | none =>
    have := rnF_none e 1
    rw [h] at this
    cases this
  | some s0 =>
    rw [rnF_step e] at h
    refine ⟨s0, rfl, ?_⟩
    by_cases h1 : laidF lay n
    · rw [if_pos h1] at h
      by_cases h2 : p ≤ 2 * wkB K A B s0.2 n
      · rw [if_pos h2] at h; cases h
      · rw [if_neg h2] at h
        exact ⟨_, _, (Option.some.inj h).symm⟩
    · rw [if_neg h1] at h
      exact ⟨_, _, (Option.some.inj h).symm⟩
theorem rnF_hi {K A B : Nat → Int} {p q b t lay : Int} {seed : Int32} {s : (Nat → Int) × (Nat → Int)} : ∀ {n : Nat} {s1 : (Nat → Int) × (Nat → Int)}, rnF K A B p q b t lay seed s n = some s1 → ∀ j, n ≤ j → s1.1 j = s.1 j ∧ s1.2 j = s.2 j
  | 0, s1, h, j, _ => by
    have : s1 = s := (Option.some.inj h).symm
    rw [this]
    exact ⟨rfl, rfl⟩
  | n + 1, s1, h, j, hj => by
    obtain ⟨s0, h0, x, y, rfl⟩ := rnF_back h
    have := rnF_hi h0 j (by omega)
    show putN s0.1 n x j = _ ∧ putN s0.2 n y j = _
    unfold putN
    rw [if_neg (by omega), if_neg (by omega)]
    exact this
theorem workF_rng (k a b : Int) {m : Int} (hm : 0 < m) : 0 ≤ workF k a b m ∧ workF k a b m < m := by
  unfold workF
  split
  · exact ⟨Int.emod_nonneg _ (by omega), Int.emod_lt_of_pos _ hm⟩
  · split
    · exact ⟨Int.emod_nonneg _ (by omega), Int.emod_lt_of_pos _ hm⟩
    · exact ⟨Int.emod_nonneg _ (by omega), Int.emod_lt_of_pos _ hm⟩
theorem maskF_rng (p q t m r e : Int) (h : 0 < p * q) : 0 ≤ maskF p q t m r e ∧ maskF p q t m r e < p * q := ⟨Int.emod_nonneg _ (by omega), Int.emod_lt_of_pos _ h⟩
/-- two runs from slots that agree where ins stand -/
theorem rnF_cong {K A B : Nat → Int} {p q b t lay ins : Int} {seed : Int32} {s s2 : (Nat → Int) × (Nat → Int)} {n : Nat} (hw : wksOK t ins K A B n) (hs : ∀ j : Nat, 40 ≤ j → (j : Int) < 40 + ins → s.1 j = s2.1 j ∧ s.2 j = s2.2 j) : ∀ k, k ≤ n → (rnF K A B p q b t lay seed s k = none ∧ rnF K A B p q b t lay seed s2 k = none) ∨ ∃ u v, rnF K A B p q b t lay seed s k = some u ∧ rnF K A B p q b t lay seed s2 k = some v ∧ ∀ j : Nat, (j < k ∨ (40 ≤ j ∧ (j : Int) < 40 + ins)) → u.1 j = v.1 j ∧ u.2 j = v.2 j
  | 0, _ => Or.inr ⟨s, s2, rfl, rfl, fun j hj => hs j (by omega) (by omega)⟩
  | k + 1, hk => by
    rcases rnF_cong hw hs k (by omega) with ⟨h1, h2⟩ | ⟨u, v, h1, h2, h3⟩
    · exact Or.inl ⟨rnF_none h1 1, rnF_none h2 1⟩
    · obtain ⟨w1, w2, w3, w4, w5, w6⟩ := hw k (by omega)
      have rA := h3 (A k).toNat (by unfold cOK at w3; omega)
      have eC : wkC K A B (p * q) u.1 k = wkC K A B (p * q) v.1 k := by
        unfold wkC
        rw [rA.1]
        by_cases h : K k = 4 ∨ K k = 5
        · rw [if_pos h, if_pos h]
        · rw [if_neg h, if_neg h, (h3 (B k).toNat (by have := w4 (by omega); unfold cOK at this; omega)).1]
      have eB : wkB K A B u.2 k = wkB K A B v.2 k := by
        unfold wkB
        rw [rA.2]
        by_cases h : K k = 4 ∨ K k = 5
        · rw [if_pos h, if_pos h]
        · rw [if_neg h, if_neg h, (h3 (B k).toNat (by have := w4 (by omega); unfold cOK at this; omega)).2]
      rw [rnF_step h1, rnF_step h2, eC, eB]
      by_cases hl : laidF lay k
      · rw [if_pos hl, if_pos hl]
        by_cases hd : p ≤ 2 * wkB K A B v.2 k
        · rw [if_pos hd, if_pos hd]
          exact Or.inl ⟨rfl, rfl⟩
        · rw [if_neg hd, if_neg hd]
          refine Or.inr ⟨_, _, rfl, rfl, fun j hj => ?_⟩
          show putN u.1 k _ j = putN v.1 k _ j ∧ putN u.2 k _ j = putN v.2 k _ j
          unfold putN
          by_cases hjk : j = k
          · simp only [hjk, if_true, and_self]
          · simp only [hjk, if_false]
            exact h3 j (by omega)
      · rw [if_neg hl, if_neg hl]
        refine Or.inr ⟨_, _, rfl, rfl, fun j hj => ?_⟩
        show putN u.1 k _ j = putN v.1 k _ j ∧ putN u.2 k _ j = putN v.2 k _ j
        unfold putN
        by_cases hjk : j = k
        · simp only [hjk, if_true, and_self]
        · simp only [hjk, if_false]
          exact h3 j (by omega)
end MODI
