/-! THE MODEL PARSES: names looked up, unit -/
def lk (q : Nat → Bool) (w : Nat) : List MN → Nat
  | [] => 0
  | e :: r => if e.1 = w ∧ q e.2.1 = true then 0 else lk q w r + 1
theorem lk_le (q : Nat → Bool) (w : Nat) : ∀ Nm : List MN, lk q w Nm ≤ Nm.length
  | [] => Nat.le_refl _
  | e :: r => by
    have := lk_le q w r
    rw [lk, List.length_cons]
    split <;> omega
theorem lk_at (q : Nat → Bool) (w : Nat) : ∀ (Nm : List MN) (d : MN), lk q w Nm < Nm.length → (Nm.getD (lk q w Nm) d).1 = w ∧ q (Nm.getD (lk q w Nm) d).2.1 = true
  | [], d, h => absurd h (by simp [lk])
  | e :: r, d, h => by
    rw [lk] at h ⊢
    by_cases p : e.1 = w ∧ q e.2.1 = true
    · rw [if_pos p]; exact p
    · rw [if_neg p] at h ⊢
      exact lk_at q w r d (by simp at h; exact h)
theorem lk_lt (q : Nat → Bool) (w : Nat) : ∀ (Nm : List MN) (d : MN) (j : Nat), j < lk q w Nm → ¬ ((Nm.getD j d).1 = w ∧ q (Nm.getD j d).2.1 = true)
  | [], d, j, h => absurd h (by simp [lk])
  | e :: r, d, j, h => by
    rw [lk] at h
    by_cases p : e.1 = w ∧ q e.2.1 = true
    · rw [if_pos p] at h; omega
    · rw [if_neg p] at h
      cases j with
      | zero => exact p
      | succ j => exact lk_lt q w r d j (by omega)
theorem lk_is {q : Nat → Bool} {w : Nat} {Nm : List MN} {d : MN} {j : Nat} (hj : j ≤ Nm.length) (h1 : ∀ i, i < j → ¬ ((Nm.getD i d).1 = w ∧ q (Nm.getD i d).2.1 = true)) (h2 : j < Nm.length → (Nm.getD j d).1 = w ∧ q (Nm.getD j d).2.1 = true) : lk q w Nm = j := by
  have a := lk_le q w Nm
  by_cases p : lk q w Nm < j
  · exact absurd (lk_at q w Nm d (by omega)) (h1 _ p)
  · by_cases p2 : j < lk q w Nm
    · exact absurd (h2 (by omega)) (lk_lt q w Nm d j p2)
    · omega
/-- sorts: an in or a let; a table -/
def qV (s : Nat) : Bool := decide (s < 2)
def qT (s : Nat) : Bool := decide (s = 2)
def tbF (Nm : List MN) (W : Nat → Nat) (a : Nat) : Nat := if lk qT (W a) Nm < Nm.length then (Nm.getD (lk qT (W a) Nm) (0, 0, 0)).2.2 else 0
/-- an order as the model writes it down -/
def cdT (Nm : List MN) (V W : Nat → Nat) (bs : Nat) (x : Nat × Nat) : List (Nat × Nat) :=
  if x.1 = 3 then [(0, V x.2 % bs)]
  else if x.1 = 2 then (if lk qV (W x.2) Nm < Nm.length then [(if (Nm.getD (lk qV (W x.2) Nm) (0, 0, 0)).2.1 = 0 then 1 else 2, (Nm.getD (lk qV (W x.2) Nm) (0, 0, 0)).2.2)] else [])
  else if x.1 = 43 then [(3, 0)] else if x.1 = 45 then [(4, 0)] else if x.1 = 42 then [(5, 0)] else if x.1 = 8 then [(6, 0)] else if x.1 = 9 then [(7, tbF Nm W x.2)] else []
def evW (Nm : List MN) (P W : Nat → Nat) (w : Nat × Nat) (e : Nat × Nat) : Nat × Nat :=
  if e.1 = 4 then (if lk qT (W e.2) Nm < Nm.length then w else wrg w 4 (P e.2)) else if e.1 = 5 then (if lk qV (W e.2) Nm < Nm.length then w else wrg w 4 (P e.2)) else w
theorem cdT_len {Nm : List MN} {V W : Nat → Nat} {bs : Nat} (x : Nat × Nat) : (cdT Nm V W bs x).length ≤ 1 := by
  unfold cdT
  repeat' split
  all_goals simp
section UNIT
variable {l : Launch} {D : va_G} {cy : Nat → ClassId} {K P V W : Nat → Nat} {Nm : List MN} {bs : Nat}
def upF (K P V W : Nat → Nat) (Nm : List MN) (bs : Nat) (st : St) (A : EA) (u : St) : Prop :=
  if K A.1.1 = 2 then exP K P st (psF (gvF 5 A.1.1 (wrF 2 A.1.1 A.1))) (A.1, A.2.1, A.2.2.1 ++ cdT Nm V W bs (2, A.1.1), evW Nm P W A.2.2.2.1 (5, A.1.1), A.2.2.2.2) u
  else if K A.1.1 = 3 then exP K P st (psF (wrF 3 A.1.1 A.1)) (A.1, A.2.1, A.2.2.1 ++ cdT Nm V W bs (3, A.1.1), A.2.2.2) u
  else exD P st u (1, A.1.1)
theorem exP_fr {st u w : St} {R : GR} {A : EA} (h : exFr st u) (hw : u.1 31 49 = st.1 31 49) (h2 : exP K P u R A w) : exP K P st R A w := by
  cases R with
  | inl e => exact ⟨⟨h.trans h2.1.1, h2.1.2⟩, h2.2.trans hw⟩
  | inr s => exact ⟨h.trans h2.1, h2.2⟩
theorem w_unit (st : St) {A : EA} (hS : SB K P V W Nm bs st) (h : exOK K st A) (hl : A.2.2.1.length < 400) : Mv l D cy 2 YX12_unit [.ref 31] st (upF K P V W Nm bs st A) := by
  have hv := hS.1 A.1.1 h.1.2.1 h.1.2.2
  have ht := h.1.1
  have h300 := h.1.2.1
  obtain ⟨n1, n2, n3⟩ := hS.2.1
  have hin : vp_in (nI A.1.1) 303 := vp_in_nI (by omega) (by decide)
  have hcl : (nI A.1.1).toNatClampNeg = A.1.1 := nI_clamp (by omega)
  refine M.ofG [some (.ref 31), none, none] (by decide) (Nat.le_of_ble_eq_true rfl) rfl ?_
  intro xp xe xs xm xa xb xme xc xad xA
  refine g_ald0 eX12_unit_0 ?_
  refine g_iconst (v := 2) (by decide) eX12_unit_1 ?_
  refine g_callVi (ci := 11) (w_is st hS.1 h 2 (by decide)) rfl (Nat.le_of_ble_eq_true rfl) (Nat.le_of_ble_eq_true rfl) rfl cv_X12_235 eX12_unit_2 ⟨Nat.le_of_ble_eq_true rfl, Nat.le_of_ble_eq_true rfl⟩ rfl rfl (Nat.le_of_ble_eq_true rfl) (fun r st h9 => ?_)
  obtain ⟨rfl, rfl⟩ := h9
  refine g_if_eq eX12_unit_5 (fun hb => ?_) (fun hb => ?_)
  · rw [b2_eq0, mkK_is hv.2.2.2.2.1 (b := 3) (k := 2) (by decide) rfl] at hb
    refine g_ald0 eX12_unit_34 ?_
    refine g_iconst (v := 1) (by decide) eX12_unit_35 ?_
    refine g_callVi (ci := 11) (w_is st hS.1 h 1 (by decide)) rfl (Nat.le_of_ble_eq_true rfl) (Nat.le_of_ble_eq_true rfl) rfl cv_X12_235 eX12_unit_36 ⟨Nat.le_of_ble_eq_true rfl, Nat.le_of_ble_eq_true rfl⟩ rfl rfl (Nat.le_of_ble_eq_true rfl) (fun r st h9 => ?_)
    obtain ⟨rfl, rfl⟩ := h9
    refine g_if_eq eX12_unit_39 (fun hb2 => ?_) (fun hb2 => ?_)
    · rw [b2_eq0, mkK_is hv.2.2.2.2.1 (b := 2) (k := 1) (by decide) rfl] at hb2
      refine g_ald0 eX12_unit_144 ?_
      refine g_iconst (v := 1) (by decide) eX12_unit_145 ?_
      refine g_callVv (ci := 11) (w_fail st hS.1 h 1) rfl (Nat.le_of_ble_eq_true rfl) (Nat.le_of_ble_eq_true rfl) rfl cv_X12_232 eX12_unit_146 ⟨Nat.le_of_ble_eq_true rfl, Nat.le_of_ble_eq_true rfl⟩ rfl rfl (Nat.le_of_ble_eq_true rfl) (fun u h => ?_)
      refine g_vret rfl eX12_unit_149 ⟨rfl, ?_⟩
      try dsimp only
      unfold upF
      rw [if_neg hb2, if_neg hb]
      exact h.1
    · rw [b2_ne0, mkK_is hv.2.2.2.2.1 (b := 2) (k := 1) (by decide) rfl] at hb2
      have hW := hv.2.2.2.2.2.2.2 hb2
      have hN := hv.2.2.2.1 hb2
      have fin : ∀ (u : St) (y1 y2 : Option Value), exFr st u → exOK K u (gvF 5 A.1.1 (wrF 2 A.1.1 A.1), A.2.1, A.2.2.1 ++ cdT Nm V W bs (2, A.1.1), evW Nm P W A.2.2.2.1 (5, A.1.1), A.2.2.2.2) → G xp l xe (rmd (2)) xs xm xa xb xme xc D cy xad xA (YX12_unit.2.1, YX12_unit.1.cls, YX12_unit.2.2.1, YX12_unit.2.2.2) (Pv (upF K P V W Nm bs st A)) 137 ([some (.ref 31), y1, y2]) ([]) (u) := by
        intro u y1 y2 hf h2
        refine g_ald0 eX12_unit_137 ?_
        refine g_callVv (ci := 11) (w_goesOn u (SB_fr hS hf).1 h2 (by show K A.1.1 ≠ 0 ∧ K A.1.1 ≠ 1; omega)) rfl (Nat.le_of_ble_eq_true rfl) (Nat.le_of_ble_eq_true rfl) rfl cv_X12_238 eX12_unit_138 ⟨Nat.le_of_ble_eq_true rfl, Nat.le_of_ble_eq_true rfl⟩ rfl rfl (Nat.le_of_ble_eq_true rfl) (fun w h3 => ?_)
        refine g_goto eX12_unit_141 ?_
        refine g_vret rfl eX12_unit_149 ⟨rfl, ?_⟩
        try dsimp only
        unfold upF
        rw [if_pos hb2]
        exact exP_fr hf (h2.2.2.2.2.2.1.trans h.2.2.2.2.2.1.symm) h3
      have loop : ∀ (f a : Nat), a + f = Nm.length → (lk qV (W A.1.1) Nm < a ∨ ∀ i, i < a → ¬ ((Nm.getD i (0, 0, 0)).1 = W A.1.1 ∧ qV (Nm.getD i (0, 0, 0)).2.1 = true)) → G xp l xe (rmd (2)) xs xm xa xb xme xc D cy xad xA (YX12_unit.2.1, YX12_unit.1.cls, YX12_unit.2.2.1, YX12_unit.2.2.2) (Pv (upF K P V W Nm bs st A)) 46 ([some (.ref 31), some (.int (if lk qV (W A.1.1) Nm < a then nI (lk qV (W A.1.1) Nm) else -1)), some (.int (nI a))]) ([]) (st) := by
        intro f
        induction f with
        | zero =>
          intro a ha hinv
          have ea : a = Nm.length := by omega
          refine g_ild2 eX12_unit_46 ?_
          refine g_ald0 eX12_unit_47 ?_
          refine g_getI (ci := 11) (j := 28) rfl (Nat.le_of_ble_eq_true rfl) (Nat.le_of_ble_eq_true rfl) (Nat.le_of_ble_eq_true rfl) rfl fl_X12_253 eX12_unit_48 ?_
          rw [n1]
          refine g_icmp_ge eX12_unit_51 (fun hb3 => ?_) (fun hb3 => ?_)
          · refine g_ild1 eX12_unit_96 ?_
            refine g_iconst (v := (-1)) (by decide) eX12_unit_97 ?_
            by_cases q : lk qV (W A.1.1) Nm < Nm.length
            · rw [ea, if_pos q]
              have nq := n3 _ q
              have hqa := lk_at qV (W A.1.1) Nm (0, 0, 0) q
              have hk2 : vp_in (nI (lk qV (W A.1.1) Nm)) 300 := vp_in_nI (by omega) (by decide)
              refine g_icmp_ne eX12_unit_98 (fun hb4 => ?_) (fun hb4 => ?_)
              · have emitg : ∀ z : Nat, z = (if (Nm.getD (lk qV (W A.1.1) Nm) (0, 0, 0)).2.1 = 0 then 1 else 2) → G xp l xe (rmd (2)) xs xm xa xb xme xc D cy xad xA (YX12_unit.2.1, YX12_unit.1.cls, YX12_unit.2.2.1, YX12_unit.2.2.2) (Pv (upF K P V W Nm bs st A)) 128 ([some (.ref 31), some (.int (nI (lk qV (W A.1.1) Nm))), some (.int (nI Nm.length))]) ([.int (nI z), .ref 31]) (st) := by
                  intro z hz
                  refine g_ald0 eX12_unit_128 ?_
                  refine g_getR (ci := 11) (j := 31) rfl (Nat.le_of_ble_eq_true rfl) (Nat.le_of_ble_eq_true rfl) (Nat.le_of_ble_eq_true rfl) rfl rfl fl_X12_64 eX12_unit_129 ?_
                  refine g_ild1 eX12_unit_132 ?_
                  refine g_iald rfl (Nat.le_of_ble_eq_true rfl) hk2 eX12_unit_133 ?_
                  rw [nI_clamp (by omega), nq.2.2.1]
                  refine g_callVv (ci := 11) (w_emit st h hl z (Nm.getD (lk qV (W A.1.1) Nm) (0, 0, 0)).2.2 _ _ rfl rfl) rfl (Nat.le_of_ble_eq_true rfl) (Nat.le_of_ble_eq_true rfl) rfl cv_X12_329 eX12_unit_134 ⟨Nat.le_of_ble_eq_true rfl, Nat.le_of_ble_eq_true rfl⟩ rfl rfl (Nat.le_of_ble_eq_true rfl) (fun u h3 => ?_)
                  refine fin u _ _ h3.1 ?_
                  have ec : cdT Nm V W bs (2, A.1.1) = [(z, (Nm.getD (lk qV (W A.1.1) Nm) (0, 0, 0)).2.2)] := by
                    unfold cdT
                    rw [if_neg (show ¬ (2 = 3) by decide), if_pos rfl, if_pos q, hz]
                  have ee : evW Nm P W A.2.2.2.1 (5, A.1.1) = A.2.2.2.1 := by
                    unfold evW
                    rw [if_neg (show ¬ (5 = 4) by decide), if_pos rfl, if_pos q]
                  rw [ec, ee]
                  exact h3.2
                refine g_ald0 eX12_unit_113 ?_
                refine g_ald0 eX12_unit_114 ?_
                refine g_getR (ci := 11) (j := 30) rfl (Nat.le_of_ble_eq_true rfl) (Nat.le_of_ble_eq_true rfl) (Nat.le_of_ble_eq_true rfl) rfl rfl fl_X12_61 eX12_unit_115 ?_
                refine g_ild1 eX12_unit_118 ?_
                refine g_iald rfl (Nat.le_of_ble_eq_true rfl) hk2 eX12_unit_119 ?_
                rw [nI_clamp (by omega), nq.2.1]
                have hs2 := nq.2.2.2.2.1
                refine g_if_ne eX12_unit_120 (fun hb5 => ?_) (fun hb5 => ?_)
                · have e0 : ¬ (Nm.getD (lk qV (W A.1.1) Nm) (0, 0, 0)).2.1 = 0 := fun z => hb5 (by rw [z]; rfl)
                  refine g_iconst (v := 2) (by decide) eX12_unit_127 ?_
                  exact emitg 2 (by rw [if_neg e0])
                · have e0 : (Nm.getD (lk qV (W A.1.1) Nm) (0, 0, 0)).2.1 = 0 := (nI_eq (b := 0) (by omega) (by omega)).mp hb5
                  refine g_iconst (v := 1) (by decide) eX12_unit_123 ?_
                  refine g_goto eX12_unit_124 ?_
                  exact emitg 1 (by rw [if_pos e0])
              · exact absurd (show (-1 : Int32).toInt = (nI (lk qV (W A.1.1) Nm)).toInt by rw [← hb4]) (by rw [nI_toInt (by omega)]; show ¬ ((-1 : Int) = _); omega)
            · rw [ea, if_neg q]
              refine g_icmp_ne eX12_unit_98 (fun hb4 => ?_) (fun hb4 => ?_)
              · exact absurd rfl hb4
              · refine g_ald0 eX12_unit_101 ?_
                refine g_iconst (v := 4) (by decide) eX12_unit_102 ?_
                refine g_ald0 eX12_unit_103 ?_
                refine g_getI (ci := 11) (j := 10) rfl (Nat.le_of_ble_eq_true rfl) (Nat.le_of_ble_eq_true rfl) (Nat.le_of_ble_eq_true rfl) rfl fl_X12_220 eX12_unit_104 ?_
                rw [ht]
                refine g_callVv (ci := 11) (w_wrong st hS.1 h 4 (by decide) A.1.1 h300 h.1.2.2 4 rfl) rfl (Nat.le_of_ble_eq_true rfl) (Nat.le_of_ble_eq_true rfl) rfl cv_X12_292 eX12_unit_107 ⟨Nat.le_of_ble_eq_true rfl, Nat.le_of_ble_eq_true rfl⟩ rfl rfl (Nat.le_of_ble_eq_true rfl) (fun u h3 => ?_)
                refine g_goto eX12_unit_110 ?_
                refine fin u _ _ h3.1 ?_
                have ec : cdT Nm V W bs (2, A.1.1) = [] := by
                  unfold cdT
                  rw [if_neg (show ¬ (2 = 3) by decide), if_pos rfl, if_neg q]
                have ee : evW Nm P W A.2.2.2.1 (5, A.1.1) = wrg A.2.2.2.1 4 (P A.1.1) := by
                  unfold evW
                  rw [if_neg (show ¬ (5 = 4) by decide), if_pos rfl, if_neg q]
                rw [ec, ee, List.append_nil]
                exact h3.2
          · exact absurd (nI_le (by omega) (by omega)) hb3
        | succ f ih =>
          intro a ha hinv
          have hka : vp_in (nI a) 300 := vp_in_nI (by omega) (by decide)
          have na := n3 a (by omega)
          have next : ∀ z : Int32, z = (if lk qV (W A.1.1) Nm < a + 1 then nI (lk qV (W A.1.1) Nm) else -1) → (lk qV (W A.1.1) Nm < a + 1 ∨ ∀ i, i < a + 1 → ¬ ((Nm.getD i (0, 0, 0)).1 = W A.1.1 ∧ qV (Nm.getD i (0, 0, 0)).2.1 = true)) → G xp l xe (rmd (2)) xs xm xa xb xme xc D cy xad xA (YX12_unit.2.1, YX12_unit.1.cls, YX12_unit.2.2.1, YX12_unit.2.2.2) (Pv (upF K P V W Nm bs st A)) 90 ([some (.ref 31), some (.int z), some (.int (nI a))]) ([]) (st) := by
            intro z hz hi
            refine g_inc2 rfl (Nat.le_of_ble_eq_true rfl) rfl eX12_unit_90 ?_
            refine g_goto eX12_unit_93 ?_
            rw [inc1, hz]
            exact ih (a + 1) (by omega) hi
          refine g_ild2 eX12_unit_46 ?_
          refine g_ald0 eX12_unit_47 ?_
          refine g_getI (ci := 11) (j := 28) rfl (Nat.le_of_ble_eq_true rfl) (Nat.le_of_ble_eq_true rfl) (Nat.le_of_ble_eq_true rfl) rfl fl_X12_253 eX12_unit_48 ?_
          rw [n1]
          refine g_icmp_ge eX12_unit_51 (fun hb3 => ?_) (fun hb3 => ?_)
          · exact absurd hb3 (nI_ge (by omega) (by omega))
          · refine g_ild1 eX12_unit_54 ?_
            refine g_iconst (v := (-1)) (by decide) eX12_unit_55 ?_
            by_cases q : lk qV (W A.1.1) Nm < a
            · rw [if_pos q]
              refine g_icmp_ne eX12_unit_56 (fun hb4 => ?_) (fun hb4 => ?_)
              · exact next _ (by rw [if_pos (by omega)]) (Or.inl (by omega))
              · exact absurd (show (-1 : Int32).toInt = (nI (lk qV (W A.1.1) Nm)).toInt by rw [← hb4]) (by rw [nI_toInt (by omega)]; show ¬ ((-1 : Int) = _); omega)
            · rw [if_neg q]
              have hnone := hinv.resolve_left q
              have nomt : ¬ ((Nm.getD a (0, 0, 0)).1 = W A.1.1 ∧ qV (Nm.getD a (0, 0, 0)).2.1 = true) → G xp l xe (rmd (2)) xs xm xa xb xme xc D cy xad xA (YX12_unit.2.1, YX12_unit.1.cls, YX12_unit.2.2.1, YX12_unit.2.2.2) (Pv (upF K P V W Nm bs st A)) 90 ([some (.ref 31), some (.int (-1)), some (.int (nI a))]) ([]) (st) := by
                intro hno
                have hall : ∀ i, i < a + 1 → ¬ ((Nm.getD i (0, 0, 0)).1 = W A.1.1 ∧ qV (Nm.getD i (0, 0, 0)).2.1 = true) := by
                  intro i hi
                  by_cases e : i = a
                  · rw [e]; exact hno
                  · exact hnone i (by omega)
                refine next _ ?_ (Or.inr hall)
                rw [if_neg (fun z => hall _ z (lk_at qV (W A.1.1) Nm (0, 0, 0) (by omega)))]
              refine g_icmp_ne eX12_unit_56 (fun hb4 => ?_) (fun hb4 => ?_)
              · exact absurd rfl hb4
              · refine g_ald0 eX12_unit_59 ?_
                refine g_getR (ci := 11) (j := 29) rfl (Nat.le_of_ble_eq_true rfl) (Nat.le_of_ble_eq_true rfl) (Nat.le_of_ble_eq_true rfl) rfl rfl fl_X12_58 eX12_unit_60 ?_
                refine g_ild2 eX12_unit_63 ?_
                refine g_lald rfl (Nat.le_of_ble_eq_true rfl) hka eX12_unit_64 ?_
                rw [nI_clamp (by omega), na.1]
                refine g_ald0 eX12_unit_65 ?_
                refine g_getR (ci := 11) (j := 7) rfl (Nat.le_of_ble_eq_true rfl) (Nat.le_of_ble_eq_true rfl) (Nat.le_of_ble_eq_true rfl) rfl rfl fl_X12_26 eX12_unit_66 ?_
                refine g_ald0 eX12_unit_69 ?_
                refine g_getI (ci := 11) (j := 10) rfl (Nat.le_of_ble_eq_true rfl) (Nat.le_of_ble_eq_true rfl) (Nat.le_of_ble_eq_true rfl) rfl fl_X12_220 eX12_unit_70 ?_
                rw [ht]
                refine g_lald rfl (Nat.le_of_ble_eq_true rfl) hin eX12_unit_73 ?_
                rw [hcl, hN]
                refine g_lcmp eX12_unit_74 ?_
                refine g_if_ne eX12_unit_75 (fun hb5 => ?_) (fun hb5 => ?_)
                · rw [lg_cmp_eq, pk_lEQ (by omega) (by omega)] at hb5
                  exact nomt (fun z => hb5 z.1)
                · rw [lg_cmp_eq, pk_lEQ (by omega) (by omega)] at hb5
                  refine g_ald0 eX12_unit_78 ?_
                  refine g_getR (ci := 11) (j := 30) rfl (Nat.le_of_ble_eq_true rfl) (Nat.le_of_ble_eq_true rfl) (Nat.le_of_ble_eq_true rfl) rfl rfl fl_X12_61 eX12_unit_79 ?_
                  refine g_ild2 eX12_unit_82 ?_
                  refine g_iald rfl (Nat.le_of_ble_eq_true rfl) hka eX12_unit_83 ?_
                  rw [nI_clamp (by omega), na.2.1]
                  refine g_iconst (v := 2) (by decide) eX12_unit_84 ?_
                  have hs2 := na.2.2.2.2.1
                  refine g_icmp_ge eX12_unit_85 (fun hb6 => ?_) (fun hb6 => ?_)
                  · rw [show (2 : Int32) = nI 2 from rfl, nI_leI (by omega) (by omega)] at hb6
                    refine nomt (fun z => ?_)
                    have := of_decide_eq_true z.2
                    omega
                  · rw [show (2 : Int32) = nI 2 from rfl, nI_leI (by omega) (by omega)] at hb6
                    have hlk : lk qV (W A.1.1) Nm = a := lk_is (d := (0, 0, 0)) (by omega) hnone (fun _ => ⟨hb5, decide_eq_true (by omega)⟩)
                    refine g_ild2 eX12_unit_88 ?_
                    refine g_ist1 rfl (Nat.le_of_ble_eq_true rfl) eX12_unit_89 ?_
                    refine next _ ?_ (Or.inl (by omega))
                    rw [hlk, if_pos (by omega)]

      refine g_iconst (v := (-1)) (by decide) eX12_unit_42 ?_
      refine g_ist1 rfl (Nat.le_of_ble_eq_true rfl) eX12_unit_43 ?_
      refine g_iconst (v := 0) (by decide) eX12_unit_44 ?_
      refine g_ist2 rfl (Nat.le_of_ble_eq_true rfl) eX12_unit_45 ?_
      have h0 := loop Nm.length 0 (by omega) (Or.inr (fun i hi => absurd hi (Nat.not_lt_zero _)))
      rw [if_neg (Nat.not_lt_zero _)] at h0
      exact h0
  · rw [b2_ne0, mkK_is hv.2.2.2.2.1 (b := 3) (k := 2) (by decide) rfl] at hb
    have hV := hv.2.2.2.2.2.2.1 hb
    have hbs := hS.2.2.1
    have hb2 := hS.2.2.2
    have hne : ¬ nI bs = 0 := nI_ne0 (by omega) (by omega)
    refine g_ald0 eX12_unit_8 ?_
    refine g_iconst (v := 0) (by decide) eX12_unit_9 ?_
    refine g_ald0 eX12_unit_10 ?_
    refine g_getR (ci := 11) (j := 6) rfl (Nat.le_of_ble_eq_true rfl) (Nat.le_of_ble_eq_true rfl) (Nat.le_of_ble_eq_true rfl) rfl rfl fl_X12_23 eX12_unit_11 ?_
    refine g_ald0 eX12_unit_14 ?_
    refine g_getI (ci := 11) (j := 10) rfl (Nat.le_of_ble_eq_true rfl) (Nat.le_of_ble_eq_true rfl) (Nat.le_of_ble_eq_true rfl) rfl fl_X12_220 eX12_unit_15 ?_
    rw [ht]
    refine g_iald rfl (Nat.le_of_ble_eq_true rfl) hin eX12_unit_18 ?_
    rw [hcl, hv.2.2.1 hb]
    refine g_ald0 eX12_unit_19 ?_
    refine g_getI (ci := 11) (j := 17) rfl (Nat.le_of_ble_eq_true rfl) (Nat.le_of_ble_eq_true rfl) (Nat.le_of_ble_eq_true rfl) rfl fl_X12_174 eX12_unit_20 ?_
    rw [hbs]
    refine g_irem hne eX12_unit_23 ?_
    rw [pk_rem (a := V A.1.1) (d := bs) (by omega) (by omega) (by omega)]
    refine g_callVv (ci := 11) (w_emit st h hl 0 (V A.1.1 % bs) _ _ rfl rfl) rfl (Nat.le_of_ble_eq_true rfl) (Nat.le_of_ble_eq_true rfl) rfl cv_X12_329 eX12_unit_24 ⟨Nat.le_of_ble_eq_true rfl, Nat.le_of_ble_eq_true rfl⟩ rfl rfl (Nat.le_of_ble_eq_true rfl) (fun u h3 => ?_)
    refine g_ald0 eX12_unit_27 ?_
    have h4 : exOK K u (wrF 3 A.1.1 A.1, A.2.1, A.2.2.1 ++ [(0, V A.1.1 % bs)], A.2.2.2) := h3.2
    refine g_callVv (ci := 11) (w_goesOn u (SB_fr hS h3.1).1 h4 (by show K A.1.1 ≠ 0 ∧ K A.1.1 ≠ 1; omega)) rfl (Nat.le_of_ble_eq_true rfl) (Nat.le_of_ble_eq_true rfl) rfl cv_X12_238 eX12_unit_28 ⟨Nat.le_of_ble_eq_true rfl, Nat.le_of_ble_eq_true rfl⟩ rfl rfl (Nat.le_of_ble_eq_true rfl) (fun w h5 => ?_)
    refine g_goto eX12_unit_31 ?_
    refine g_vret rfl eX12_unit_149 ⟨rfl, ?_⟩
    try dsimp only
    unfold upF
    rw [if_neg (by omega), if_pos hb]
    exact exP_fr h3.1 (h4.2.2.2.2.2.1.trans h.2.2.2.2.2.1.symm) h5
def tnF (K P W : Nat → Nat) (Nm : List MN) (st : St) (A : EA) (r : Int32) (u : St) : Prop := match tkF K 2 (gvF 4 A.1.1 A.1) with
  | .inl e => exD P st u e ∧ r = 0 ∧ u.1 31 49 = st.1 31 49
  | .inr s => exFr st u ∧ r = nI (tbF Nm W A.1.1) ∧ exOK K u (s, A.2.1, A.2.2.1, evW Nm P W A.2.2.2.1 (4, A.1.1), A.2.2.2.2)
theorem w_tableNamed (st : St) {A : EA} (hS : SB K P V W Nm bs st) (h : exOK K st A) : Mi l D cy 3 YX12_tableNamed [.ref 31] st (tnF K P W Nm st A) := by
  have hv := hS.1 A.1.1 h.1.2.1 h.1.2.2
  have ht := h.1.1
  have h300 := h.1.2.1
  refine M.ofG [some (.ref 31), none, none, none] (by decide) (Nat.le_of_ble_eq_true rfl) rfl ?_
  intro xp xe xs xm xa xb xme xc xad xA
  have hA : exOK K st (gvF 4 A.1.1 A.1, A.2) := h
  refine g_ald0 eX12_tableNamed_0 ?_
  refine g_getI (ci := 11) (j := 10) rfl (Nat.le_of_ble_eq_true rfl) (Nat.le_of_ble_eq_true rfl) (Nat.le_of_ble_eq_true rfl) rfl fl_X12_220 eX12_tableNamed_1 ?_
  rw [ht]
  refine g_ist1 rfl (Nat.le_of_ble_eq_true rfl) eX12_tableNamed_4 ?_
  refine g_ald0 eX12_tableNamed_5 ?_
  refine g_iconst (v := 1) (by decide) eX12_tableNamed_6 ?_
  refine g_callVv (ci := 11) (w_must st hS.1 hA 2 (by decide) 1 rfl (by decide)) rfl (Nat.le_of_ble_eq_true rfl) (Nat.le_of_ble_eq_true rfl) rfl cv_X12_289 eX12_tableNamed_7 ⟨Nat.le_of_ble_eq_true rfl, Nat.le_of_ble_eq_true rfl⟩ rfl rfl (Nat.le_of_ble_eq_true rfl) (fun u h9 => ?_)
  rcases eT : tkF K 2 (gvF 4 A.1.1 A.1) with e | s
  · rw [eT] at h9
    obtain ⟨⟨f1, f2, f3⟩, f4⟩ := h9
    have he : e.1 = 1 ∨ e.1 = 2 := by
      unfold tkF psF at eT
      split at eT
      · split at eT
        · cases eT; exact Or.inr rfl
        · cases eT
      · cases eT; exact Or.inl rfl
    refine g_ald0 eX12_tableNamed_10 ?_
    refine g_getI (ci := 11) (j := 12) rfl (Nat.le_of_ble_eq_true rfl) (Nat.le_of_ble_eq_true rfl) (Nat.le_of_ble_eq_true rfl) rfl fl_X12_217 eX12_tableNamed_11 ?_
    rw [f2]
    refine g_if_le eX12_tableNamed_14 (fun hb => ?_) (fun hb => ?_)
    · exact absurd hb (nI_nle (by omega) (by omega))
    · refine g_iconst (v := 0) (by decide) eX12_tableNamed_17 ?_
      refine g_iret rfl eX12_tableNamed_18 ⟨_, rfl, ?_⟩
      try dsimp only
      unfold tnF
      rw [eT]
      exact ⟨⟨f1, f2, f3⟩, rfl, f4⟩
  · rw [eT] at h9
    obtain ⟨hf, h2⟩ := h9
    have hk2 : K A.1.1 = 2 := by
      unfold tkF at eT
      split at eT
      · assumption
      · cases eT
    have hSu := SB_fr hS hf
    obtain ⟨n1, n2, n3⟩ := hSu.2.1
    have hvu := hSu.1 A.1.1 h300 h.1.2.2
    have hW := hv.2.2.2.2.2.2.2 hk2
    have hN := hvu.2.2.2.1 hk2
    have hin : vp_in (nI A.1.1) 303 := vp_in_nI (by omega) (by decide)
    have hcl : (nI A.1.1).toNatClampNeg = A.1.1 := nI_clamp (by omega)
    refine g_ald0 eX12_tableNamed_10 ?_
    refine g_getI (ci := 11) (j := 12) rfl (Nat.le_of_ble_eq_true rfl) (Nat.le_of_ble_eq_true rfl) (Nat.le_of_ble_eq_true rfl) rfl fl_X12_217 eX12_tableNamed_11 ?_
    rw [h2.2.1]
    refine g_if_le eX12_tableNamed_14 (fun hb => ?_) (fun hb => ?_)
    · have hat : ∀ j, j < Nm.length → vp_in (nI j) 300 := fun j hj => vp_in_nI (by omega) (by decide)
      have loop : ∀ (f a : Nat), a + f = Nm.length → (lk qT (W A.1.1) Nm < a ∨ ∀ i, i < a → ¬ ((Nm.getD i (0, 0, 0)).1 = W A.1.1 ∧ qT (Nm.getD i (0, 0, 0)).2.1 = true)) → G xp l xe (rmd (3)) xs xm xa xb xme xc D cy xad xA (YX12_tableNamed.2.1, YX12_tableNamed.1.cls, YX12_tableNamed.2.2.1, YX12_tableNamed.2.2.2) (Pi (tnF K P W Nm st A)) 23 ([some (.ref 31), some (.int (nI A.1.1)), some (.int (if lk qT (W A.1.1) Nm < a then nI (Nm.getD (lk qT (W A.1.1) Nm) (0, 0, 0)).2.2 else -1)), some (.int (nI a))]) ([]) (u) := by
        intro f
        induction f with
        | zero =>
          intro a ha hinv
          have ea : a = Nm.length := by omega
          refine g_ild3 eX12_tableNamed_23 ?_
          refine g_ald0 eX12_tableNamed_24 ?_
          refine g_getI (ci := 11) (j := 28) rfl (Nat.le_of_ble_eq_true rfl) (Nat.le_of_ble_eq_true rfl) (Nat.le_of_ble_eq_true rfl) rfl fl_X12_253 eX12_tableNamed_25 ?_
          rw [n1]
          refine g_icmp_ge eX12_tableNamed_28 (fun hb3 => ?_) (fun hb3 => ?_)
          · refine g_ild2 eX12_tableNamed_75 ?_
            refine g_iconst (v := (-1)) (by decide) eX12_tableNamed_76 ?_
            by_cases q : lk qT (W A.1.1) Nm < Nm.length
            · rw [ea, if_pos q]
              have hle := (n3 _ q).2.2.2.2.2
              have hne : ¬ nI (Nm.getD (lk qT (W A.1.1) Nm) (0, 0, 0)).2.2 = -1 := fun z => absurd (show (nI (Nm.getD (lk qT (W A.1.1) Nm) (0, 0, 0)).2.2).toInt = (-1 : Int32).toInt by rw [z]) (by rw [nI_toInt (by omega)]; show ¬ (_ = (-1 : Int)); omega)
              refine g_icmp_ne eX12_tableNamed_77 (fun hb4 => ?_) (fun hb4 => ?_)
              · refine g_ild2 eX12_tableNamed_86 ?_
                refine g_iconst (v := (-1)) (by decide) eX12_tableNamed_87 ?_
                refine g_icmp_ne eX12_tableNamed_88 (fun hb5 => ?_) (fun hb5 => ?_)
                · refine g_ild2 eX12_tableNamed_95 ?_
                  refine g_iret rfl eX12_tableNamed_96 ⟨_, rfl, ?_⟩
                  try dsimp only
                  unfold tnF
                  rw [eT]
                  have ee : evW Nm P W A.2.2.2.1 (4, A.1.1) = A.2.2.2.1 := by
                    unfold evW
                    rw [if_pos rfl, if_pos q]
                  refine ⟨hf, ?_, ?_⟩
                  · unfold tbF; rw [if_pos q]
                  · rw [ee]; exact h2
                · exact absurd hb5 hne
              · exact absurd hb4 hne
            · rw [ea, if_neg q]
              refine g_icmp_ne eX12_tableNamed_77 (fun hb4 => ?_) (fun hb4 => ?_)
              · exact absurd rfl hb4
              · refine g_ald0 eX12_tableNamed_80 ?_
                refine g_iconst (v := 4) (by decide) eX12_tableNamed_81 ?_
                refine g_ild1 eX12_tableNamed_82 ?_
                refine g_callVv (ci := 11) (w_wrong u hSu.1 h2 4 (by decide) A.1.1 h300 h.1.2.2 4 rfl) rfl (Nat.le_of_ble_eq_true rfl) (Nat.le_of_ble_eq_true rfl) rfl cv_X12_292 eX12_tableNamed_83 ⟨Nat.le_of_ble_eq_true rfl, Nat.le_of_ble_eq_true rfl⟩ rfl rfl (Nat.le_of_ble_eq_true rfl) (fun w h3 => ?_)
                refine g_ild2 eX12_tableNamed_86 ?_
                refine g_iconst (v := (-1)) (by decide) eX12_tableNamed_87 ?_
                refine g_icmp_ne eX12_tableNamed_88 (fun hb5 => ?_) (fun hb5 => ?_)
                · exact absurd rfl hb5
                · refine g_iconst (v := 0) (by decide) eX12_tableNamed_91 ?_
                  refine g_goto eX12_tableNamed_92 ?_
                  refine g_iret rfl eX12_tableNamed_96 ⟨_, rfl, ?_⟩
                  try dsimp only
                  unfold tnF
                  rw [eT]
                  have ee : evW Nm P W A.2.2.2.1 (4, A.1.1) = wrg A.2.2.2.1 4 (P A.1.1) := by
                    unfold evW
                    rw [if_pos rfl, if_neg q]
                  refine ⟨hf.trans h3.1, ?_, ?_⟩
                  · unfold tbF; rw [if_neg q]; rfl
                  · rw [ee]; exact h3.2
          · exact absurd (nI_le (by omega) (by omega)) hb3
        | succ f ih =>
          intro a ha hinv
          have hka : vp_in (nI a) 300 := vp_in_nI (by omega) (by decide)
          have na := n3 a (by omega)
          have next : ∀ z : Int32, z = (if lk qT (W A.1.1) Nm < a + 1 then nI (Nm.getD (lk qT (W A.1.1) Nm) (0, 0, 0)).2.2 else -1) → (lk qT (W A.1.1) Nm < a + 1 ∨ ∀ i, i < a + 1 → ¬ ((Nm.getD i (0, 0, 0)).1 = W A.1.1 ∧ qT (Nm.getD i (0, 0, 0)).2.1 = true)) → G xp l xe (rmd (3)) xs xm xa xb xme xc D cy xad xA (YX12_tableNamed.2.1, YX12_tableNamed.1.cls, YX12_tableNamed.2.2.1, YX12_tableNamed.2.2.2) (Pi (tnF K P W Nm st A)) 69 ([some (.ref 31), some (.int (nI A.1.1)), some (.int z), some (.int (nI a))]) ([]) (u) := by
            intro z hz hi
            refine g_inc3 rfl (Nat.le_of_ble_eq_true rfl) rfl eX12_tableNamed_69 ?_
            refine g_goto eX12_tableNamed_72 ?_
            rw [inc1, hz]
            exact ih (a + 1) (by omega) hi
          refine g_ild3 eX12_tableNamed_23 ?_
          refine g_ald0 eX12_tableNamed_24 ?_
          refine g_getI (ci := 11) (j := 28) rfl (Nat.le_of_ble_eq_true rfl) (Nat.le_of_ble_eq_true rfl) (Nat.le_of_ble_eq_true rfl) rfl fl_X12_253 eX12_tableNamed_25 ?_
          rw [n1]
          refine g_icmp_ge eX12_tableNamed_28 (fun hb3 => ?_) (fun hb3 => ?_)
          · exact absurd hb3 (nI_ge (by omega) (by omega))
          · refine g_ild2 eX12_tableNamed_31 ?_
            refine g_iconst (v := (-1)) (by decide) eX12_tableNamed_32 ?_
            by_cases q : lk qT (W A.1.1) Nm < a
            · rw [if_pos q]
              have hle := (n3 _ (show lk qT (W A.1.1) Nm < Nm.length by omega)).2.2.2.2.2
              refine g_icmp_ne eX12_tableNamed_33 (fun hb4 => ?_) (fun hb4 => ?_)
              · exact next _ (by rw [if_pos (by omega)]) (Or.inl (by omega))
              · exact absurd (show (-1 : Int32).toInt = (nI (Nm.getD (lk qT (W A.1.1) Nm) (0, 0, 0)).2.2).toInt by rw [← hb4]) (by rw [nI_toInt (by omega)]; show ¬ ((-1 : Int) = _); omega)
            · rw [if_neg q]
              have hnone := hinv.resolve_left q
              have nomt : ¬ ((Nm.getD a (0, 0, 0)).1 = W A.1.1 ∧ qT (Nm.getD a (0, 0, 0)).2.1 = true) → G xp l xe (rmd (3)) xs xm xa xb xme xc D cy xad xA (YX12_tableNamed.2.1, YX12_tableNamed.1.cls, YX12_tableNamed.2.2.1, YX12_tableNamed.2.2.2) (Pi (tnF K P W Nm st A)) 69 ([some (.ref 31), some (.int (nI A.1.1)), some (.int (-1)), some (.int (nI a))]) ([]) (u) := by
                intro hno
                have hall : ∀ i, i < a + 1 → ¬ ((Nm.getD i (0, 0, 0)).1 = W A.1.1 ∧ qT (Nm.getD i (0, 0, 0)).2.1 = true) := by
                  intro i hi
                  by_cases e : i = a
                  · rw [e]; exact hno
                  · exact hnone i (by omega)
                refine next _ ?_ (Or.inr hall)
                rw [if_neg (fun z => hall _ z (lk_at qT (W A.1.1) Nm (0, 0, 0) (by omega)))]
              refine g_icmp_ne eX12_tableNamed_33 (fun hb4 => ?_) (fun hb4 => ?_)
              · exact absurd rfl hb4
              · refine g_ald0 eX12_tableNamed_36 ?_
                refine g_getR (ci := 11) (j := 29) rfl (Nat.le_of_ble_eq_true rfl) (Nat.le_of_ble_eq_true rfl) (Nat.le_of_ble_eq_true rfl) rfl rfl fl_X12_58 eX12_tableNamed_37 ?_
                refine g_ild3 eX12_tableNamed_40 ?_
                refine g_lald rfl (Nat.le_of_ble_eq_true rfl) hka eX12_tableNamed_41 ?_
                rw [nI_clamp (by omega), na.1]
                refine g_ald0 eX12_tableNamed_42 ?_
                refine g_getR (ci := 11) (j := 7) rfl (Nat.le_of_ble_eq_true rfl) (Nat.le_of_ble_eq_true rfl) (Nat.le_of_ble_eq_true rfl) rfl rfl fl_X12_26 eX12_tableNamed_43 ?_
                refine g_ild1 eX12_tableNamed_46 ?_
                refine g_lald rfl (Nat.le_of_ble_eq_true rfl) hin eX12_tableNamed_47 ?_
                rw [hcl, hN]
                refine g_lcmp eX12_tableNamed_48 ?_
                refine g_if_ne eX12_tableNamed_49 (fun hb5 => ?_) (fun hb5 => ?_)
                · rw [lg_cmp_eq, pk_lEQ (by omega) (by omega)] at hb5
                  exact nomt (fun z => hb5 z.1)
                · rw [lg_cmp_eq, pk_lEQ (by omega) (by omega)] at hb5
                  refine g_ald0 eX12_tableNamed_52 ?_
                  refine g_getR (ci := 11) (j := 30) rfl (Nat.le_of_ble_eq_true rfl) (Nat.le_of_ble_eq_true rfl) (Nat.le_of_ble_eq_true rfl) rfl rfl fl_X12_61 eX12_tableNamed_53 ?_
                  refine g_ild3 eX12_tableNamed_56 ?_
                  refine g_iald rfl (Nat.le_of_ble_eq_true rfl) hka eX12_tableNamed_57 ?_
                  rw [nI_clamp (by omega), na.2.1]
                  refine g_iconst (v := 2) (by decide) eX12_tableNamed_58 ?_
                  have hs2 := na.2.2.2.2.1
                  refine g_icmp_ne eX12_tableNamed_59 (fun hb6 => ?_) (fun hb6 => ?_)
                  · have e0 : ¬ (Nm.getD a (0, 0, 0)).2.1 = 2 := fun z => hb6 (by rw [z]; rfl)
                    exact nomt (fun z => e0 (of_decide_eq_true z.2))
                  · have e0 : (Nm.getD a (0, 0, 0)).2.1 = 2 := (nI_eq (b := 2) (by omega) (by omega)).mp hb6
                    have hlk : lk qT (W A.1.1) Nm = a := lk_is (d := (0, 0, 0)) (by omega) hnone (fun _ => ⟨hb5, decide_eq_true e0⟩)
                    refine g_ald0 eX12_tableNamed_62 ?_
                    refine g_getR (ci := 11) (j := 31) rfl (Nat.le_of_ble_eq_true rfl) (Nat.le_of_ble_eq_true rfl) (Nat.le_of_ble_eq_true rfl) rfl rfl fl_X12_64 eX12_tableNamed_63 ?_
                    refine g_ild3 eX12_tableNamed_66 ?_
                    refine g_iald rfl (Nat.le_of_ble_eq_true rfl) hka eX12_tableNamed_67 ?_
                    rw [nI_clamp (by omega), na.2.2.1]
                    refine g_ist2 rfl (Nat.le_of_ble_eq_true rfl) eX12_tableNamed_68 ?_
                    refine next _ ?_ (Or.inl (by omega))
                    rw [hlk, if_pos (by omega)]
      refine g_iconst (v := (-1)) (by decide) eX12_tableNamed_19 ?_
      refine g_ist2 rfl (Nat.le_of_ble_eq_true rfl) eX12_tableNamed_20 ?_
      refine g_iconst (v := 0) (by decide) eX12_tableNamed_21 ?_
      refine g_ist3 rfl (Nat.le_of_ble_eq_true rfl) eX12_tableNamed_22 ?_
      have h0 := loop Nm.length 0 (by omega) (Or.inr (fun i hi => absurd hi (Nat.not_lt_zero _)))
      rw [if_neg (Nat.not_lt_zero _)] at h0
      exact h0
    · exact absurd (show (0 : Int32) ≤ 0 by decide) hb
theorem w_tableNamedD (st : St) {f t : Nat} (hf : st.1 31 12 = nI f) (h0 : 1 ≤ f) (h9 : f < 10) : Mi l D cy 3 YX12_tableNamed [.ref 31] st (fun r u => u = st ∧ r = 0) := by
  refine M.ofG [some (.ref 31), none, none, none] (by decide) (Nat.le_of_ble_eq_true rfl) rfl ?_
  intro xp xe xs xm xa xb xme xc xad xA
  refine g_ald0 eX12_tableNamed_0 ?_
  refine g_getI (ci := 11) (j := 10) rfl (Nat.le_of_ble_eq_true rfl) (Nat.le_of_ble_eq_true rfl) (Nat.le_of_ble_eq_true rfl) rfl fl_X12_220 eX12_tableNamed_1 ?_
  refine g_ist1 rfl (Nat.le_of_ble_eq_true rfl) eX12_tableNamed_4 ?_
  refine g_ald0 eX12_tableNamed_5 ?_
  refine g_iconst (v := 1) (by decide) eX12_tableNamed_6 ?_
  refine g_callVv (ci := 11) (w_mustD st hf h0 h9 1) rfl (Nat.le_of_ble_eq_true rfl) (Nat.le_of_ble_eq_true rfl) rfl cv_X12_289 eX12_tableNamed_7 ⟨Nat.le_of_ble_eq_true rfl, Nat.le_of_ble_eq_true rfl⟩ rfl rfl (Nat.le_of_ble_eq_true rfl) (fun st h => ?_)
  subst h
  refine g_ald0 eX12_tableNamed_10 ?_
  refine g_getI (ci := 11) (j := 12) rfl (Nat.le_of_ble_eq_true rfl) (Nat.le_of_ble_eq_true rfl) (Nat.le_of_ble_eq_true rfl) rfl fl_X12_217 eX12_tableNamed_11 ?_
  rw [hf]
  refine g_if_le eX12_tableNamed_14 (fun hb => ?_) (fun hb => ?_)
  · exact absurd hb (nI_nle (by omega) (by omega))
  · refine g_iconst (v := 0) (by decide) eX12_tableNamed_17 ?_
    exact g_iret rfl eX12_tableNamed_18 ⟨_, rfl, ⟨rfl, rfl⟩⟩
end UNIT
