/-! NAMES: what they are (pure), and the class -/
abbrev NE : Type := Nat × Nat × Int
def fnd (v : Nat) : List NE → Nat
  | [] => 0
  | e :: r => if e.1 = v then 0 else fnd v r + 1
theorem fnd_le (v : Nat) : ∀ E : List NE, fnd v E ≤ E.length
  | [] => Nat.le_refl _
  | e :: r => by
    have := fnd_le v r
    rw [fnd, List.length_cons]
    split <;> omega
theorem fnd_at (v : Nat) : ∀ (E : List NE) (d : NE), fnd v E < E.length → (E.getD (fnd v E) d).1 = v
  | [], d, h => absurd h (by simp [fnd])
  | e :: r, d, h => by
    rw [fnd] at h ⊢
    by_cases q : e.1 = v
    · rw [if_pos q]; exact q
    · rw [if_neg q] at h ⊢
      exact fnd_at v r d (by simp at h; exact h)
theorem fnd_lt (v : Nat) : ∀ (E : List NE) (d : NE) (j : Nat), j < fnd v E → (E.getD j d).1 ≠ v
  | [], d, j, h => absurd h (by simp [fnd])
  | e :: r, d, j, h => by
    rw [fnd] at h
    by_cases q : e.1 = v
    · rw [if_pos q] at h; omega
    · rw [if_neg q] at h
      cases j with
      | zero => exact q
      | succ j => exact fnd_lt v r d j (by omega)
theorem fnd_is {v : Nat} {E : List NE} {d : NE} {j : Nat} (hj : j ≤ E.length) (h1 : ∀ i, i < j → (E.getD i d).1 ≠ v) (h2 : j < E.length → (E.getD j d).1 = v) : fnd v E = j := by
  have a := fnd_le v E
  by_cases q : fnd v E < j
  · exact absurd (fnd_at v E d (by omega)) (h1 _ q)
  · by_cases q2 : j < fnd v E
    · exact absurd (h2 (by omega)) (fnd_lt v E d j q2)
    · omega
abbrev prm (t : Nat) : Prop := t = 2 ∨ t = 3 ∨ t = 5 ∨ t = 7 ∨ t = 11 ∨ t = 13
def nbL (K : Nat → Nat) (cnt : Nat) : Nat → Nat → Nat
  | 0, _ => 0
  | f + 1, i => if i < cnt ∧ K i ≠ 59 then (if K i = 3 then 1 else 0) + nbL K cnt f (i + 1) else 0
def nbF (K : Nat → Nat) (cnt i : Nat) : Nat := nbL K cnt (cnt - (i + 1)) (i + 1)
def fauF (t : Nat) (K V : Nat → Nat) (cnt i : Nat) (E : List NE) (ins : Nat) : Nat × List NE × Nat :=
  if K (i - 1) = 4 then (if fnd (V i) E < E.length then 3 else 0, E ++ [(V i, 4, ((40 + ins : Nat) : Int))], ins + 1)
  else if K (i - 1) = 6 then (if fnd (V i) E < E.length then 3 else 0, E, ins)
  else if K (i - 1) = 5 then (if fnd (V i) E < E.length then 3 else if prm t ∧ nbF K cnt i = t then 0 else 5, E ++ [(V i, 5, (i : Int))], ins)
  else if K (i - 1) = 9 then (if fnd (V i) E < E.length ∧ (E.getD (fnd (V i) E) (0, 0, 0)).2.1 = 5 then 0 else 4, E, ins)
  else (if fnd (V i) E < E.length ∧ (E.getD (fnd (V i) E) (0, 0, 0)).2.1 ≠ 5 then 0 else 4, E, ins)
def scnL (t : Nat) (K V : Nat → Nat) (cnt : Nat) : Nat → Nat → List NE → Nat → Nat → (Nat × Nat) ⊕ (List NE × Nat)
  | 0, _, E, ins, _ => .inr (E, ins)
  | f + 1, i, E, ins, lt => if K i = 2 then (if (fauF t K V cnt i E ins).1 = 0 then scnL t K V cnt f (i + 1) (fauF t K V cnt i E ins).2.1 (fauF t K V cnt i E ins).2.2 (if K (i - 1) = 6 then i else lt) else .inl ((fauF t K V cnt i E ins).1, i))
    else if K i = 59 ∧ 0 < lt then scnL t K V cnt f (i + 1) (E ++ [(V lt, 6, (lt : Int))]) ins 0 else scnL t K V cnt f (i + 1) E ins lt
def scnF (t : Nat) (K V : Nat → Nat) (cnt : Nat) : (Nat × Nat) ⊕ (List NE × Nat) := scnL t K V cnt (cnt - 1) 1 [] 0 0
/-- the tokens as the later goes need them -/
def nvOK (K P V : Nat → Nat) (cnt : Nat) (st : St) : Prop := st.1 4 3 = nI cnt ∧ cnt ≤ 300 ∧ ∀ k, k ≤ cnt → st.1 5 k = nI (K k) ∧ st.1 6 k = nI (P k) ∧ st.2 7 k = lN (V k) ∧ K k < 256 ∧ V k < 1099511627776
def nmOK (st : St) (E : List NE) : Prop := st.1 10 4 = nI E.length ∧ (∀ j, j < E.length → st.2 11 j = lN (E.getD j (0, 0, 0)).1 ∧ st.1 12 j = nI (E.getD j (0, 0, 0)).2.1 ∧ (st.1 13 j).toInt = (E.getD j (0, 0, 0)).2.2) ∧ ∀ j, j < E.length → (E.getD j (0, 0, 0)).1 < 1099511627776 ∧ (E.getD j (0, 0, 0)).2.1 < 10
def nFr (st u : St) : Prop := (∀ a, a ≠ 10 → a ≠ 12 → a ≠ 13 → u.1 a = st.1 a) ∧ (∀ a, a ≠ 11 → u.2 a = st.2 a) ∧ u.1 10 0 = st.1 10 0
theorem nFr.refl (st : St) : nFr st st := ⟨fun _ _ _ _ => rfl, fun _ _ => rfl, rfl⟩
theorem nFr.trans {a b c : St} (h1 : nFr a b) (h2 : nFr b c) : nFr a c := ⟨fun k x y z => (h2.1 k x y z).trans (h1.1 k x y z), fun k x => (h2.2.1 k x).trans (h1.2.1 k x), h2.2.2.trans h1.2.2⟩
theorem nv_fr {K P V : Nat → Nat} {cnt : Nat} {st u : St} (h : nvOK K P V cnt st) (hf : nFr st u) : nvOK K P V cnt u := by
  unfold nvOK
  rw [hf.1 4 (by decide) (by decide) (by decide), hf.1 5 (by decide) (by decide) (by decide), hf.1 6 (by decide) (by decide) (by decide), hf.2.1 7 (by decide)]
  exact h
theorem sL_at (st : St) (k j : Nat) (x : Int64) (b : Nat) : (sL st k j x).2 k b = if b = j then x else st.2 k b := by
  rw [sL_2]
  by_cases h : b = j
  · rw [if_pos ⟨rfl, h⟩, if_pos h]
  · rw [if_neg (fun q => h q.2), if_neg h]
section NAMC
variable {l : Launch} {D : va_G} {cy : Nat → ClassId} {K P V : Nat → Nat} {cnt : Nat}
theorem m_find (st : St) {E : List NE} (hn : nmOK st E) (hE : E.length ≤ 300) (v : Nat) (hv : v < 1099511627776) : Mi l D cy 0 YX4_find [.ref 10, .long (lN v)] st (fun r u => u = st ∧ r = if fnd v E < E.length then nI (fnd v E) else -1) := by
  obtain ⟨h1, h2, h3⟩ := hn
  refine M.ofG [some (.ref 10), some (.long (lN v)), none, none] (by decide) (Nat.le_of_ble_eq_true rfl) rfl ?_
  intro xp xe xs xm xa xb xme xc xad xA
  have loop : ∀ (f a : Nat), a + f = E.length → (∀ i, i < a → (E.getD i (0, 0, 0)).1 ≠ v) → G xp l xe (rmd (0)) xs xm xa xb xme xc D cy xad xA (YX4_find.2.1, YX4_find.1.cls, YX4_find.2.2.1, YX4_find.2.2.2) (Pi (fun (r : Int32) (u : St) => u = st ∧ r = if fnd v E < E.length then nI (fnd v E) else -1)) 2 ([some (.ref 10), some (.long (lN v)), none, some (.int (nI a))]) ([]) (st) := by
    intro f
    induction f with
    | zero =>
      intro a ha hall
      refine g_ild3 eX4_find_2 ?_
      refine g_ald0 eX4_find_3 ?_
      refine g_getI (ci := 4) (j := 4) rfl (Nat.le_of_ble_eq_true rfl) (Nat.le_of_ble_eq_true rfl) (Nat.le_of_ble_eq_true rfl) rfl fl_X4_24 eX4_find_4 ?_
      rw [h1]
      refine g_icmp_ge eX4_find_7 (fun hb => ?_) (fun hb => ?_)
      · refine g_iconst (v := (-1)) (by decide) eX4_find_29 ?_
        refine g_iret rfl eX4_find_30 ⟨_, rfl, ?_⟩
        try dsimp only
        refine ⟨rfl, ?_⟩
        rw [fnd_is (d := (0, 0, 0)) (by omega) hall (fun q => by omega), if_neg (by omega)]
      · exact absurd (nI_le (by omega) (by omega)) hb
    | succ f ih =>
      intro a ha hall
      have hin : vp_in (nI a) 300 := vp_in_nI (by omega) (by decide)
      refine g_ild3 eX4_find_2 ?_
      refine g_ald0 eX4_find_3 ?_
      refine g_getI (ci := 4) (j := 4) rfl (Nat.le_of_ble_eq_true rfl) (Nat.le_of_ble_eq_true rfl) (Nat.le_of_ble_eq_true rfl) rfl fl_X4_24 eX4_find_4 ?_
      rw [h1]
      refine g_icmp_ge eX4_find_7 (fun hb => ?_) (fun hb => ?_)
      · exact absurd hb (nI_ge (by omega) (by omega))
      · refine g_ald0 eX4_find_10 ?_
        refine g_getR (ci := 4) (j := 1) rfl (Nat.le_of_ble_eq_true rfl) (Nat.le_of_ble_eq_true rfl) (Nat.le_of_ble_eq_true rfl) rfl rfl fl_X4_11 eX4_find_11 ?_
        refine g_ild3 eX4_find_14 ?_
        refine g_lald rfl (Nat.le_of_ble_eq_true rfl) hin eX4_find_15 ?_
        rw [nI_clamp (by omega), (h2 a (by omega)).1]
        refine g_lld1 eX4_find_16 ?_
        refine g_lcmp eX4_find_17 ?_
        have h9 := (h3 a (by omega)).1
        refine g_if_ne eX4_find_18 (fun hb2 => ?_) (fun hb2 => ?_)
        · rw [lg_cmp_eq, pk_lEQ (by omega) (by omega)] at hb2
          refine g_inc3 rfl (Nat.le_of_ble_eq_true rfl) rfl eX4_find_23 ?_
          refine g_goto eX4_find_26 ?_
          rw [inc1]
          refine ih (a + 1) (by omega) (fun i hi => ?_)
          by_cases e : i = a
          · rw [e]; exact hb2
          · exact hall i (by omega)
        · rw [lg_cmp_eq, pk_lEQ (by omega) (by omega)] at hb2
          refine g_ild3 eX4_find_21 ?_
          refine g_iret rfl eX4_find_22 ⟨_, rfl, ?_⟩
          try dsimp only
          refine ⟨rfl, ?_⟩
          rw [fnd_is (d := (0, 0, 0)) (by omega) hall (fun _ => hb2), if_pos (by omega)]
  refine g_iconst (v := 0) (by decide) eX4_find_0 ?_
  refine g_ist3 rfl (Nat.le_of_ble_eq_true rfl) eX4_find_1 ?_
  exact loop E.length 0 (by omega) (fun i hi => absurd hi (Nat.not_lt_zero _))
theorem m_nadd (st : St) {E : List NE} (hn : nmOK st E) (hE : E.length < 300) (v : Nat) (hv : v < 1099511627776) (s : Nat) (hs : s < 10) (z : Int32) : Mv l D cy 0 YX4_add [.ref 10, .long (lN v), .int (nI s), .int z] st (fun u => nFr st u ∧ nmOK u (E ++ [(v, s, z.toInt)]) ∧ u.1 10 5 = st.1 10 5 ∧ u.1 10 6 = st.1 10 6) := by
  obtain ⟨h1, h2, h3⟩ := hn
  have hcl : (nI E.length).toNatClampNeg = E.length := nI_clamp (by omega)
  have hin : vp_in (nI E.length) 300 := vp_in_nI (by omega) (by decide)
  refine M.ofG [some (.ref 10), some (.long (lN v)), none, some (.int (nI s)), some (.int z)] (by decide) (Nat.le_of_ble_eq_true rfl) rfl ?_
  intro xp xe xs xm xa xb xme xc xad xA
  refine g_ald0 eX4_add_0 ?_
  refine g_getI (ci := 4) (j := 4) rfl (Nat.le_of_ble_eq_true rfl) (Nat.le_of_ble_eq_true rfl) (Nat.le_of_ble_eq_true rfl) rfl fl_X4_24 eX4_add_1 ?_
  rw [h1]
  refine g_ald0 eX4_add_4 ?_
  refine g_getR (ci := 4) (j := 1) rfl (Nat.le_of_ble_eq_true rfl) (Nat.le_of_ble_eq_true rfl) (Nat.le_of_ble_eq_true rfl) rfl rfl fl_X4_11 eX4_add_5 ?_
  refine g_alen (by first | decide | (rw [kd_ya hi]; decide)) (by first | decide | (rw [kd_ya hi]; decide)) (Nat.le_of_ble_eq_true rfl) rfl eX4_add_8 ?_
  refine g_icmp_ge eX4_add_9 (fun hb => ?_) (fun hb => ?_)
  · exact absurd hb (nI_ge (a := E.length) (b := 300) (by omega) (by omega))
  · refine g_ald0 eX4_add_12 ?_
    refine g_getR (ci := 4) (j := 1) rfl (Nat.le_of_ble_eq_true rfl) (Nat.le_of_ble_eq_true rfl) (Nat.le_of_ble_eq_true rfl) rfl rfl fl_X4_11 eX4_add_13 ?_
    refine g_ald0 eX4_add_16 ?_
    refine g_getI (ci := 4) (j := 4) rfl (Nat.le_of_ble_eq_true rfl) (Nat.le_of_ble_eq_true rfl) (Nat.le_of_ble_eq_true rfl) rfl fl_X4_24 eX4_add_17 ?_
    rw [h1]
    refine g_lld1 eX4_add_20 ?_
    refine g_last rfl (Nat.le_of_ble_eq_true rfl) hin eX4_add_21 ?_
    refine g_ald0 eX4_add_22 ?_
    refine g_getR (ci := 4) (j := 2) rfl (Nat.le_of_ble_eq_true rfl) (Nat.le_of_ble_eq_true rfl) (Nat.le_of_ble_eq_true rfl) rfl rfl fl_X4_17 eX4_add_23 ?_
    refine g_ald0 eX4_add_26 ?_
    refine g_getI (ci := 4) (j := 4) rfl (Nat.le_of_ble_eq_true rfl) (Nat.le_of_ble_eq_true rfl) (Nat.le_of_ble_eq_true rfl) rfl fl_X4_24 eX4_add_27 ?_
    rw [hcl, show (sL st 11 E.length (lN v)).1 10 4 = nI E.length from h1]
    refine g_ild3 eX4_add_30 ?_
    refine g_iast rfl (Nat.le_of_ble_eq_true rfl) hin eX4_add_31 ?_
    refine g_ald0 eX4_add_32 ?_
    refine g_getR (ci := 4) (j := 3) rfl (Nat.le_of_ble_eq_true rfl) (Nat.le_of_ble_eq_true rfl) (Nat.le_of_ble_eq_true rfl) rfl rfl fl_X4_21 eX4_add_33 ?_
    refine g_ald0 eX4_add_36 ?_
    refine g_getI (ci := 4) (j := 4) rfl (Nat.le_of_ble_eq_true rfl) (Nat.le_of_ble_eq_true rfl) (Nat.le_of_ble_eq_true rfl) rfl fl_X4_24 eX4_add_37 ?_
    rw [hcl, show (sI (sL st 11 E.length (lN v)) 12 E.length (nI s)).1 10 4 = nI E.length from h1]
    refine g_ild4 eX4_add_40 ?_
    refine g_iast rfl (Nat.le_of_ble_eq_true rfl) hin eX4_add_42 ?_
    refine g_ald0 eX4_add_43 ?_
    refine g_dup rfl eX4_add_44 ?_
    refine g_getI (ci := 4) (j := 4) rfl (Nat.le_of_ble_eq_true rfl) (Nat.le_of_ble_eq_true rfl) (Nat.le_of_ble_eq_true rfl) rfl fl_X4_24 eX4_add_45 ?_
    rw [hcl, show (sI (sI (sL st 11 E.length (lN v)) 12 E.length (nI s)) 13 E.length z).1 10 4 = nI E.length from h1]
    refine g_iconst (v := 1) (by decide) eX4_add_48 ?_
    refine g_iadd eX4_add_49 ?_
    refine g_putI (ci := 4) (j := 4) rfl rfl (Nat.le_of_ble_eq_true rfl) (Nat.le_of_ble_eq_true rfl) (Nat.le_of_ble_eq_true rfl) rfl fl_X4_24 eX4_add_50 ?_
    rw [show nI E.length + 1 = nI (E.length + 1) from nI_1 _]
    refine g_vret rfl eX4_add_53 ⟨rfl, ?_⟩
    try dsimp only
    refine ⟨⟨fun a x y w => ?_, fun a x => ?_, ?_⟩, ⟨?_, fun j hj => ?_, fun j hj => ?_⟩, ?_, ?_⟩
    · rw [sI_row x, sI_row w, sI_row y]; rfl
    · exact sL_row x
    · rw [sI_1, if_neg (by omega)]; rfl
    · rw [sI_1, if_pos ⟨rfl, rfl⟩, List.length_append]; rfl
    · rw [List.length_append, List.length_singleton] at hj
      rw [getD_app]
      rw [show (sI (sI (sI (sL st 11 E.length (lN v)) 12 E.length (nI s)) 13 E.length z) 10 4 (nI (E.length + 1))).2 11 j = (sL st 11 E.length (lN v)).2 11 j from rfl, sL_at]
      rw [sI_row (a := 12) (by decide), sI_row (a := 12) (by decide), sI_at, sI_row (a := 13) (by decide), sI_at, sI_row (a := 13) (by decide)]
      by_cases e : j = E.length
      · simp only [if_pos e, if_neg (show ¬ j < E.length by omega)]
        refine ⟨?_, ?_, ?_⟩ <;> first | rfl | trivial
      · simp only [if_neg e, if_pos (show j < E.length by omega)]
        exact h2 j (by omega)
    · rw [List.length_append, List.length_singleton] at hj
      rw [getD_app]
      by_cases e : j = E.length
      · simp only [if_pos e, if_neg (show ¬ j < E.length by omega)]
        exact ⟨hv, hs⟩
      · simp only [if_pos (show j < E.length by omega)]
        exact h3 j (by omega)
    · rw [sI_1, if_neg (by omega)]; rfl
    · rw [sI_1, if_neg (by omega)]; rfl
theorem m_nprime (st : St) (t : Nat) (ht : st.1 10 0 = nI t) (h9 : t < 100) : Mi l D cy 0 YX4_isPrime [.ref 10] st (fun r u => u = st ∧ r = b2 (prm t)) := by
  have hq : (st.1 10 0).toInt = t := by rw [ht, nI_toInt (by omega)]
  refine M.ofG [some (.ref 10)] (by decide) (Nat.le_of_ble_eq_true rfl) rfl ?_
  intro xp xe xs xm xa xb xme xc xad xA
  refine g_ald0 eX4_isPrime_0 ?_
  refine g_getI (ci := 4) (j := 0) rfl (Nat.le_of_ble_eq_true rfl) (Nat.le_of_ble_eq_true rfl) (Nat.le_of_ble_eq_true rfl) rfl fl_X4_34 eX4_isPrime_1 ?_
  refine g_iconst (v := 2) (by decide) eX4_isPrime_4 ?_
  refine g_icmp_eq eX4_isPrime_5 (fun hb5 => ?_) (fun hb5 => ?_)
  · try simp only [fa_lt, fa_le, fa_eq, Int32.reduceToInt] at hb5
    refine g_iconst (v := 1) (by decide) eX4_isPrime_51 ?_
    refine g_goto eX4_isPrime_52 ?_
    refine g_zret (ty := .boolean) rfl (by first | rfl | assumption) eX4_isPrime_56 ⟨_, rfl, ?_⟩
    try dsimp only
    first | exact ⟨rfl, b2_t (by omega)⟩ | exact ⟨rfl, b2_f (by omega)⟩
  · try simp only [fa_lt, fa_le, fa_eq, Int32.reduceToInt] at hb5
    refine g_ald0 eX4_isPrime_8 ?_
    refine g_getI (ci := 4) (j := 0) rfl (Nat.le_of_ble_eq_true rfl) (Nat.le_of_ble_eq_true rfl) (Nat.le_of_ble_eq_true rfl) rfl fl_X4_34 eX4_isPrime_9 ?_
    refine g_iconst (v := 3) (by decide) eX4_isPrime_12 ?_
    refine g_icmp_eq eX4_isPrime_13 (fun hb13 => ?_) (fun hb13 => ?_)
    · try simp only [fa_lt, fa_le, fa_eq, Int32.reduceToInt] at hb13
      refine g_iconst (v := 1) (by decide) eX4_isPrime_51 ?_
      refine g_goto eX4_isPrime_52 ?_
      refine g_zret (ty := .boolean) rfl (by first | rfl | assumption) eX4_isPrime_56 ⟨_, rfl, ?_⟩
      try dsimp only
      first | exact ⟨rfl, b2_t (by omega)⟩ | exact ⟨rfl, b2_f (by omega)⟩
    · try simp only [fa_lt, fa_le, fa_eq, Int32.reduceToInt] at hb13
      refine g_ald0 eX4_isPrime_16 ?_
      refine g_getI (ci := 4) (j := 0) rfl (Nat.le_of_ble_eq_true rfl) (Nat.le_of_ble_eq_true rfl) (Nat.le_of_ble_eq_true rfl) rfl fl_X4_34 eX4_isPrime_17 ?_
      refine g_iconst (v := 5) (by decide) eX4_isPrime_20 ?_
      refine g_icmp_eq eX4_isPrime_21 (fun hb21 => ?_) (fun hb21 => ?_)
      · try simp only [fa_lt, fa_le, fa_eq, Int32.reduceToInt] at hb21
        refine g_iconst (v := 1) (by decide) eX4_isPrime_51 ?_
        refine g_goto eX4_isPrime_52 ?_
        refine g_zret (ty := .boolean) rfl (by first | rfl | assumption) eX4_isPrime_56 ⟨_, rfl, ?_⟩
        try dsimp only
        first | exact ⟨rfl, b2_t (by omega)⟩ | exact ⟨rfl, b2_f (by omega)⟩
      · try simp only [fa_lt, fa_le, fa_eq, Int32.reduceToInt] at hb21
        refine g_ald0 eX4_isPrime_24 ?_
        refine g_getI (ci := 4) (j := 0) rfl (Nat.le_of_ble_eq_true rfl) (Nat.le_of_ble_eq_true rfl) (Nat.le_of_ble_eq_true rfl) rfl fl_X4_34 eX4_isPrime_25 ?_
        refine g_bipush (v := 7) (by decide) eX4_isPrime_28 ?_
        refine g_icmp_eq eX4_isPrime_30 (fun hb30 => ?_) (fun hb30 => ?_)
        · try simp only [fa_lt, fa_le, fa_eq, Int32.reduceToInt] at hb30
          refine g_iconst (v := 1) (by decide) eX4_isPrime_51 ?_
          refine g_goto eX4_isPrime_52 ?_
          refine g_zret (ty := .boolean) rfl (by first | rfl | assumption) eX4_isPrime_56 ⟨_, rfl, ?_⟩
          try dsimp only
          first | exact ⟨rfl, b2_t (by omega)⟩ | exact ⟨rfl, b2_f (by omega)⟩
        · try simp only [fa_lt, fa_le, fa_eq, Int32.reduceToInt] at hb30
          refine g_ald0 eX4_isPrime_33 ?_
          refine g_getI (ci := 4) (j := 0) rfl (Nat.le_of_ble_eq_true rfl) (Nat.le_of_ble_eq_true rfl) (Nat.le_of_ble_eq_true rfl) rfl fl_X4_34 eX4_isPrime_34 ?_
          refine g_bipush (v := 11) (by decide) eX4_isPrime_37 ?_
          refine g_icmp_eq eX4_isPrime_39 (fun hb39 => ?_) (fun hb39 => ?_)
          · try simp only [fa_lt, fa_le, fa_eq, Int32.reduceToInt] at hb39
            refine g_iconst (v := 1) (by decide) eX4_isPrime_51 ?_
            refine g_goto eX4_isPrime_52 ?_
            refine g_zret (ty := .boolean) rfl (by first | rfl | assumption) eX4_isPrime_56 ⟨_, rfl, ?_⟩
            try dsimp only
            first | exact ⟨rfl, b2_t (by omega)⟩ | exact ⟨rfl, b2_f (by omega)⟩
          · try simp only [fa_lt, fa_le, fa_eq, Int32.reduceToInt] at hb39
            refine g_ald0 eX4_isPrime_42 ?_
            refine g_getI (ci := 4) (j := 0) rfl (Nat.le_of_ble_eq_true rfl) (Nat.le_of_ble_eq_true rfl) (Nat.le_of_ble_eq_true rfl) rfl fl_X4_34 eX4_isPrime_43 ?_
            refine g_bipush (v := 13) (by decide) eX4_isPrime_46 ?_
            refine g_icmp_ne eX4_isPrime_48 (fun hb48 => ?_) (fun hb48 => ?_)
            · try simp only [fa_lt, fa_le, fa_eq, Int32.reduceToInt] at hb48
              refine g_iconst (v := 0) (by decide) eX4_isPrime_55 ?_
              refine g_zret (ty := .boolean) rfl (by first | rfl | assumption) eX4_isPrime_56 ⟨_, rfl, ?_⟩
              try dsimp only
              first | exact ⟨rfl, b2_t (by omega)⟩ | exact ⟨rfl, b2_f (by omega)⟩
            · try simp only [fa_lt, fa_le, fa_eq, Int32.reduceToInt] at hb48
              refine g_iconst (v := 1) (by decide) eX4_isPrime_51 ?_
              refine g_goto eX4_isPrime_52 ?_
              refine g_zret (ty := .boolean) rfl (by first | rfl | assumption) eX4_isPrime_56 ⟨_, rfl, ?_⟩
              try dsimp only
              first | exact ⟨rfl, b2_t (by omega)⟩ | exact ⟨rfl, b2_f (by omega)⟩
theorem nbL_le (K : Nat → Nat) (c : Nat) : ∀ f i, nbL K c f i ≤ f
  | 0, _ => Nat.le_refl _
  | f + 1, i => by
    have := nbL_le K c f (i + 1)
    rw [nbL]
    split
    · split <;> omega
    · omega
theorem m_numbersBehind (st : St) (hv : nvOK K P V cnt st) (i0 : Nat) (hi : i0 < cnt) : Mi l D cy 0 YX4_numbersBehind [.ref 4, .int (nI i0)] st (fun r u => u = st ∧ r = nI (nbF K cnt i0)) := by
  obtain ⟨h1, h2, h3⟩ := hv
  refine M.ofG [some (.ref 4), some (.int (nI i0)), none, none] (by decide) (Nat.le_of_ble_eq_true rfl) rfl ?_
  intro xp xe xs xm xa xb xme xc xad xA
  have loop : ∀ (f i m : Nat), i + f = cnt → m + nbL K cnt f i = nbF K cnt i0 → G xp l xe (rmd (0)) xs xm xa xb xme xc D cy xad xA (YX4_numbersBehind.2.1, YX4_numbersBehind.1.cls, YX4_numbersBehind.2.2.1, YX4_numbersBehind.2.2.2) (Pi (fun (r : Int32) (u : St) => u = st ∧ r = nI (nbF K cnt i0))) 6 ([some (.ref 4), some (.int (nI i0)), some (.int (nI m)), some (.int (nI i))]) ([]) (st) := by
    intro f
    induction f with
    | zero =>
      intro i m hf hm
      refine g_ild3 eX4_numbersBehind_6 ?_
      refine g_ald0 eX4_numbersBehind_7 ?_
      refine g_getI (ci := 9) (j := 3) rfl (Nat.le_of_ble_eq_true rfl) (Nat.le_of_ble_eq_true rfl) (Nat.le_of_ble_eq_true rfl) rfl fl_X4_37 eX4_numbersBehind_8 ?_
      rw [h1]
      refine g_icmp_ge eX4_numbersBehind_11 (fun hb => ?_) (fun hb => ?_)
      · refine g_ild2 eX4_numbersBehind_49 ?_
        exact g_iret rfl eX4_numbersBehind_50 ⟨_, rfl, ⟨rfl, by rw [← hm]; rfl⟩⟩
      · exact absurd (nI_le (by omega) (by omega)) hb
    | succ f ih =>
      intro i m hf hm
      have hk := h3 i (by omega)
      have hin : vp_in (nI i) 302 := vp_in_nI (by omega) (by decide)
      have hcl : (nI i).toNatClampNeg = i := nI_clamp (by omega)
      refine g_ild3 eX4_numbersBehind_6 ?_
      refine g_ald0 eX4_numbersBehind_7 ?_
      refine g_getI (ci := 9) (j := 3) rfl (Nat.le_of_ble_eq_true rfl) (Nat.le_of_ble_eq_true rfl) (Nat.le_of_ble_eq_true rfl) rfl fl_X4_37 eX4_numbersBehind_8 ?_
      rw [h1]
      refine g_icmp_ge eX4_numbersBehind_11 (fun hb => ?_) (fun hb => ?_)
      · exact absurd hb (nI_ge (by omega) (by omega))
      · refine g_ald0 eX4_numbersBehind_14 ?_
        refine g_getR (ci := 9) (j := 0) rfl (Nat.le_of_ble_eq_true rfl) (Nat.le_of_ble_eq_true rfl) (Nat.le_of_ble_eq_true rfl) rfl rfl fl_X4_38 eX4_numbersBehind_15 ?_
        refine g_ild3 eX4_numbersBehind_18 ?_
        refine g_iald rfl (Nat.le_of_ble_eq_true rfl) hin eX4_numbersBehind_19 ?_
        rw [hcl, hk.1]
        refine g_bipush (v := 59) (by decide) eX4_numbersBehind_20 ?_
        refine g_icmp_eq eX4_numbersBehind_22 (fun hb2 => ?_) (fun hb2 => ?_)
        · have e : K i = 59 := (nI_eq (a := K i) (b := 59) (by omega) (by omega)).mp hb2
          rw [nbL, if_neg (fun q => q.2 e)] at hm
          refine g_ild2 eX4_numbersBehind_49 ?_
          exact g_iret rfl eX4_numbersBehind_50 ⟨_, rfl, ⟨rfl, by rw [← hm]; rfl⟩⟩
        · have e : ¬ K i = 59 := fun q => hb2 (by rw [q]; rfl)
          rw [nbL, if_pos ⟨by omega, e⟩] at hm
          refine g_ild2 eX4_numbersBehind_25 ?_
          refine g_ald0 eX4_numbersBehind_26 ?_
          refine g_getR (ci := 9) (j := 0) rfl (Nat.le_of_ble_eq_true rfl) (Nat.le_of_ble_eq_true rfl) (Nat.le_of_ble_eq_true rfl) rfl rfl fl_X4_38 eX4_numbersBehind_27 ?_
          refine g_ild3 eX4_numbersBehind_30 ?_
          refine g_iald rfl (Nat.le_of_ble_eq_true rfl) hin eX4_numbersBehind_31 ?_
          rw [hcl, hk.1]
          refine g_iconst (v := 3) (by decide) eX4_numbersBehind_32 ?_
          refine g_icmp_ne eX4_numbersBehind_33 (fun hb3 => ?_) (fun hb3 => ?_)
          · have e3 : ¬ K i = 3 := fun q => hb3 (by rw [q]; rfl)
            rw [if_neg e3] at hm
            refine g_iconst (v := 0) (by decide) eX4_numbersBehind_40 ?_
            refine g_iadd eX4_numbersBehind_41 ?_
            refine g_ist2 rfl (Nat.le_of_ble_eq_true rfl) eX4_numbersBehind_42 ?_
            refine g_inc3 rfl (Nat.le_of_ble_eq_true rfl) rfl eX4_numbersBehind_43 ?_
            refine g_goto eX4_numbersBehind_46 ?_
            rw [show nI m + 0 = nI (m + 0) from nI_add m 0, inc1]
            exact ih (i + 1) (m + 0) (by omega) (by omega)
          · have e3 : K i = 3 := (nI_eq (a := K i) (b := 3) (by omega) (by omega)).mp hb3
            rw [if_pos e3] at hm
            refine g_iconst (v := 1) (by decide) eX4_numbersBehind_36 ?_
            refine g_goto eX4_numbersBehind_37 ?_
            refine g_iadd eX4_numbersBehind_41 ?_
            refine g_ist2 rfl (Nat.le_of_ble_eq_true rfl) eX4_numbersBehind_42 ?_
            refine g_inc3 rfl (Nat.le_of_ble_eq_true rfl) rfl eX4_numbersBehind_43 ?_
            refine g_goto eX4_numbersBehind_46 ?_
            rw [show nI m + 1 = nI (m + 1) from nI_1 m, inc1]
            exact ih (i + 1) (m + 1) (by omega) (by omega)
  refine g_iconst (v := 0) (by decide) eX4_numbersBehind_0 ?_
  refine g_ist2 rfl (Nat.le_of_ble_eq_true rfl) eX4_numbersBehind_1 ?_
  refine g_ild1 eX4_numbersBehind_2 ?_
  refine g_iconst (v := 1) (by decide) eX4_numbersBehind_3 ?_
  refine g_iadd eX4_numbersBehind_4 ?_
  refine g_ist3 rfl (Nat.le_of_ble_eq_true rfl) eX4_numbersBehind_5 ?_
  rw [show nI i0 + 1 = nI (i0 + 1) from nI_1 _]
  exact loop (cnt - (i0 + 1)) (i0 + 1) 0 (by omega) (by unfold nbF; omega)
end NAMC
