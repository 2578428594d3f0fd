/-! SealedSumsModel: run -/
section MODJ
variable {l : Launch} {D : va_G} {cy : Nat → ClassId}
theorem w_isOpen (st : St) (x : Int32) : Mi l D cy 0 YX12_isOpen [.int x] st (fun r u => u = st ∧ r = b2 (x.toInt ≤ -30)) := by
  refine M.ofG [some (.int x)] (by decide) (Nat.le_of_ble_eq_true rfl) rfl ?_
  intro xp xe xs xm xa xb xme xc xad xA
  refine g_ild0 eX12_isOpen_0 ?_
  refine g_bipush (v := (-30)) (by decide) eX12_isOpen_1 ?_
  refine g_icmp_gt eX12_isOpen_3 (fun hb3 => ?_) (fun hb3 => ?_)
  · try simp only [fa_lt, fa_le, fa_eq, Int32.reduceToInt] at hb3
    refine g_iconst (v := 0) (by decide) eX12_isOpen_10 ?_
    refine g_zret (ty := .boolean) rfl (by first | rfl | assumption) eX12_isOpen_11 ⟨_, rfl, ?_⟩
    try dsimp only
    refine ⟨rfl, ?_⟩
    first | exact b2_t (by have e : (-30 : Int32).toInt = -30 := rfl; omega) | exact b2_f (by have e : (-30 : Int32).toInt = -30 := rfl; omega)
  · try simp only [fa_lt, fa_le, fa_eq, Int32.reduceToInt] at hb3
    refine g_iconst (v := 1) (by decide) eX12_isOpen_6 ?_
    refine g_goto eX12_isOpen_7 ?_
    refine g_zret (ty := .boolean) rfl (by first | rfl | assumption) eX12_isOpen_11 ⟨_, rfl, ?_⟩
    try dsimp only
    refine ⟨rfl, ?_⟩
    first | exact b2_t (by have e : (-30 : Int32).toInt = -30 := rfl; omega) | exact b2_f (by have e : (-30 : Int32).toInt = -30 := rfl; omega)
theorem w_opened (st : St) (x : Int32) : Mi l D cy 0 YX12_opened [.int x] st (fun r u => u = st ∧ r = -30 - x) := by
  refine M.ofG [some (.int x)] (by decide) (Nat.le_of_ble_eq_true rfl) rfl ?_
  intro xp xe xs xm xa xb xme xc xad xA
  refine g_bipush (v := (-30)) (by decide) eX12_opened_0 ?_
  refine g_ild0 eX12_opened_2 ?_
  refine g_isub eX12_opened_3 ?_
  refine g_iret rfl eX12_opened_4 ⟨_, rfl, ?_⟩
  try dsimp only
  exact ⟨rfl, rfl⟩
/-- the outs of a run, sealed -/
def selR (st : St) (n : Nat) (key : Int32) (C Bd : Nat → Int) : Nat → St → Prop
  | 0, u => u = st
  | k + 1, u => ∃ u0, selR st n key C Bd k u0 ∧ ∃ c b : Int64, c.toInt = C k ∧ b.toInt = Bd k ∧ u = selM u0 (n + k) key c b 7
theorem selM_1 (st : St) (n : Nat) (k d : Int32) (c b : Int64) {a : Nat} (h1 : a ≠ 67) (h2 : a ≠ 70) (h3 : a ≠ 31) : (selM st n k c b d).1 a = st.1 a := by
  unfold selM
  rw [sI_row h3, sI_row h2, sL_1, sL_1, sI_row h1]
theorem selM_31 (st : St) (n : Nat) (k d : Int32) (c b : Int64) {j : Nat} (h : j ≠ 58) : (selM st n k c b d).1 31 j = st.1 31 j := by
  unfold selM
  rw [sI_1, if_neg (fun q => h q.2), sI_row (by decide), sL_1, sL_1, sI_row (by decide)]
theorem selM_s (st : St) (n : Nat) (k d : Int32) (c b : Int64) : (selM st n k c b d).1 31 58 = nI (n + 1) := by
  unfold selM
  rw [sI_1, if_pos ⟨rfl, rfl⟩]
theorem selM_2 (st : St) (n : Nat) (k d : Int32) (c b : Int64) {a : Nat} (h1 : a ≠ 68) (h2 : a ≠ 69) : (selM st n k c b d).2 a = st.2 a := by
  unfold selM
  rw [sI_2, sI_2, sL_row h2, sL_row h1, sI_2]
theorem selM_C (st : St) (n : Nat) (k d : Int32) (c b : Int64) (j : Nat) : (selM st n k c b d).2 68 j = if j = n then c else st.2 68 j := by
  unfold selM
  rw [sI_2, sI_2, sL_row (by decide), sL_2, sI_2]
  by_cases h : j = n
  · rw [if_pos ⟨rfl, h⟩, if_pos h]
  · rw [if_neg (fun q => h q.2), if_neg h]
theorem selM_Bd (st : St) (n : Nat) (k d : Int32) (c b : Int64) (j : Nat) : (selM st n k c b d).2 69 j = if j = n then b else st.2 69 j := by
  unfold selM
  rw [sI_2, sI_2, sL_2, sL_row (by decide), sI_2]
  by_cases h : j = n
  · rw [if_pos ⟨rfl, h⟩, if_pos h]
  · rw [if_neg (fun q => h q.2), if_neg h]
theorem selM_K (st : St) (n : Nat) (k d : Int32) (c b : Int64) (j : Nat) : (selM st n k c b d).1 67 j = if j = n then k else st.1 67 j := by
  unfold selM
  rw [sI_row (by decide), sI_row (by decide), sL_1, sL_1, sI_1]
  by_cases h : j = n
  · rw [if_pos ⟨rfl, h⟩, if_pos h]
  · rw [if_neg (fun q => h q.2), if_neg h]
theorem selM_D (st : St) (n : Nat) (k d : Int32) (c b : Int64) (j : Nat) : (selM st n k c b d).1 70 j = if j = n then d else st.1 70 j := by
  unfold selM
  rw [sI_row (by decide), sI_1, sL_1, sL_1, sI_row (by decide)]
  by_cases h : j = n
  · rw [if_pos ⟨rfl, h⟩, if_pos h]
  · rw [if_neg (fun q => h q.2), if_neg h]
theorem selR_keeps {st : St} {n : Nat} {key : Int32} {C Bd : Nat → Int} (hn : st.1 31 58 = nI n) : ∀ {k : Nat} {u : St}, selR st n key C Bd k u → (∀ a, a ≠ 67 → a ≠ 70 → a ≠ 31 → u.1 a = st.1 a) ∧ (∀ j, j ≠ 58 → u.1 31 j = st.1 31 j) ∧ u.1 31 58 = nI (n + k) ∧ (∀ a, a ≠ 68 → a ≠ 69 → u.2 a = st.2 a) ∧ ∀ j, j < n → u.2 68 j = st.2 68 j ∧ u.2 69 j = st.2 69 j
  | 0, u, h => by
    change u = st at h
    rw [h]
    exact ⟨fun _ _ _ _ => rfl, fun _ _ => rfl, hn, fun _ _ _ => rfl, fun _ _ => ⟨rfl, rfl⟩⟩
  | k + 1, u, h => by
    obtain ⟨u0, h0, c, b, -, -, rfl⟩ := h
    obtain ⟨i1, i2, i3, i4, i5⟩ := selR_keeps hn h0
    refine ⟨fun a h1 h2 h3 => ?_, fun j h => ?_, ?_, fun a h1 h2 => ?_, fun j h => ?_⟩
    · rw [selM_1 _ _ _ _ _ _ h1 h2 h3]; exact i1 a h1 h2 h3
    · rw [selM_31 _ _ _ _ _ _ h]; exact i2 j h
    · rw [selM_s]; rfl
    · rw [selM_2 _ _ _ _ _ _ h1 h2]; exact i4 a h1 h2
    · rw [selM_C, selM_Bd, if_neg (by omega), if_neg (by omega)]; exact i5 j h
abbrev givOK (gv kof : Nat → Int) (ins : Nat) : Prop := 0 < ins ∧ ∀ i, i < ins → 0 ≤ gv i ∧ kof (gv i).toNat = kof (gv 0).toNat
noncomputable def outC (p q b t : Int) (seed : Int32) (U : Nat → Int) (s : Nat → Int) (k : Nat) : Int := if U k < 0 then freshF p q b t (-1 - U k) (seed + nI (1000 + k)) else s (U k).toNat
def outB (F : Int) (U : Nat → Int) (s : Nat → Int) (k : Nat) : Int := if U k < 0 then F else s (U k).toNat
/-- the slots of a run's ins -/
def inSl (f : Nat → Int) (gv : Nat → Int) : Nat → Int := fun j => if j < 40 then 0 else f (gv (j - 40)).toNat
def mgv (st : St) : Nat → Int := fun i => (st.1 72 i).toInt
def mkof (st : St) : Nat → Int := fun a => (st.1 67 a).toInt
def mcof (st : St) : Nat → Int := fun a => (st.2 68 a).toInt
def mbof (st : St) : Nat → Int := fun a => (st.2 69 a).toInt
noncomputable def mrun (s1 : St) (i : Nat) (K A B : Nat → Int) (W : Nat) (lay : Int) (seed : Int32) : Option ((Nat → Int) × (Nat → Int)) := rnF K A B (mP s1 i) (s1.1 64 i).toInt (s1.1 65 i).toInt (s1.1 31 17).toInt lay seed (inSl (mcof s1) (mgv s1), inSl (mbof s1) (mgv s1)) W
def runOK (s1 : St) (np n : Nat) (W I O : Nat → Nat) (x k : Int32) : Prop := ((isS np x ∧ 0 ≤ k.toInt ∧ k.toInt < layN (W (qI x))) ∧ givOK (mgv s1) (mkof s1) (I (qI x))) ∧ alvM s1 (mkof s1 (mgv s1 0).toNat) ∧ n + O (qI x) ≤ 60
end MODJ
