/-! TOKENS: what they are (pure) -/
def stopF (P : Nat → Prop) [DecidablePred P] (B : Nat → Nat) (n : Nat) : Nat → Nat → Nat
  | 0, i => i
  | f + 1, i => if i < n ∧ P (B i) then stopF P B n f (i + 1) else i
def stp (P : Nat → Prop) [DecidablePred P] (B : Nat → Nat) (n i : Nat) : Nat := stopF P B n (n - i) i
theorem stp_go {P : Nat → Prop} [DecidablePred P] {B : Nat → Nat} {n i : Nat} (h : i < n) (hp : P (B i)) : stp P B n i = stp P B n (i + 1) := by
  unfold stp
  rw [show n - i = (n - (i + 1)) + 1 by omega, stopF, if_pos ⟨h, hp⟩]
theorem stp_no {P : Nat → Prop} [DecidablePred P] {B : Nat → Nat} {n i : Nat} (h : ¬ (i < n ∧ P (B i))) : stp P B n i = i := by
  unfold stp
  cases n - i with
  | zero => rfl
  | succ f => rw [stopF, if_neg h]
theorem stp_all {P : Nat → Prop} [DecidablePred P] {B : Nat → Nat} {n : Nat} : ∀ (f i : Nat), n - i = f → i ≤ stp P B n i ∧ (i ≤ n → stp P B n i ≤ n) ∧ (∀ j, i ≤ j → j < stp P B n i → j < n ∧ P (B j)) ∧ ¬ (stp P B n i < n ∧ P (B (stp P B n i)))
  | f, i, hf => by
    by_cases h : i < n ∧ P (B i)
    · rw [stp_go h.1 h.2]
      obtain ⟨h1, h2, h3, h4⟩ := stp_all (P := P) (B := B) (n := n) (n - (i + 1)) (i + 1) rfl
      refine ⟨by omega, fun _ => h2 (by omega), fun j hj hj2 => ?_, h4⟩
      by_cases e : j = i
      · rw [e]; exact h
      · exact h3 j (by omega) hj2
    · rw [stp_no h]
      exact ⟨Nat.le_refl _, fun q => q, fun j h1 h2 => by omega, h⟩
  termination_by f => f
  decreasing_by omega
theorem stp_ge {P : Nat → Prop} [DecidablePred P] {B : Nat → Nat} {n i : Nat} : i ≤ stp P B n i := (stp_all (n - i) i rfl).1
theorem stp_le {P : Nat → Prop} [DecidablePred P] {B : Nat → Nat} {n i : Nat} (h : i ≤ n) : stp P B n i ≤ n := (stp_all (n - i) i rfl).2.1 h
theorem stp_in {P : Nat → Prop} [DecidablePred P] {B : Nat → Nat} {n i j : Nat} (h1 : i ≤ j) (h2 : j < stp P B n i) : j < n ∧ P (B j) := (stp_all (n - i) i rfl).2.2.1 j h1 h2
theorem stp_end {P : Nat → Prop} [DecidablePred P] {B : Nat → Nat} {n i : Nat} : ¬ (stp P B n i < n ∧ P (B (stp P B n i))) := (stp_all (n - i) i rfl).2.2.2
theorem stp_lt {P : Nat → Prop} [DecidablePred P] {B : Nat → Nat} {n i : Nat} : i < stp P B n i ↔ i < n ∧ P (B i) := by
  constructor
  · exact fun h => stp_in (Nat.le_refl _) h
  · intro h
    rw [stp_go h.1 h.2]
    have := stp_ge (P := P) (B := B) (n := n) (i := i + 1)
    omega
abbrev blk (c : Nat) : Prop := c = 9 ∨ c = 10 ∨ c = 13 ∨ c = 32
abbrev ltr (c : Nat) : Prop := 97 ≤ c ∧ c ≤ 122
abbrev dgt (c : Nat) : Prop := 48 ≤ c ∧ c ≤ 57
def endT (B : Nat → Nat) (n i : Nat) : Nat := if i < stp ltr B n i then stp ltr B n i else if i < stp dgt B n i then stp dgt B n i else i + 1
theorem endT_rng {B : Nat → Nat} {n i : Nat} (h : i < n) : i < endT B n i ∧ endT B n i ≤ n := by
  have h1 := stp_le (P := ltr) (B := B) (Nat.le_of_lt h)
  have h2 := stp_le (P := dgt) (B := B) (Nat.le_of_lt h)
  unfold endT
  split
  · omega
  · split <;> omega
theorem endT_ltr {B : Nat → Nat} {n i : Nat} (h : i < n) (hl : ltr (B i)) : endT B n i = stp ltr B n i := by
  unfold endT
  rw [if_pos (stp_lt.mpr ⟨h, hl⟩)]
theorem endT_dgt {B : Nat → Nat} {n i : Nat} (h : i < n) (hl : dgt (B i)) : endT B n i = stp dgt B n i := by
  unfold endT
  rw [if_neg (fun q => by have := stp_lt.mp q; omega), if_pos (stp_lt.mpr ⟨h, hl⟩)]
theorem endT_sgn {B : Nat → Nat} {n i : Nat} (hl : ¬ ltr (B i)) (hd : ¬ dgt (B i)) : endT B n i = i + 1 := by
  unfold endT
  rw [if_neg (fun q => hl (stp_lt.mp q).2), if_neg (fun q => hd (stp_lt.mp q).2)]
def wdF (B : Nat → Nat) (i m : Nat) : List Nat := (List.range m).map (fun j => B (i + j))
theorem wdF_eq {B : Nat → Nat} {i m : Nat} {w : List Nat} : wdF B i m = w ↔ m = w.length ∧ ∀ j, j < m → B (i + j) = w.getD j 0 := by
  constructor
  · intro h
    subst h
    refine ⟨by simp [wdF], fun j hj => ?_⟩
    unfold wdF
    rw [List.getD_eq_getElem?_getD, List.getElem?_map, List.getElem?_range hj]
    rfl
  · rintro ⟨h1, h2⟩
    apply List.ext_getElem?
    intro j
    unfold wdF
    rw [List.getElem?_map]
    by_cases hj : j < m
    · rw [List.getElem?_range hj]
      have h3 := h2 j hj
      rw [List.getD_eq_getElem?_getD, List.getElem?_eq_getElem (by omega)] at h3
      rw [List.getElem?_eq_getElem (by omega)]
      simp only [Option.map_some, h3, Option.getD_some]
    · rw [List.getElem?_eq_none (by simp; omega), List.getElem?_eq_none (by omega)]
      rfl
def wordK (w : List Nat) : Nat := if w = [105, 110] then 4 else if w = [116, 97, 98, 108, 101] then 5 else if w = [108, 101, 116] then 6 else if w = [111, 117, 116] then 7 else if w = [99, 104, 111, 111, 115, 101] then 8 else if w = [97, 115, 107] then 9 else 2
def numF (b z : Nat) (B : Nat → Nat) (i : Nat) : Nat → Nat
  | 0 => 0
  | k + 1 => numF b z B i k * b + (B (i + k) - z)
def kdF (B : Nat → Nat) (n i : Nat) : Nat := if ltr (B i) then (if 8 < endT B n i - i then 1 else wordK (wdF B i (endT B n i - i))) else if dgt (B i) then (if 4 < endT B n i - i then 1 else 3) else if sgn (B i) = true then B i else 1
def vlF (B : Nat → Nat) (n i : Nat) : Nat := if ltr (B i) then numF 32 96 B i (endT B n i - i) else if dgt (B i) then numF 10 48 B i (endT B n i - i) else 0
def tkP (B : Nat → Nat) (n : Nat) : Nat → Nat
  | 0 => stp blk B n 0
  | k + 1 => if tkP B n k < n then stp blk B n (endT B n (tkP B n k)) else tkP B n k
def tkK (B : Nat → Nat) (n k : Nat) : Nat := if tkP B n k < n then kdF B n (tkP B n k) else 0
def tkV (B : Nat → Nat) (n k : Nat) : Nat := if tkP B n k < n then vlF B n (tkP B n k) else 0
theorem tkP_le {B : Nat → Nat} {n : Nat} : ∀ k, tkP B n k ≤ n
  | 0 => stp_le (Nat.zero_le _)
  | k + 1 => by
    have := tkP_le (B := B) (n := n) k
    rw [tkP]
    split
    · exact stp_le (endT_rng (by assumption)).2
    · exact this
theorem tkP_go {B : Nat → Nat} {n k : Nat} (h : tkP B n k < n) : tkP B n (k + 1) = stp blk B n (endT B n (tkP B n k)) := by rw [tkP, if_pos h]
theorem tkP_lt {B : Nat → Nat} {n k : Nat} (h : tkP B n k < n) : tkP B n k < tkP B n (k + 1) := by
  rw [tkP_go h]
  have h1 := endT_rng (B := B) h
  have h2 := stp_ge (P := blk) (B := B) (n := n) (i := endT B n (tkP B n k))
  omega
theorem wordK_ne (w : List Nat) : 2 ≤ wordK w ∧ wordK w ≤ 9 ∧ wordK w ≠ 3 := by
  unfold wordK
  repeat' split
  all_goals omega
theorem kdF_ne {B : Nat → Nat} {n i : Nat} : kdF B n i ≠ 0 := by
  unfold kdF
  have h := wordK_ne (wdF B i (endT B n i - i))
  split
  · split <;> omega
  · split
    · split <;> omega
    · split
      · rename_i q
        intro e
        rw [e] at q
        exact absurd q (by decide)
      · omega
theorem tkK_end {B : Nat → Nat} {n k : Nat} : tkK B n k = 0 ↔ ¬ tkP B n k < n := by
  unfold tkK
  constructor
  · intro h q
    rw [if_pos q] at h
    exact kdF_ne h
  · intro h
    rw [if_neg h]
/-! the class' tape, and its tokens -/
def tapOK (st : St) (B : Nat → Nat) (n : Nat) : Prop := st.1 1 1 = nI n ∧ n ≤ 2000 ∧ ∀ i, i < n → st.1 2 i &&& 255 = nI (B i) ∧ B i < 256
theorem nI_sub {a b : Nat} (h : b ≤ a) : nI a - nI b = nI (a - b) := by
  rw [show nI a = nI (a - b) + nI b by rw [nI_add, Nat.sub_add_cancel h], Int32.add_sub_cancel]
section TOKC
variable {l : Launch} {D : va_G} {cy : Nat → ClassId}
theorem atB {st : St} {B : Nat → Nat} {n k : Nat} (h : tapOK st B n) (hk : k < n) : (if 0 ≤ (nI k).toInt ∧ (nI k).toInt < (st.1 1 1).toInt then st.1 2 (nI k).toNatClampNeg &&& 255 else 256) = nI (B k) := by
  obtain ⟨h1, h2, h3⟩ := h
  rw [h1, nI_toInt (by omega), nI_toInt (by omega), if_pos (by omega), nI_clamp (by omega)]
  exact (h3 k hk).1
theorem tap_rng {st : St} {B : Nat → Nat} {n : Nat} (h : tapOK st B n) : 0 ≤ (st.1 1 1).toInt ∧ (st.1 1 1).toInt ≤ 2000 := by
  have := h.2.1
  rw [h.1, nI_toInt (by omega)]
  omega
theorem m_isBlank (st : St) (c : Nat) (hc : c < 256) : Mi l D cy 0 YX10_isBlank [.int (nI c)] st (fun r u => u = st ∧ r = b2 (blk c)) := by
  have ht : (nI c).toInt = c := nI_toInt (by omega)
  refine M.ofG [some (.int (nI c))] (by decide) (Nat.le_of_ble_eq_true rfl) rfl ?_
  intro xp xe xs xm xa xb xme xc xad xA
  refine g_ild0 eX10_isBlank_0 ?_
  refine g_bipush (v := 9) (by decide) eX10_isBlank_1 ?_
  refine g_icmp_eq eX10_isBlank_3 (fun hb3 => ?_) (fun hb3 => ?_)
  · try simp only [fa_lt, fa_le, fa_eq, Int32.reduceToInt] at hb3
    refine g_iconst (v := 1) (by decide) eX10_isBlank_24 ?_
    refine g_goto eX10_isBlank_25 ?_
    refine g_zret (ty := .boolean) rfl (by first | rfl | assumption) eX10_isBlank_29 ⟨_, rfl, ?_⟩
    try dsimp only
    first | exact ⟨rfl, b2_t (by omega)⟩ | exact ⟨rfl, b2_f (by omega)⟩
  · try simp only [fa_lt, fa_le, fa_eq, Int32.reduceToInt] at hb3
    refine g_ild0 eX10_isBlank_6 ?_
    refine g_bipush (v := 10) (by decide) eX10_isBlank_7 ?_
    refine g_icmp_eq eX10_isBlank_9 (fun hb9 => ?_) (fun hb9 => ?_)
    · try simp only [fa_lt, fa_le, fa_eq, Int32.reduceToInt] at hb9
      refine g_iconst (v := 1) (by decide) eX10_isBlank_24 ?_
      refine g_goto eX10_isBlank_25 ?_
      refine g_zret (ty := .boolean) rfl (by first | rfl | assumption) eX10_isBlank_29 ⟨_, rfl, ?_⟩
      try dsimp only
      first | exact ⟨rfl, b2_t (by omega)⟩ | exact ⟨rfl, b2_f (by omega)⟩
    · try simp only [fa_lt, fa_le, fa_eq, Int32.reduceToInt] at hb9
      refine g_ild0 eX10_isBlank_12 ?_
      refine g_bipush (v := 13) (by decide) eX10_isBlank_13 ?_
      refine g_icmp_eq eX10_isBlank_15 (fun hb15 => ?_) (fun hb15 => ?_)
      · try simp only [fa_lt, fa_le, fa_eq, Int32.reduceToInt] at hb15
        refine g_iconst (v := 1) (by decide) eX10_isBlank_24 ?_
        refine g_goto eX10_isBlank_25 ?_
        refine g_zret (ty := .boolean) rfl (by first | rfl | assumption) eX10_isBlank_29 ⟨_, rfl, ?_⟩
        try dsimp only
        first | exact ⟨rfl, b2_t (by omega)⟩ | exact ⟨rfl, b2_f (by omega)⟩
      · try simp only [fa_lt, fa_le, fa_eq, Int32.reduceToInt] at hb15
        refine g_ild0 eX10_isBlank_18 ?_
        refine g_bipush (v := 32) (by decide) eX10_isBlank_19 ?_
        refine g_icmp_ne eX10_isBlank_21 (fun hb21 => ?_) (fun hb21 => ?_)
        · try simp only [fa_lt, fa_le, fa_eq, Int32.reduceToInt] at hb21
          refine g_iconst (v := 0) (by decide) eX10_isBlank_28 ?_
          refine g_zret (ty := .boolean) rfl (by first | rfl | assumption) eX10_isBlank_29 ⟨_, rfl, ?_⟩
          try dsimp only
          first | exact ⟨rfl, b2_t (by omega)⟩ | exact ⟨rfl, b2_f (by omega)⟩
        · try simp only [fa_lt, fa_le, fa_eq, Int32.reduceToInt] at hb21
          refine g_iconst (v := 1) (by decide) eX10_isBlank_24 ?_
          refine g_goto eX10_isBlank_25 ?_
          refine g_zret (ty := .boolean) rfl (by first | rfl | assumption) eX10_isBlank_29 ⟨_, rfl, ?_⟩
          try dsimp only
          first | exact ⟨rfl, b2_t (by omega)⟩ | exact ⟨rfl, b2_f (by omega)⟩
theorem m_isLetter (st : St) (c : Nat) (hc : c < 256) : Mi l D cy 0 YX10_isLetter [.int (nI c)] st (fun r u => u = st ∧ r = b2 (ltr c)) := by
  have ht : (nI c).toInt = c := nI_toInt (by omega)
  refine M.ofG [some (.int (nI c))] (by decide) (Nat.le_of_ble_eq_true rfl) rfl ?_
  intro xp xe xs xm xa xb xme xc xad xA
  refine g_ild0 eX10_isLetter_0 ?_
  refine g_bipush (v := 97) (by decide) eX10_isLetter_1 ?_
  refine g_icmp_lt eX10_isLetter_3 (fun hb3 => ?_) (fun hb3 => ?_)
  · try simp only [fa_lt, fa_le, fa_eq, Int32.reduceToInt] at hb3
    refine g_iconst (v := 0) (by decide) eX10_isLetter_16 ?_
    refine g_zret (ty := .boolean) rfl (by first | rfl | assumption) eX10_isLetter_17 ⟨_, rfl, ?_⟩
    try dsimp only
    first | exact ⟨rfl, b2_t (by omega)⟩ | exact ⟨rfl, b2_f (by omega)⟩
  · try simp only [fa_lt, fa_le, fa_eq, Int32.reduceToInt] at hb3
    refine g_ild0 eX10_isLetter_6 ?_
    refine g_bipush (v := 122) (by decide) eX10_isLetter_7 ?_
    refine g_icmp_gt eX10_isLetter_9 (fun hb9 => ?_) (fun hb9 => ?_)
    · try simp only [fa_lt, fa_le, fa_eq, Int32.reduceToInt] at hb9
      refine g_iconst (v := 0) (by decide) eX10_isLetter_16 ?_
      refine g_zret (ty := .boolean) rfl (by first | rfl | assumption) eX10_isLetter_17 ⟨_, rfl, ?_⟩
      try dsimp only
      first | exact ⟨rfl, b2_t (by omega)⟩ | exact ⟨rfl, b2_f (by omega)⟩
    · try simp only [fa_lt, fa_le, fa_eq, Int32.reduceToInt] at hb9
      refine g_iconst (v := 1) (by decide) eX10_isLetter_12 ?_
      refine g_goto eX10_isLetter_13 ?_
      refine g_zret (ty := .boolean) rfl (by first | rfl | assumption) eX10_isLetter_17 ⟨_, rfl, ?_⟩
      try dsimp only
      first | exact ⟨rfl, b2_t (by omega)⟩ | exact ⟨rfl, b2_f (by omega)⟩
theorem m_isDigit (st : St) (c : Nat) (hc : c < 256) : Mi l D cy 0 YX10_isDigit [.int (nI c)] st (fun r u => u = st ∧ r = b2 (dgt c)) := by
  have ht : (nI c).toInt = c := nI_toInt (by omega)
  refine M.ofG [some (.int (nI c))] (by decide) (Nat.le_of_ble_eq_true rfl) rfl ?_
  intro xp xe xs xm xa xb xme xc xad xA
  refine g_ild0 eX10_isDigit_0 ?_
  refine g_bipush (v := 48) (by decide) eX10_isDigit_1 ?_
  refine g_icmp_lt eX10_isDigit_3 (fun hb3 => ?_) (fun hb3 => ?_)
  · try simp only [fa_lt, fa_le, fa_eq, Int32.reduceToInt] at hb3
    refine g_iconst (v := 0) (by decide) eX10_isDigit_16 ?_
    refine g_zret (ty := .boolean) rfl (by first | rfl | assumption) eX10_isDigit_17 ⟨_, rfl, ?_⟩
    try dsimp only
    first | exact ⟨rfl, b2_t (by omega)⟩ | exact ⟨rfl, b2_f (by omega)⟩
  · try simp only [fa_lt, fa_le, fa_eq, Int32.reduceToInt] at hb3
    refine g_ild0 eX10_isDigit_6 ?_
    refine g_bipush (v := 57) (by decide) eX10_isDigit_7 ?_
    refine g_icmp_gt eX10_isDigit_9 (fun hb9 => ?_) (fun hb9 => ?_)
    · try simp only [fa_lt, fa_le, fa_eq, Int32.reduceToInt] at hb9
      refine g_iconst (v := 0) (by decide) eX10_isDigit_16 ?_
      refine g_zret (ty := .boolean) rfl (by first | rfl | assumption) eX10_isDigit_17 ⟨_, rfl, ?_⟩
      try dsimp only
      first | exact ⟨rfl, b2_t (by omega)⟩ | exact ⟨rfl, b2_f (by omega)⟩
    · try simp only [fa_lt, fa_le, fa_eq, Int32.reduceToInt] at hb9
      refine g_iconst (v := 1) (by decide) eX10_isDigit_12 ?_
      refine g_goto eX10_isDigit_13 ?_
      refine g_zret (ty := .boolean) rfl (by first | rfl | assumption) eX10_isDigit_17 ⟨_, rfl, ?_⟩
      try dsimp only
      first | exact ⟨rfl, b2_t (by omega)⟩ | exact ⟨rfl, b2_f (by omega)⟩
theorem m_afterBlanks (st : St) {B : Nat → Nat} {n : Nat} (hT : tapOK st B n) (i0 : Nat) (hi0 : i0 ≤ n) (iI : Int32) (hI : iI = nI i0) : Mi l D cy 1 YX10_afterBlanks [.ref 1, .int iI] st (fun r u => u = st ∧ r = nI (stp blk B n i0)) := by
  subst hI
  have h2 := hT.2.1
  refine M.ofG [some (.ref 1), some (.int (nI i0)), none] (by decide) (Nat.le_of_ble_eq_true rfl) rfl ?_
  intro xp xe xs xm xa xb xme xc xad xA
  have loop : ∀ (f i : Nat), n - i = f → i ≤ n → stp blk B n i = stp blk B n i0 → G xp l xe (rmd (1)) xs xm xa xb xme xc D cy xad xA (YX10_afterBlanks.2.1, YX10_afterBlanks.1.cls, YX10_afterBlanks.2.2.1, YX10_afterBlanks.2.2.2) (Pi (fun (r : Int32) (u : St) => u = st ∧ r = nI (stp blk B n i0))) 2 ([some (.ref 1), some (.int (nI i0)), some (.int (nI i))]) ([]) (st) := by
    intro f
    induction f with
    | zero =>
      intro i hf hi e
      have fin : G xp l xe (rmd (1)) xs xm xa xb xme xc D cy xad xA (YX10_afterBlanks.2.1, YX10_afterBlanks.1.cls, YX10_afterBlanks.2.2.1, YX10_afterBlanks.2.2.2) (Pi (fun (r : Int32) (u : St) => u = st ∧ r = nI (stp blk B n i0))) 27 ([some (.ref 1), some (.int (nI i0)), some (.int (nI i))]) ([]) (st) := by
        refine g_ild2 eX10_afterBlanks_27 ?_
        exact g_iret rfl eX10_afterBlanks_28 ⟨_, rfl, ⟨rfl, by rw [← e, stp_no (by omega)]⟩⟩
      refine g_ild2 eX10_afterBlanks_2 ?_
      refine g_ald0 eX10_afterBlanks_3 ?_
      refine g_getI (ci := 8) (j := 1) rfl (Nat.le_of_ble_eq_true rfl) (Nat.le_of_ble_eq_true rfl) (Nat.le_of_ble_eq_true rfl) rfl fl_X10_28 eX10_afterBlanks_4 ?_
      rw [hT.1]
      refine g_icmp_ge eX10_afterBlanks_7 (fun hb => ?_) (fun hb => ?_)
      · exact fin
      · exact absurd (nI_le (by omega) (by omega)) hb
    | succ f ih =>
      intro i hf hi e
      refine g_ild2 eX10_afterBlanks_2 ?_
      refine g_ald0 eX10_afterBlanks_3 ?_
      refine g_getI (ci := 8) (j := 1) rfl (Nat.le_of_ble_eq_true rfl) (Nat.le_of_ble_eq_true rfl) (Nat.le_of_ble_eq_true rfl) rfl fl_X10_28 eX10_afterBlanks_4 ?_
      rw [hT.1]
      refine g_icmp_ge eX10_afterBlanks_7 (fun hb => ?_) (fun hb => ?_)
      · exact absurd hb (nI_ge (by omega) (by omega))
      · refine g_ald0 eX10_afterBlanks_10 ?_
        refine g_ild2 eX10_afterBlanks_11 ?_
        refine g_callVi (ci := 8) (m_at st (nI i) (tap_rng hT)) rfl (Nat.le_of_ble_eq_true rfl) (Nat.le_of_ble_eq_true rfl) rfl cv_X10_40 eX10_afterBlanks_12 ⟨Nat.le_of_ble_eq_true rfl, Nat.le_of_ble_eq_true rfl⟩ rfl rfl (Nat.le_of_ble_eq_true rfl) (fun r st h => ?_)
        obtain ⟨rfl, rfl⟩ := h
        rw [atB hT (by omega)]
        refine g_callSi (m_isBlank st (B i) (hT.2.2 i (by omega)).2) cs_X10_44 eX10_afterBlanks_15 ⟨Nat.le_of_ble_eq_true rfl, Nat.le_of_ble_eq_true rfl⟩ rfl rfl (Nat.le_of_ble_eq_true rfl) (fun r st h => ?_)
        obtain ⟨rfl, rfl⟩ := h
        refine g_if_eq eX10_afterBlanks_18 (fun hb2 => ?_) (fun hb2 => ?_)
        · rw [b2_eq0] at hb2
          refine g_ild2 eX10_afterBlanks_27 ?_
          exact g_iret rfl eX10_afterBlanks_28 ⟨_, rfl, ⟨rfl, by rw [← e, stp_no (fun q => hb2 q.2)]⟩⟩
        · rw [b2_ne0] at hb2
          refine g_inc2 rfl (Nat.le_of_ble_eq_true rfl) rfl eX10_afterBlanks_21 ?_
          refine g_goto eX10_afterBlanks_24 ?_
          rw [inc1]
          exact ih (i + 1) (by omega) (by omega) (by rw [← e, stp_go (by omega) hb2])
  refine g_ild1 eX10_afterBlanks_0 ?_
  refine g_ist2 rfl (Nat.le_of_ble_eq_true rfl) eX10_afterBlanks_1 ?_
  exact loop (n - i0) i0 rfl hi0 rfl
theorem m_endOfToken (st : St) {B : Nat → Nat} {n : Nat} (hT : tapOK st B n) (i0 : Nat) (hi0 : i0 < n) : Mi l D cy 1 YX10_endOfToken [.ref 1, .int (nI i0)] st (fun r u => u = st ∧ r = nI (endT B n i0)) := by
  have h2 := hT.2.1
  refine M.ofG [some (.ref 1), some (.int (nI i0)), none] (by decide) (Nat.le_of_ble_eq_true rfl) rfl ?_
  intro xp xe xs xm xa xb xme xc xad xA
  have fin2 : ¬ i0 < stp ltr B n i0 → ∀ i, i ≤ n → i = stp dgt B n i0 → G xp l xe (rmd (1)) xs xm xa xb xme xc D cy xad xA (YX10_endOfToken.2.1, YX10_endOfToken.1.cls, YX10_endOfToken.2.2.1, YX10_endOfToken.2.2.2) (Pi (fun (r : Int32) (u : St) => u = st ∧ r = nI (endT B n i0))) 59 ([some (.ref 1), some (.int (nI i0)), some (.int (nI i))]) ([]) (st) := by
    intro hnl i hi e
    refine g_ild2 eX10_endOfToken_59 ?_
    refine g_ild1 eX10_endOfToken_60 ?_
    refine g_icmp_le eX10_endOfToken_61 (fun hb => ?_) (fun hb => ?_)
    · rw [nI_leI (by omega) (by omega)] at hb
      refine g_ild1 eX10_endOfToken_68 ?_
      refine g_iconst (v := 1) (by decide) eX10_endOfToken_69 ?_
      refine g_iadd eX10_endOfToken_70 ?_
      rw [show nI i0 + 1 = nI (i0 + 1) from nI_1 i0]
      refine g_iret rfl eX10_endOfToken_71 ⟨_, rfl, ?_⟩
      try dsimp only
      refine ⟨rfl, ?_⟩
      unfold endT
      rw [if_neg hnl, if_neg (by omega)]
    · rw [nI_leI (by omega) (by omega)] at hb
      refine g_ild2 eX10_endOfToken_64 ?_
      refine g_goto eX10_endOfToken_65 ?_
      refine g_iret rfl eX10_endOfToken_71 ⟨_, rfl, ?_⟩
      try dsimp only
      refine ⟨rfl, ?_⟩
      unfold endT
      rw [if_neg hnl, if_pos (by omega), e]
  have loop2 : ¬ i0 < stp ltr B n i0 → ∀ (f i : Nat), n - i = f → i ≤ n → stp dgt B n i = stp dgt B n i0 → G xp l xe (rmd (1)) xs xm xa xb xme xc D cy xad xA (YX10_endOfToken.2.1, YX10_endOfToken.1.cls, YX10_endOfToken.2.2.1, YX10_endOfToken.2.2.2) (Pi (fun (r : Int32) (u : St) => u = st ∧ r = nI (endT B n i0))) 34 ([some (.ref 1), some (.int (nI i0)), some (.int (nI i))]) ([]) (st) := by
    intro hnl f
    induction f with
    | zero =>
      intro i hf hi e
      refine g_ild2 eX10_endOfToken_34 ?_
      refine g_ald0 eX10_endOfToken_35 ?_
      refine g_getI (ci := 8) (j := 1) rfl (Nat.le_of_ble_eq_true rfl) (Nat.le_of_ble_eq_true rfl) (Nat.le_of_ble_eq_true rfl) rfl fl_X10_28 eX10_endOfToken_36 ?_
      rw [hT.1]
      refine g_icmp_ge eX10_endOfToken_39 (fun hb => ?_) (fun hb => ?_)
      · exact fin2 hnl i hi (by rw [← e, stp_no (by omega)])
      · exact absurd (nI_le (by omega) (by omega)) hb
    | succ f ih =>
      intro i hf hi e
      refine g_ild2 eX10_endOfToken_34 ?_
      refine g_ald0 eX10_endOfToken_35 ?_
      refine g_getI (ci := 8) (j := 1) rfl (Nat.le_of_ble_eq_true rfl) (Nat.le_of_ble_eq_true rfl) (Nat.le_of_ble_eq_true rfl) rfl fl_X10_28 eX10_endOfToken_36 ?_
      rw [hT.1]
      refine g_icmp_ge eX10_endOfToken_39 (fun hb => ?_) (fun hb => ?_)
      · exact absurd hb (nI_ge (by omega) (by omega))
      · refine g_ald0 eX10_endOfToken_42 ?_
        refine g_ild2 eX10_endOfToken_43 ?_
        refine g_callVi (ci := 8) (m_at st (nI i) (tap_rng hT)) rfl (Nat.le_of_ble_eq_true rfl) (Nat.le_of_ble_eq_true rfl) rfl cv_X10_40 eX10_endOfToken_44 ⟨Nat.le_of_ble_eq_true rfl, Nat.le_of_ble_eq_true rfl⟩ rfl rfl (Nat.le_of_ble_eq_true rfl) (fun r st h => ?_)
        obtain ⟨rfl, rfl⟩ := h
        rw [atB hT (by omega)]
        refine g_callSi (m_isDigit st (B i) (hT.2.2 i (by omega)).2) cs_X10_51 eX10_endOfToken_47 ⟨Nat.le_of_ble_eq_true rfl, Nat.le_of_ble_eq_true rfl⟩ rfl rfl (Nat.le_of_ble_eq_true rfl) (fun r st h => ?_)
        obtain ⟨rfl, rfl⟩ := h
        refine g_if_eq eX10_endOfToken_50 (fun hb2 => ?_) (fun hb2 => ?_)
        · rw [b2_eq0] at hb2
          exact fin2 hnl i hi (by rw [← e, stp_no (fun q => hb2 q.2)])
        · rw [b2_ne0] at hb2
          refine g_inc2 rfl (Nat.le_of_ble_eq_true rfl) rfl eX10_endOfToken_53 ?_
          refine g_goto eX10_endOfToken_56 ?_
          rw [inc1]
          exact ih (i + 1) (by omega) (by omega) (by rw [← e, stp_go (by omega) hb2])
  have fin1 : ∀ i, i ≤ n → i = stp ltr B n i0 → G xp l xe (rmd (1)) xs xm xa xb xme xc D cy xad xA (YX10_endOfToken.2.1, YX10_endOfToken.1.cls, YX10_endOfToken.2.2.1, YX10_endOfToken.2.2.2) (Pi (fun (r : Int32) (u : St) => u = st ∧ r = nI (endT B n i0))) 27 ([some (.ref 1), some (.int (nI i0)), some (.int (nI i))]) ([]) (st) := by
    intro i hi e
    refine g_ild2 eX10_endOfToken_27 ?_
    refine g_ild1 eX10_endOfToken_28 ?_
    refine g_icmp_le eX10_endOfToken_29 (fun hb => ?_) (fun hb => ?_)
    · rw [nI_leI (by omega) (by omega)] at hb
      have hge := stp_ge (P := ltr) (B := B) (n := n) (i := i0)
      have ei : i = i0 := by omega
      subst ei
      exact loop2 (by omega) (n - i) i rfl (by omega) rfl
    · rw [nI_leI (by omega) (by omega)] at hb
      refine g_ild2 eX10_endOfToken_32 ?_
      refine g_iret rfl eX10_endOfToken_33 ⟨_, rfl, ?_⟩
      try dsimp only
      refine ⟨rfl, ?_⟩
      unfold endT
      rw [if_pos (by omega), e]
  have loop : ∀ (f i : Nat), n - i = f → i ≤ n → stp ltr B n i = stp ltr B n i0 → G xp l xe (rmd (1)) xs xm xa xb xme xc D cy xad xA (YX10_endOfToken.2.1, YX10_endOfToken.1.cls, YX10_endOfToken.2.2.1, YX10_endOfToken.2.2.2) (Pi (fun (r : Int32) (u : St) => u = st ∧ r = nI (endT B n i0))) 2 ([some (.ref 1), some (.int (nI i0)), some (.int (nI i))]) ([]) (st) := by
    intro f
    induction f with
    | zero =>
      intro i hf hi e
      refine g_ild2 eX10_endOfToken_2 ?_
      refine g_ald0 eX10_endOfToken_3 ?_
      refine g_getI (ci := 8) (j := 1) rfl (Nat.le_of_ble_eq_true rfl) (Nat.le_of_ble_eq_true rfl) (Nat.le_of_ble_eq_true rfl) rfl fl_X10_28 eX10_endOfToken_4 ?_
      rw [hT.1]
      refine g_icmp_ge eX10_endOfToken_7 (fun hb => ?_) (fun hb => ?_)
      · exact fin1 i hi (by rw [← e, stp_no (by omega)])
      · exact absurd (nI_le (by omega) (by omega)) hb
    | succ f ih =>
      intro i hf hi e
      refine g_ild2 eX10_endOfToken_2 ?_
      refine g_ald0 eX10_endOfToken_3 ?_
      refine g_getI (ci := 8) (j := 1) rfl (Nat.le_of_ble_eq_true rfl) (Nat.le_of_ble_eq_true rfl) (Nat.le_of_ble_eq_true rfl) rfl fl_X10_28 eX10_endOfToken_4 ?_
      rw [hT.1]
      refine g_icmp_ge eX10_endOfToken_7 (fun hb => ?_) (fun hb => ?_)
      · exact absurd hb (nI_ge (by omega) (by omega))
      · refine g_ald0 eX10_endOfToken_10 ?_
        refine g_ild2 eX10_endOfToken_11 ?_
        refine g_callVi (ci := 8) (m_at st (nI i) (tap_rng hT)) rfl (Nat.le_of_ble_eq_true rfl) (Nat.le_of_ble_eq_true rfl) rfl cv_X10_40 eX10_endOfToken_12 ⟨Nat.le_of_ble_eq_true rfl, Nat.le_of_ble_eq_true rfl⟩ rfl rfl (Nat.le_of_ble_eq_true rfl) (fun r st h => ?_)
        obtain ⟨rfl, rfl⟩ := h
        rw [atB hT (by omega)]
        refine g_callSi (m_isLetter st (B i) (hT.2.2 i (by omega)).2) cs_X10_48 eX10_endOfToken_15 ⟨Nat.le_of_ble_eq_true rfl, Nat.le_of_ble_eq_true rfl⟩ rfl rfl (Nat.le_of_ble_eq_true rfl) (fun r st h => ?_)
        obtain ⟨rfl, rfl⟩ := h
        refine g_if_eq eX10_endOfToken_18 (fun hb2 => ?_) (fun hb2 => ?_)
        · rw [b2_eq0] at hb2
          exact fin1 i hi (by rw [← e, stp_no (fun q => hb2 q.2)])
        · rw [b2_ne0] at hb2
          refine g_inc2 rfl (Nat.le_of_ble_eq_true rfl) rfl eX10_endOfToken_21 ?_
          refine g_goto eX10_endOfToken_24 ?_
          rw [inc1]
          exact ih (i + 1) (by omega) (by omega) (by rw [← e, stp_go (by omega) hb2])
  refine g_ild1 eX10_endOfToken_0 ?_
  refine g_ist2 rfl (Nat.le_of_ble_eq_true rfl) eX10_endOfToken_1 ?_
  exact loop (n - i0) i0 rfl (by omega) rfl
theorem m_numberOf (st : St) {B : Nat → Nat} {n : Nat} (hT : tapOK st B n) (i0 e0 b z : Nat) (hi0 : i0 ≤ e0) (he : e0 ≤ n) (hb : b < 256) (hz : ∀ j, i0 ≤ j → j < e0 → z ≤ B j) (bI zI : Int32) (hbI : bI = nI b) (hzI : zI = nI z) : Ml l D cy 1 YX10_numberOf [.ref 1, .int (nI i0), .int (nI e0), .int bI, .int zI] st (fun r u => u = st ∧ r = lN (numF b z B i0 (e0 - i0))) := by
  subst hbI
  subst hzI
  have h2 := hT.2.1
  refine M.ofG [some (.ref 1), some (.int (nI i0)), some (.int (nI e0)), some (.int (nI b)), some (.int (nI z)), none, none, none] (by decide) (Nat.le_of_ble_eq_true rfl) rfl ?_
  intro xp xe xs xm xa xb xme xc xad xA
  have loop : ∀ (f k : Nat), k + f = e0 - i0 → G xp l xe (rmd (1)) xs xm xa xb xme xc D cy xad xA (YX10_numberOf.2.1, YX10_numberOf.1.cls, YX10_numberOf.2.2.1, YX10_numberOf.2.2.2) (Pl (fun (r : Int64) (u : St) => u = st ∧ r = lN (numF b z B i0 (e0 - i0)))) 6 ([some (.ref 1), some (.int (nI i0)), some (.int (nI e0)), some (.int (nI b)), some (.int (nI z)), some (.long (lN (numF b z B i0 k))), none, some (.int (nI (i0 + k)))]) ([]) (st) := by
    intro f
    induction f with
    | zero =>
      intro k hk
      refine g_ild7 eX10_numberOf_6 ?_
      refine g_ild2 eX10_numberOf_8 ?_
      refine g_icmp_ge eX10_numberOf_9 (fun hb2 => ?_) (fun hb2 => ?_)
      · refine g_lld5 eX10_numberOf_36 ?_
        exact g_lret rfl eX10_numberOf_38 ⟨_, rfl, ⟨rfl, by rw [show e0 - i0 = k by omega]⟩⟩
      · exact absurd (nI_le (by omega) (by omega)) hb2
    | succ f ih =>
      intro k hk
      refine g_ild7 eX10_numberOf_6 ?_
      refine g_ild2 eX10_numberOf_8 ?_
      refine g_icmp_ge eX10_numberOf_9 (fun hb2 => ?_) (fun hb2 => ?_)
      · exact absurd hb2 (nI_ge (by omega) (by omega))
      · refine g_lld5 eX10_numberOf_12 ?_
        refine g_ild3 eX10_numberOf_14 ?_
        refine g_i2l eX10_numberOf_15 ?_
        refine g_lmul eX10_numberOf_16 ?_
        refine g_ald0 eX10_numberOf_17 ?_
        refine g_ild7 eX10_numberOf_18 ?_
        refine g_callVi (ci := 8) (m_at st (nI (i0 + k)) (tap_rng hT)) rfl (Nat.le_of_ble_eq_true rfl) (Nat.le_of_ble_eq_true rfl) rfl cv_X10_40 eX10_numberOf_20 ⟨Nat.le_of_ble_eq_true rfl, Nat.le_of_ble_eq_true rfl⟩ rfl rfl (Nat.le_of_ble_eq_true rfl) (fun r st h => ?_)
        obtain ⟨rfl, rfl⟩ := h
        have hB := (hT.2.2 (i0 + k) (by omega)).2
        rw [atB hT (by omega)]
        refine g_ild4 eX10_numberOf_23 ?_
        refine g_isub eX10_numberOf_25 ?_
        refine g_i2l eX10_numberOf_26 ?_
        refine g_ladd eX10_numberOf_27 ?_
        refine g_lst5 rfl (Nat.le_of_ble_eq_true rfl) eX10_numberOf_28 ?_
        refine g_inc7 rfl (Nat.le_of_ble_eq_true rfl) rfl eX10_numberOf_30 ?_
        refine g_goto eX10_numberOf_33 ?_
        rw [nI_sub (hz _ (by omega) (by omega)), nI_l (by omega), nI_l (by omega), lN_mul, lN_add, inc1]
        exact ih (k + 1) (by omega)
  refine g_lconst (v := 0) rfl eX10_numberOf_0 ?_
  refine g_lst5 rfl (Nat.le_of_ble_eq_true rfl) eX10_numberOf_1 ?_
  refine g_ild1 eX10_numberOf_3 ?_
  refine g_ist7 rfl (Nat.le_of_ble_eq_true rfl) eX10_numberOf_4 ?_
  exact loop (e0 - i0) 0 (by omega)
end TOKC
