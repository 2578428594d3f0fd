/-! PAIRS: calls that change -/
def ch (P : Nat → Nat → Prop) (Q : Nat → Prop) (st u : St) : Prop := (∀ a j, ¬ P a j → u.1 a j = st.1 a j) ∧ ∀ a, ¬ Q a → u.2 a = st.2 a
theorem ch.refl (P : Nat → Nat → Prop) (Q : Nat → Prop) (st : St) : ch P Q st st := ⟨fun _ _ _ => rfl, fun _ _ => rfl⟩
theorem ch.trans {P : Nat → Nat → Prop} {Q : Nat → Prop} {a b c : St} (h : ch P Q a b) (h2 : ch P Q b c) : ch P Q a c := ⟨fun k j q => (h2.1 k j q).trans (h.1 k j q), fun k q => (h2.2 k q).trans (h.2 k q)⟩
theorem ch.I {P : Nat → Nat → Prop} {Q : Nat → Prop} {st u : St} (h : ch P Q st u) {k i : Nat} (x : Int32) (hp : P k i) : ch P Q st (sI u k i x) := ⟨fun a j q => by rw [sI_1, if_neg (fun z => q (by rw [z.1, z.2]; exact hp))]; exact h.1 a j q, h.2⟩
theorem ch.L {P : Nat → Nat → Prop} {Q : Nat → Prop} {st u : St} (h : ch P Q st u) {k i : Nat} (x : Int64) (hp : Q k) : ch P Q st (sL u k i x) := ⟨h.1, fun a q => by rw [sL_row (fun z => q (by rw [z]; exact hp))]; exact h.2 a q⟩
theorem ch.R {P : Nat → Nat → Prop} {Q : Nat → Prop} {st u : St} (h : ch P Q st u) {k : Nat} (f : Nat → Int32) (hp : ∀ j, P k j) : ch P Q st (sR u k f) := ⟨fun a j q => by rw [sR_11, if_neg (fun z => q (by rw [z]; exact hp j))]; exact h.1 a j q, h.2⟩
theorem ch.LR {P : Nat → Nat → Prop} {Q : Nat → Prop} {st u : St} (h : ch P Q st u) {k : Nat} (f : Nat → Int64) (hp : Q k) : ch P Q st (sLR u k f) := ⟨h.1, fun a q => by rw [sLR_2, if_neg (fun z => q (by rw [z]; exact hp))]; exact h.2 a q⟩
theorem ch.S {P : Nat → Nat → Prop} {Q : Nat → Prop} {st u w : St} (h : ch P Q st u) (e : scr u w) (hp : ∀ a j, scI a j → P a j) (hq : ∀ a, scL a → Q a) : ch P Q st w := ⟨fun a j q => (e.1 a j (fun z => q (hp a j z))).trans (h.1 a j q), fun a q => (e.2 a (fun z => q (hq a z))).trans (h.2 a q)⟩
section PAIRC
variable {l : Launch} {D : va_G} {cy : Nat → ClassId} {st : St} {t nk n np nt : Nat}
/-- nothing of the model -/
theorem agM_ch {P : Nat → Nat → Prop} {Q : Nat → Prop} {u : St} (h : ch P Q st u) (hp : ∀ a j, P a j → ¬ fpM a j) (hq : ∀ a, Q a → ¬ flM a) : agM st u := ⟨fun a j q => h.1 a j (fun z => hp a j z q), fun a q => h.2 a (fun z => hq a z q)⟩
/-! feed, back -/
def fdR (f : Nat → Int32) (n : Nat) (a b c d e : Int32) : Nat → Int32 := wrB (wrB (wrB (wrB (wrB f n (bytI a) 4) (n + 4) (bytI b) 4) (n + 8) (bytI c) 4) (n + 12) (bytI d) 4) (n + 16) (bytI e) 4
theorem apS_row {ib io jo k m : Nat} (s : St) (f : Nat → Int32) (h : ib ≠ io) : (apS s ib io jo k f m).1 ib = wrB (s.1 ib) k f m := by
  unfold apS
  rw [sI_row h]
  funext j
  rw [sR_11, if_pos rfl]
theorem fdS_row {ib io jo : Nat} (h : ib ≠ io) (s : St) (m : Nat) (a b c d e : Int32) : (fdS s ib io jo m a b c d e).1 ib = fdR (s.1 ib) m a b c d e := by
  unfold fdS fdR
  rw [apS_row _ _ h, apS_row _ _ h, apS_row _ _ h, apS_row _ _ h, apS_row _ _ h]
theorem fdS_len {ib io jo : Nat} (s : St) (m : Nat) (a b c d e : Int32) : (fdS s ib io jo m a b c d e).1 io jo = nI (m + 20) := by
  unfold fdS
  show (sI (sR _ ib _) io jo (nI (m + 16 + 4))).1 io jo = _
  rw [sI_1, if_pos ⟨rfl, rfl⟩]
theorem fdS_ch {P : Nat → Nat → Prop} {Q : Nat → Prop} {u : St} (h : ch P Q st u) {ib io jo : Nat} (hp : ∀ j, P ib j) (hq : P io jo) (m : Nat) (a b c d e : Int32) : ch P Q st (fdS u ib io jo m a b c d e) := by
  unfold fdS apS
  exact (((((((((h.R _ hp).I _ hq).R _ hp).I _ hq).R _ hp).I _ hq).R _ hp).I _ hq).R _ hp).I _ hq
theorem fdR_eq {f g : Nat → Int32} {m : Nat} (h : ∀ i, i < m → f i = g i) (a b c d e : Int32) {i : Nat} (hi : i < m + 20) : fdR f m a b c d e i = fdR g m a b c d e i := by
  unfold fdR wrB
  by_cases c5 : m + 16 ≤ i ∧ i < m + 16 + 4
  · rw [if_pos c5, if_pos c5]
  rw [if_neg c5, if_neg c5]
  by_cases c4 : m + 12 ≤ i ∧ i < m + 12 + 4
  · rw [if_pos c4, if_pos c4]
  rw [if_neg c4, if_neg c4]
  by_cases c3 : m + 8 ≤ i ∧ i < m + 8 + 4
  · rw [if_pos c3, if_pos c3]
  rw [if_neg c3, if_neg c3]
  by_cases c2 : m + 4 ≤ i ∧ i < m + 4 + 4
  · rw [if_pos c2, if_pos c2]
  rw [if_neg c2, if_neg c2]
  by_cases c1 : m ≤ i ∧ i < m + 4
  · rw [if_pos c1, if_pos c1]
  rw [if_neg c1, if_neg c1]
  exact h i (by omega)
abbrev pT (a j : Nat) : Prop := a = 2 ∨ (a = 1 ∧ j = 1) ∨ a = 32 ∨ (a = 31 ∧ (j = 1 ∨ j = 18))
theorem Rel_tape (h : Rel st t nk n np nt) {u : St} (e : ch pT (fun _ => False) st u) {m : Nat} (hb : B1 u m) : Rel u t nk n np m := by
  obtain ⟨h1, h2, h3, h4, h5, h6, h7, h8, h9, h10⟩ := h
  exact ⟨hb, h2.same (fun a j q => e.1 a j (by omega)), h3.same (fun a j q => e.1 a j (by omega)) (fun a q => e.2 a (fun z => z)), h4.same (fun a j q => e.1 a j (by omega)) (fun a q => e.2 a (fun z => z)), h5.same (fun a j q => e.1 a j (by omega)), h6.same (fun a j q => e.1 a j (by omega)), h7.same (fun a j q => e.1 a j (by omega)), h8.same (fun a j q => e.1 a j (by omega)), h9.same (fun a j q => e.1 a j (by omega)), ky_same h10 (fun a q => e.2 a (fun z => z))⟩
theorem pr_feed (h : Rel st t nk n np nt) (a b c d e : Int32) : Pair l D cy 1 1 YX11_feed YX12_feed [.int a, .int b, .int c, .int d, .int e] st := by
  have h1 := h.1
  refine Mi.mono (m_feed st nt h1.1 h1.2.1 a b c d e) (fun r u q => ?_)
  by_cases c0 : nt + 20 ≤ 2000
  · rw [if_pos c0] at q
    obtain ⟨rfl, rfl⟩ := q
    have hc := fdS_ch (ch.refl pT (fun _ => False) st) (ib := 2) (io := 1) (jo := 1) (fun j => by omega) (by omega) nt a b c d e
    have e1 : (sI (fdS st 2 1 1 nt a b c d e) 31 18 0).1 31 1 = nI nt := by
      rw [sI_1, if_neg (by omega), (fdS_ch (ch.refl (fun a _ => a = 1 ∨ a = 2) (fun _ => False) st) (ib := 2) (io := 1) (jo := 1) (fun j => Or.inr rfl) (Or.inl rfl) nt a b c d e).1 31 1 (by omega)]
      exact h1.2.2.1
    refine Mi.mono (w_feed _ _ rfl nt e1 h1.2.1 a b c d e) (fun r2 u2 q2 => ?_)
    rw [if_pos c0] at q2
    obtain ⟨rfl, rfl⟩ := q2
    have hc2 := fdS_ch (hc.I (k := 31) (i := 18) 0 (by omega)) (ib := 32) (io := 31) (jo := 1) (fun j => by omega) (by omega) nt a b c d e
    refine ⟨rfl, (Rel_tape h hc2 (m := nt + 20) ⟨?_, by omega, fdS_len _ _ _ _ _ _ _, fun i hi => ?_⟩).E⟩
    · rw [(fdS_ch (ch.refl (fun a _ => a = 32 ∨ a = 31) (fun _ => False) _) (ib := 32) (io := 31) (jo := 1) (fun j => Or.inl rfl) (Or.inr rfl) nt a b c d e).1 1 1 (by omega), sI_1, if_neg (by omega)]
      exact fdS_len _ _ _ _ _ _ _
    · rw [fdS_row (by decide), (fdS_ch (ch.refl (fun a _ => a = 32 ∨ a = 31) (fun _ => False) _) (ib := 32) (io := 31) (jo := 1) (fun j => Or.inl rfl) (Or.inr rfl) nt a b c d e).1 2 i (by omega), sI_1, if_neg (by omega), fdS_row (by decide)]
      refine fdR_eq (fun j hj => ?_) a b c d e hi
      rw [sI_1, if_neg (by omega), (fdS_ch (ch.refl (fun a _ => a = 1 ∨ a = 2) (fun _ => False) st) (ib := 2) (io := 1) (jo := 1) (fun j => Or.inr rfl) (Or.inl rfl) nt a b c d e).1 32 j (by omega)]
      exact h1.2.2.2 j hj
  · rw [if_neg c0] at q
    obtain ⟨rfl, e⟩ := q
    rw [e]
    refine Mi.mono (w_feed _ _ rfl nt h1.2.2.1 h1.2.1 a b c d _) (fun r2 u2 q2 => ?_)
    rw [if_neg c0] at q2
    rw [q2.2]
    exact ⟨q2.1, (h.scr (scr_thr _ _)).E⟩
theorem pr_back (h : Rel st t nk n np nt) (x : Int32) : Pair l D cy 0 0 YX11_back YX12_back [.int x] st := by
  have h1 := h.1
  refine Mi.mono (m_back st x nt h1.1 h1.2.1) (fun r u q => ?_)
  by_cases c0 : 0 ≤ x.toInt ∧ x.toInt ≤ nt
  · rw [if_pos c0] at q
    obtain ⟨rfl, rfl⟩ := q
    refine Mi.mono (w_back _ _ rfl x nt h1.2.2.1 h1.2.1) (fun r2 u2 q2 => ?_)
    rw [if_pos c0] at q2
    obtain ⟨rfl, rfl⟩ := q2
    refine ⟨rfl, (Rel_tape h ((((ch.refl pT (fun _ => False) st).I (k := 1) (i := 1) _ (by omega)).I (k := 31) (i := 18) _ (by omega)).I (k := 31) (i := 1) _ (by omega)) (m := nt - x.toInt.toNat) ⟨rfl, by have := h1.2.1; omega, rfl, fun i hi => ?_⟩).E⟩
    rw [sI_row (by decide), sI_row (by decide), sI_row (by decide), sI_row (by decide), sI_row (by decide), sI_row (by decide)]
    exact h1.2.2.2 i (by omega)
  · rw [if_neg c0] at q
    obtain ⟨rfl, e⟩ := q
    rw [e]
    refine Mi.mono (w_back _ _ rfl x nt h1.2.2.1 h1.2.1) (fun r2 u2 q2 => ?_)
    rw [if_neg c0] at q2
    rw [q2.2]
    exact ⟨q2.1, (h.scr (scr_thr _ _)).E⟩
/-! budget, opening, given -/
abbrev pB (a j : Nat) : Prop := (a = 0 ∧ j = 15) ∨ (a = 31 ∧ (j = 65 ∨ j = 18))
theorem Rel_bud (h : Rel st t nk n np nt) {u : St} (e : ch pB (fun _ => False) st u) (hb : B8 u) : Rel u t nk n np nt := by
  obtain ⟨h1, h2, h3, h4, h5, h6, h7, h8, h9, h10⟩ := h
  exact ⟨h1.same (fun a j q => e.1 a j (by omega)), h2.same (fun a j q => e.1 a j (by omega)), h3.same (fun a j q => e.1 a j (by omega)) (fun a q => e.2 a (fun z => z)), h4.same (fun a j q => e.1 a j (by omega)) (fun a q => e.2 a (fun z => z)), h5.same (fun a j q => e.1 a j (by omega)), h6.same (fun a j q => e.1 a j (by omega)), h7.same (fun a j q => e.1 a j (by omega)), hb, h9.same (fun a j q => e.1 a j (by omega)), ky_same h10 (fun a q => e.2 a (fun z => z))⟩
theorem pr_budget (h : Rel st t nk n np nt) (v : Int32) : Pair l D cy 0 1 YX11_budget YX12_budget [.int v] st := by
  refine Mi.mono (m_budget st v) (fun r u q => ?_)
  by_cases c0 : 0 ≤ v.toInt ∧ v.toInt ≤ 10000
  · rw [if_pos c0] at q
    obtain ⟨rfl, rfl⟩ := q
    refine Mi.mono (w_budget _ _ rfl v) (fun r2 u2 q2 => ?_)
    rw [if_pos c0] at q2
    obtain ⟨rfl, rfl⟩ := q2
    exact ⟨rfl, (Rel_bud h ((((ch.refl pB (fun _ => False) st).I (k := 0) (i := 15) _ (by omega)).I (k := 31) (i := 18) _ (by omega)).I (k := 31) (i := 65) _ (by omega)) ⟨rfl, c0.1, c0.2⟩).E⟩
  · rw [if_neg c0] at q
    obtain ⟨rfl, e⟩ := q
    rw [e]
    refine Mi.mono (w_budget _ _ rfl v) (fun r2 u2 q2 => ?_)
    rw [if_neg c0] at q2
    rw [q2.2]
    exact ⟨q2.1, (h.scr (scr_thr _ _)).E⟩
theorem pr_opening (h : Rel st t nk n np nt) (s0 a seed : Int32) : Pair l D cy 5 3 YX11_opening YX12_opening [.int s0, .int a, .int seed] st := by
  obtain ⟨h1, h2, h3, h4, h5, h6, h7, h8, h9, h10⟩ := id h
  have hm := mOK_of h2 h3
  have ho := oddM_of h2
  refine Mi.mono (m_opening st (xOK_of h2 h3) s0 a seed ⟨h8.2.1, h8.2.2⟩) (fun r u q => ?_)
  have key : ∀ u, ch (fun a j => a = 0 ∧ j = 15) (fun _ => False) st u → Mi l D cy 3 YX12_opening [.ref 31, .int s0, .int a, .int seed] u (fun r u2 => if isS n s0 ∧ 0 ≤ a.toInt ∧ a.toInt ≤ 5 then (if opX st n s0 < 0 then r.toInt = opX st n s0 ∧ u2 = sI u 31 18 0 else if (st.1 0 15).toInt < 60 / (a.toInt + 1) then r = -4 ∧ u2 = sI u 31 18 0 else r.toInt = opgF (opX st n s0) (st.1 0 0).toInt a seed ∧ ∃ z : Int32, z.toInt = (st.1 0 15).toInt - 60 / (a.toInt + 1) ∧ u2 = sI (sI u 31 18 0) 31 65 z) else r = -1 ∧ u2 = sI u 31 18 0) := by
    intro u hu
    have hu2 : ch (fun a j => (a = 0 ∧ j = 15) ∨ (a = 31 ∧ j = 18)) (fun _ => False) st (sI u 31 18 0) := ch.I ⟨fun a j q => hu.1 a j (by omega), hu.2⟩ 0 (by omega)
    have ag : agM st (sI u 31 18 0) := agM_ch hu2 (fun a j q => by omega) (fun a q => False.elim q)
    have e65 : (sI u 31 18 0).1 31 65 = st.1 0 15 := by rw [ag.1 31 65 (by omega)]; exact h8.1
    have e17 : ((sI u 31 18 0).1 31 17).toInt = (st.1 0 0).toInt := by rw [ag.1 31 17 (by omega), (t_of h2).1, (t_of h2).2]
    have eo : opM (sI u 31 18 0) n s0 = opX st n s0 := by
      rw [← opM_X h2 h3]
      unfold opM alvM mK mC mB mP
      have r : ∀ a, (63 ≤ a ∧ a ≤ 67) → (sI u 31 18 0).1 a = st.1 a := fun a ha => funext (fun j => ag.1 a j (by omega))
      rw [r 67 (by omega), r 66 (by omega), r 63 (by omega), ag.2 68 (by omega), ag.2 69 (by omega), ag.1 31 53 (by omega), ag.1 31 17 (by omega)]
    have hod : oddM (sI u 31 18 0) nk := fun i hi => by rw [ag.1 63 i (by omega)]; exact ho i hi
    refine Mi.mono (w_opening u _ rfl (mOK_same hm ag) hod s0 a seed (by rw [e65]; exact ⟨h8.2.1, h8.2.2⟩)) (fun r u2 q2 => ?_)
    rw [eo, e65, e17] at q2
    exact q2
  by_cases c0 : isS n s0 ∧ 0 ≤ a.toInt ∧ a.toInt ≤ 5
  · rw [if_pos c0] at q
    by_cases c1 : opX st n s0 < 0
    · rw [if_pos c1] at q
      rw [q.2]
      refine Mi.mono (key st (ch.refl _ _ _)) (fun r2 u2 q2 => ?_)
      rw [if_pos c0, if_pos c1] at q2
      rw [q2.2]
      exact ⟨i32 (q2.1.trans q.1.symm), (h.scr (scr_thr _ _)).E⟩
    · rw [if_neg c1] at q
      by_cases c2 : (st.1 0 15).toInt < 60 / (a.toInt + 1)
      · rw [if_pos c2] at q
        rw [q.2]
        refine Mi.mono (key st (ch.refl _ _ _)) (fun r2 u2 q2 => ?_)
        rw [if_pos c0, if_neg c1, if_pos c2] at q2
        rw [q2.2]
        exact ⟨q2.1.trans q.1.symm, (h.scr (scr_thr _ _)).E⟩
      · rw [if_neg c2] at q
        obtain ⟨q1, z, hz, rfl⟩ := q
        refine Mi.mono (key _ ((ch.refl _ _ st).I z ⟨rfl, rfl⟩)) (fun r2 u2 q2 => ?_)
        rw [if_pos c0, if_neg c1, if_neg c2] at q2
        obtain ⟨q3, z2, hz2, rfl⟩ := q2
        have ez : z2 = z := i32 (hz2.trans hz.symm)
        have h60 : 0 ≤ (60 : Int) / (a.toInt + 1) := Int.ediv_nonneg (by decide) (by omega)
        have hb := h8.2.2
        refine ⟨i32 (q3.trans q1.symm), (Rel_bud h ((((ch.refl pB (fun _ => False) st).I (k := 0) (i := 15) _ (by omega)).I (k := 31) (i := 18) _ (by omega)).I (k := 31) (i := 65) _ (by omega)) ⟨ez, ?_, ?_⟩).E⟩
        · show 0 ≤ z.toInt
          omega
        · show z.toInt ≤ 10000
          omega
  · rw [if_neg c0] at q
    rw [q.2]
    refine Mi.mono (key st (ch.refl _ _ _)) (fun r2 u2 q2 => ?_)
    rw [if_neg c0] at q2
    rw [q2.2]
    exact ⟨q2.1.trans q.1.symm, (h.scr (scr_thr _ _)).E⟩
abbrev pG (a j : Nat) : Prop := a = 23 ∨ a = 72 ∨ (a = 31 ∧ j = 18)
theorem Rel_giv (h : Rel st t nk n np nt) {u : St} (e : ch pG (fun _ => False) st u) (hb : B7 u n) : Rel u t nk n np nt := by
  obtain ⟨h1, h2, h3, h4, h5, h6, h7, h8, h9, h10⟩ := h
  exact ⟨h1.same (fun a j q => e.1 a j (by omega)), h2.same (fun a j q => e.1 a j (by omega)), h3.same (fun a j q => e.1 a j (by omega)) (fun a q => e.2 a (fun z => z)), h4.same (fun a j q => e.1 a j (by omega)) (fun a q => e.2 a (fun z => z)), h5.same (fun a j q => e.1 a j (by omega)), h6.same (fun a j q => e.1 a j (by omega)), hb, h8.same (fun a j q => e.1 a j (by omega)), h9.same (fun a j q => e.1 a j (by omega)), ky_same h10 (fun a q => e.2 a (fun z => z))⟩
theorem pr_given (h : Rel st t nk n np nt) (a b : Int32) : Pair l D cy 1 1 YX11_given YX12_given [.int a, .int b] st := by
  obtain ⟨h1, h2, h3, h4, h5, h6, h7, h8, h9, h10⟩ := id h
  refine Mi.mono (m_given st (xOK_of h2 h3) a b) (fun r u q => ?_)
  by_cases c0 : (0 ≤ a.toInt ∧ a.toInt < 6) ∧ isS n b
  · rw [if_pos c0] at q
    obtain ⟨rfl, rfl⟩ := q
    have ag : agM st (sI (sI st 23 (qI a) b) 31 18 0) := ⟨fun k j q => by rw [sI_1, if_neg (by omega), sI_1, if_neg (by omega)], fun _ _ => rfl⟩
    refine Mi.mono (w_given _ _ rfl (mOK_same (mOK_of h2 h3) ag) a b) (fun r2 u2 q2 => ?_)
    rw [if_pos c0] at q2
    obtain ⟨rfl, rfl⟩ := q2
    refine ⟨rfl, (Rel_giv h ((((ch.refl pG (fun _ => False) st).I (k := 23) (i := qI a) _ (by omega)).I (k := 31) (i := 18) _ (by omega)).I (k := 72) (i := qI a) _ (by omega)) (fun i hi => ?_)).E⟩
    have e1 : (sI (sI (sI st 23 (qI a) b) 31 18 0) 72 (qI a) b).1 72 i = if i = qI a then b else st.1 72 i := by rw [sI_at, sI_row (by decide), sI_row (by decide)]
    have e2 : (sI (sI (sI st 23 (qI a) b) 31 18 0) 72 (qI a) b).1 23 i = if i = qI a then b else st.1 23 i := by rw [sI_row (by decide), sI_row (by decide), sI_at]
    unfold xgv
    rw [e1, e2]
    by_cases c : i = qI a
    · rw [if_pos c, if_pos c]
      exact ⟨rfl, Or.inr c0.2⟩
    · rw [if_neg c, if_neg c]
      exact h7 i hi
  · rw [if_neg c0] at q
    obtain ⟨rfl, e⟩ := q
    rw [e]
    refine Mi.mono (w_given _ _ rfl (mOK_same (mOK_of h2 h3) (agM_scr (scr_thr st 0))) a b) (fun r2 u2 q2 => ?_)
    rw [if_neg c0] at q2
    rw [q2.2]
    exact ⟨q2.1, (h.scr (scr_thr _ _)).E⟩
end PAIRC
