/-! THE START: what the Statement gives -/
section STA
variable {s : State} {b : Nat}
theorem kn_start {args : Array Value} (hts : ∀ w ∈ lw_tbl, w.before args s = true) : ∃ (D : va_G) (cy : Nat → ClassId), va_K D vwCl (tyl cy) s := by
  have hw : ∀ w ∈ wsA, w.before args s = true := fun w h => hts w (List.mem_filter.mp h).1
  have wk : ∀ c, c < 12 → Cond.instantiable (RC c) (nFc c) ∈ wsA := fun c hc => match c, hc with
    | 0, _ => wk_0.1
    | 1, _ => wk_1.1
    | 2, _ => wk_2.1
    | 3, _ => wk_3.1
    | 4, _ => wk_4.1
    | 5, _ => wk_5.1
    | 6, _ => wk_6.1
    | 7, _ => wk_7.1
    | 8, _ => wk_8.1
    | 9, _ => wk_9.1
    | 10, _ => wk_10.1
    | 11, _ => wk_11.1
    | n + 12, h => absurd h (by omega)
  have h0 : ∀ c : Nat, ∃ q : ClassId × (Nat → Nat), c < 12 → u_Kn s (RC c) (TC c) (nFc c) q.1 q.2 := by
    intro c
    by_cases hc : c < 12
    · obtain ⟨cC, iS, h⟩ := u_known (n := nFc c) hw (lays_in c hc) (hw _ (wk c hc))
      exact ⟨(cC, iS), fun _ => h⟩
    · exact ⟨(default, fun _ => 0), fun h => absurd h hc⟩
  obtain ⟨f, hf⟩ := Classical.axiomOfChoice h0
  obtain ⟨c12, k12, m12, a1, a2, a3⟩ := Cond.arrayClass_spec (hw _ wa_12)
  obtain ⟨c13, k13, m13, b1, b2, b3⟩ := Cond.arrayClass_spec (hw _ wa_13)
  obtain ⟨c14, k14, m14, d1, d2, d3⟩ := Cond.arrayClass_spec (hw _ wa_14)
  obtain ⟨c15, k15, m15, e1, e2, e3⟩ := Cond.arrayClass_spec (hw _ wa_15)
  obtain ⟨m16, c16, k16, f1, -, f3, f4, f5⟩ := Cond.arrayOver_spec (hts _ wao.1)
  obtain ⟨m17, c17, k17, g1, -, g3, g4, g5⟩ := Cond.arrayOver_spec (hts _ wao.2)
  refine ⟨(fun c => (f c).1, fun c => (f c).2), fun i => if i = 12 then c12 else if i = 13 then c13 else if i = 14 then c14 else if i = 15 then c15 else if i = 16 then c16 else c17, fun c q hq => ?_, fun k q hq => ?_⟩
  · have hc : c < 12 := (List.getElem?_eq_some_iff.mp hq).1
    rw [cl_at c hc] at hq
    cases hq
    exact hf c hc
  · have hk : k < 6 := (List.getElem?_eq_some_iff.mp hq).1
    match k, hk with
    | 0, _ =>
      cases hq
      exact ⟨fun n z => ⟨(fun k h => by cases h), k12, a2, m12, a3⟩, a1⟩
    | 1, _ =>
      cases hq
      exact ⟨fun n z => ⟨(fun k h => by cases h), k13, b2, m13, b3⟩, b1⟩
    | 2, _ =>
      cases hq
      exact ⟨fun n z => ⟨(fun k h => by cases h), k14, d2, m14, d3⟩, d1⟩
    | 3, _ =>
      cases hq
      exact ⟨fun n z => ⟨(fun k h => by cases h), k15, e2, m15, e3⟩, e1⟩
    | 4, _ =>
      cases hq
      exact ⟨fun n z => ⟨(fun k h => by cases h), k16, f3, m16, f4⟩, k16, m16, f3, f4, f1, f5⟩
    | 5, _ =>
      cases hq
      exact ⟨fun n z => ⟨(fun k h => by cases h), k17, g3, m17, g4⟩, k17, m17, g3, g4, g1, g5⟩
    | n + 6, h => omega
theorem nb_start {args : Array Value} (hts : ∀ w ∈ lw_tbl, w.before args s = true) : NB s := by
  obtain ⟨w1, w2, w3, w4, w5, w6, w7⟩ := wnl
  exact ⟨va_Nw.of rfl (hts _ w1), va_Nw.of rfl (hts _ w2), va_Nw.of rfl (hts _ w3), va_Nw.of rfl (hts _ w4), va_Nw.of rfl (hts _ w5), va_Nw.of rfl (hts _ w6), va_Nw.of rfl (hts _ w7), va_AO.of (hts _ wao.1), va_AO.of (hts _ wao.2)⟩
def tmT (i : Nat) : Term := .string RX10 (txL.getD i (0, "")).1
def adF (bs t : Nat) (adK adV : Nat → Nat) (fm b : Nat) (k : Nat) : Nat := if k < 115 then bs + pos k else if k = 115 then t else if k < 123 then adK (k - 116) else if k < 130 then adV (k - 123) else if k = 130 then fm else b
theorem wst : Cond.laysStatic RX7 "PRICES" "[I" ∈ lw_tbl ∧ Cond.initialized RX7 ∈ lw_tbl ∧ Cond.laysStatic "java/lang/String" "COMPACT_STRINGS" "Z" ∈ lw_tbl ∧ Cond.initialized "java/lang/String" ∈ lw_tbl ∧ Cond.laysStatic "jdk/internal/util/Preconditions" "SIOOBE_FORMATTER" "Ljava/util/function/BiFunction;" ∈ lw_tbl ∧ Cond.initialized "jdk/internal/util/Preconditions" ∈ lw_tbl := by decide +kernel
theorem wtx : ∀ i, i < 7 → Cond.stringRef RX10 (txL.getD i (0, "")).1 (txL.getD i (0, "")).2 ∈ lw_tbl := by decide +kernel
theorem ex_start (hts : ∀ w ∈ lw_tbl, w.before #[Value.ref b] s = true) (hg : (Jvm.Cond.and given_1 narrow_1).before #[Value.ref b] s = true) : ∃ (t fm : Nat) (adK adV : Nat → Nat), EX (adF s.heap.size t adK adV fm b) (fun q => s.heap.size ≤ q) s s.heap := by
  have hs := flat_of_before _ hg
  have hA : ∀ a : Nat, a < s.heap.size → ¬ s.heap.size ≤ a := fun a h => Nat.not_le.mpr h
  obtain ⟨w1, w2, w3, w4, w5, w6⟩ := wst
  obtain ⟨t, ht, hT⟩ := va_Tof (tm := .static RX7 "PRICES" "[I") (ty := .int) (N := 6) (f := fun j => .int (prc j)) (A := fun q => s.heap.size ≤ q) (by decide) (hs _ (by decide +kernel)) (va_eqt (hs _ (by decide +kernel))) (fun j hj => va_eqt (hs _ (by revert hj; revert j; decide +kernel))) hA
  have hq : ∀ i, i < 7 → ∀ j, j < 7 → i ≠ j → Cond.not (Cond.eq (tmT i) (tmT j)) ∈ flatC (given_1.and narrow_1) ∨ Cond.not (Cond.eq (tmT j) (tmT i)) ∈ flatC (given_1.and narrow_1) := by decide +kernel
  obtain ⟨adK, adV, hS, hev⟩ := vk_Sof (N := 7) (tm := tmT) (len := txN) (byt := txB) (A := fun q => s.heap.size ≤ q) (by decide) (fun i hi => hs _ (by revert hi; revert i; decide +kernel)) (fun i hi => hs _ (by revert hi; revert i; decide +kernel)) (fun i hi => hs _ (by revert hi; revert i; decide +kernel)) (fun i hi => hs _ (by revert hi; revert i; decide +kernel)) (fun i hi j hj => hs _ (by revert hj; revert j; revert hi; revert i; decide +kernel))
    (fun i j hi hj hne => (hq i hi j hj hne).imp (hs _) (hs _)) hA
  have hF := va_Zqof (A := fun q => s.heap.size ≤ q) (hts _ w5) (hts _ w6) (hs _ (by decide +kernel)) hA
  have fin : ∀ fm : Nat, EXF (adF s.heap.size t adK adV fm b) (fun q => s.heap.size ≤ q) s s.heap → EX (adF s.heap.size t adK adV fm b) (fun q => s.heap.size ≤ q) s s.heap := by
    intro fm hfm
    have eK : ∀ i, i < 7 → adF s.heap.size t adK adV fm b (116 + i) = adK i := fun i hi => by
      unfold adF
      rw [if_neg (by omega), if_neg (by omega), if_pos (by omega), show 116 + i - 116 = i by omega]
    have eV : ∀ i, i < 7 → adF s.heap.size t adK adV fm b (123 + i) = adV i := fun i hi => by
      unfold adF
      rw [if_neg (by omega), if_neg (by omega), if_neg (by omega), if_pos (by omega), show 123 + i - 123 = i by omega]
    refine ⟨va_Zof (hts _ w1) (hts _ w2) ht hA, hT, ⟨fun i hi => ?_, fun i j hi hj e => ?_⟩, fun i hi => ?_, va_Zof (hts _ w3) (hts _ w4) (va_eqi (hs _ (by decide +kernel))) hA, hfm⟩
    · have h := hS.1 i hi
      rw [← eK i hi, ← eV i hi] at h
      exact h
    · have e2 : adF s.heap.size t adK adV fm b (116 + i) = adF s.heap.size t adK adV fm b (116 + j) := e
      rw [eK i hi, eK j hj] at e2
      exact hS.2 i j hi hj e2
    · rw [eK i hi]
      exact vk_R.of (hts _ (wtx i hi)) (hev i hi)
  rcases hF with h | ⟨fm, h⟩
  · exact ⟨t, 0, adK, adV, fin 0 (Or.inl h)⟩
  · exact ⟨t, fm, adK, adV, fin fm (Or.inr h)⟩
theorem wxs : (Cond.laysStatic Bundle.tN "UNASSIGNED_STACK" Bundle.steD ∈ lw_tbl ∧ Cond.laysStatic Bundle.tN "SUPPRESSED_SENTINEL" Bundle.listD ∈ lw_tbl ∧ Cond.initialized Bundle.tN ∈ lw_tbl) ∧ (Cond.stringRef RX11 182 "no such sealed one" ∈ lw_tbl ∧ Cond.stringRef RX11 192 "no such what" ∈ lw_tbl) ∧ (Cond.declares (Bundle.initS rteC) ∈ lw_tbl ∧ Cond.declares (Bundle.initS excC) ∈ lw_tbl ∧ Cond.declares (Bundle.initS Bundle.tN) ∈ lw_tbl) ∧ Cond.castable nseC nseC ∈ lw_tbl ∧ Cond.castable iaeC iaeC ∈ lw_tbl := by decide +kernel
theorem xs_start (hts : ∀ w ∈ lw_tbl, w.before #[Value.ref b] s = true) (hg : (Jvm.Cond.and given_1 narrow_1).before #[Value.ref b] s = true) : XSp (fun q => s.heap.size ≤ q) s s.heap := by
  have hs := flat_of_before _ hg
  have hA : ∀ a : Nat, a < s.heap.size → ¬ s.heap.size ≤ a := fun a h => Nat.not_le.mpr h
  obtain ⟨⟨w1, w2, w3⟩, ⟨w4, w5⟩, ⟨w6, w7, w8⟩, w9, w10⟩ := wxs
  obtain ⟨a1, -, -, -, q1, -⟩ := Cond.exactly_spec (args := #[Value.ref b]) (first := s) (o := none) (s := s) (idx := []) (t := .string RX11 182) (cls := "java/lang/String") (hs _ (by decide +kernel))
  obtain ⟨a2, -, -, -, q2, -⟩ := Cond.exactly_spec (args := #[Value.ref b]) (first := s) (o := none) (s := s) (idx := []) (t := .string RX11 192) (cls := "java/lang/String") (hs _ (by decide +kernel))
  exact ⟨⟨vx_Zqof (hts _ w1) (hts _ w3) (hs _ (by decide +kernel)) hA, vx_Zqof (hts _ w2) (hts _ w3) (hs _ (by decide +kernel)) hA⟩, ⟨⟨a1, vk_R.of (hts _ w4) q1⟩, a2, vk_R.of (hts _ w5) q2⟩, ⟨va_Nw.of rfl (hts _ w6), va_Nw.of rfl (hts _ w7), va_Nw.of rfl (hts _ w8)⟩, ⟨va_Nw.of rfl (hts _ w9), va_Nw.of rfl (hts _ w10)⟩, va_Nc.of (hs _ (by decide +kernel))⟩
end STA
