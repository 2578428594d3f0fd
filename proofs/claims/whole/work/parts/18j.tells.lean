/-! THE MODEL PARSES: what a tell keeps (pure part) -/
abbrev GP : Type := List (Nat × Nat) × Nat × Nat
def flG (gs : List GP) : List (Nat × Nat) := gs.flatMap (fun g => g.1 ++ [(g.2.1, g.2.2)])
theorem flG_app (gs : List GP) (g : GP) : flG (gs ++ [g]) = flG gs ++ (g.1 ++ [(g.2.1, g.2.2)]) := by unfold flG; simp
def n6 : List GP → Nat
  | [] => 0
  | g :: r => (if g.2.1 = 6 then 1 else 0) + n6 r
def n7 : List GP → Nat
  | [] => 0
  | g :: r => (if g.2.1 = 7 then 1 else 0) + n7 r
theorem n6_app (g : GP) : ∀ gs : List GP, n6 (gs ++ [g]) = n6 gs + if g.2.1 = 6 then 1 else 0
  | [] => by show (if g.2.1 = 6 then 1 else 0) + 0 = 0 + _; omega
  | x :: r => by rw [List.cons_append, n6, n6, n6_app g r]; omega
theorem n7_app (g : GP) : ∀ gs : List GP, n7 (gs ++ [g]) = n7 gs + if g.2.1 = 7 then 1 else 0
  | [] => by show (if g.2.1 = 7 then 1 else 0) + 0 = 0 + _; omega
  | x :: r => by rw [List.cons_append, n7, n7, n7_app g r]; omega
def cdG (cd : Nat × Nat → List (Nat × Nat)) (gs : List GP) : List (Nat × Nat) := gs.flatMap (fun g => g.1.flatMap cd)
theorem cdG_app (cd : Nat × Nat → List (Nat × Nat)) (gs : List GP) (g : GP) : cdG cd (gs ++ [g]) = cdG cd gs ++ g.1.flatMap cd := by unfold cdG; simp
def tlH (cd : Nat × Nat → List (Nat × Nat)) : List GP → Nat → Nat → List TE
  | [], _, _ => []
  | g :: r, fr, lt => (fr, fr + (g.1.flatMap cd).length, g.2.2, if g.2.1 = 6 then (lt : Int) else -1) :: tlH cd r (fr + (g.1.flatMap cd).length) (lt + if g.2.1 = 6 then 1 else 0)
theorem tlH_app (cd : Nat × Nat → List (Nat × Nat)) (g : GP) : ∀ (gs : List GP) (fr lt : Nat), tlH cd (gs ++ [g]) fr lt = tlH cd gs fr lt ++ [(fr + (cdG cd gs).length, fr + (cdG cd gs).length + (g.1.flatMap cd).length, g.2.2, if g.2.1 = 6 then ((lt + n6 gs : Nat) : Int) else -1)]
  | [], fr, lt => rfl
  | x :: r, fr, lt => by
    rw [List.cons_append, tlH, tlH, tlH_app cd g r]
    have e1 : cdG cd (x :: r) = x.1.flatMap cd ++ cdG cd r := rfl
    rw [e1, List.length_append, n6]
    simp only [List.cons_append, Nat.add_assoc]
theorem tlH_len (cd : Nat × Nat → List (Nat × Nat)) : ∀ (gs : List GP) (fr lt : Nat), (tlH cd gs fr lt).length = gs.length
  | [], _, _ => rfl
  | g :: r, fr, lt => by rw [tlH, List.length_cons, List.length_cons, tlH_len cd r]
theorem flatMap_ext {α β : Type} {f g : α → List β} : ∀ {l : List α}, (∀ x ∈ l, f x = g x) → l.flatMap f = l.flatMap g
  | [], _ => rfl
  | x :: r, h => by rw [List.flatMap_cons, List.flatMap_cons, h x List.mem_cons_self, flatMap_ext (fun y hy => h y (List.mem_cons_of_mem _ hy))]
theorem tlH_ext {c1 c2 : Nat × Nat → List (Nat × Nat)} : ∀ {gs : List GP} {fr lt : Nat}, (∀ g ∈ gs, ∀ x ∈ g.1, c1 x = c2 x) → tlH c1 gs fr lt = tlH c2 gs fr lt
  | [], _, _, _ => rfl
  | g :: r, fr, lt, h => by rw [tlH, tlH, flatMap_ext (h g List.mem_cons_self), tlH_ext (fun y hy => h y (List.mem_cons_of_mem _ hy))]
theorem cdG_ext {c1 c2 : Nat × Nat → List (Nat × Nat)} {gs : List GP} (h : ∀ g ∈ gs, ∀ x ∈ g.1, c1 x = c2 x) : cdG c1 gs = cdG c2 gs := flatMap_ext (fun g hg => flatMap_ext (h g hg))
theorem lk_ext {q : Nat → Bool} {w : Nat} {Nm : List MN} (es : List MN) (h : lk q w Nm < Nm.length) : lk q w (Nm ++ es) = lk q w Nm := by
  refine lk_is (d := (0, 0, 0)) (by rw [List.length_append]; omega) (fun i hi => ?_) (fun _ => ?_)
  · have h1 := lk_lt q w Nm (0, 0, 0) i hi
    rw [List.getD_eq_getElem?_getD, List.getElem?_append_left (by omega), ← List.getD_eq_getElem?_getD]
    exact h1
  · have h1 := lk_at q w Nm (0, 0, 0) h
    rw [List.getD_eq_getElem?_getD, List.getElem?_append_left h, ← List.getD_eq_getElem?_getD]
    exact h1
/-- an event's name is known; an order's name is -/
def eok (W : Nat → Nat) (Nm : List MN) (e : Nat × Nat) : Prop := (e.1 = 5 → lk qV (W e.2) Nm < Nm.length) ∧ (e.1 = 4 → lk qT (W e.2) Nm < Nm.length)
theorem eok_ext {W : Nat → Nat} {Nm : List MN} {e : Nat × Nat} (es : List MN) (h : eok W Nm e) : eok W (Nm ++ es) e := ⟨fun q => by have := h.1 q; rw [lk_ext es this, List.length_append]; omega, fun q => by have := h.2 q; rw [lk_ext es this, List.length_append]; omega⟩
theorem cdT_ext {V W : Nat → Nat} {bs : Nat} {Nm : List MN} (es : List MN) {x : Nat × Nat} (h2 : x.1 = 2 → lk qV (W x.2) Nm < Nm.length) (h9 : x.1 = 9 → lk qT (W x.2) Nm < Nm.length) : cdT (Nm ++ es) V W bs x = cdT Nm V W bs x := by
  have hg : ∀ j, j < Nm.length → (Nm ++ es).getD j (0, 0, 0) = Nm.getD j (0, 0, 0) := fun j hj => by rw [List.getD_eq_getElem?_getD, List.getElem?_append_left hj, ← List.getD_eq_getElem?_getD]
  unfold cdT
  by_cases k3 : x.1 = 3
  · rw [if_pos k3, if_pos k3]
  rw [if_neg k3, if_neg k3]
  by_cases k2 : x.1 = 2
  · have h := h2 k2
    rw [if_pos k2, if_pos k2, lk_ext es h, if_pos h, if_pos (by rw [List.length_append]; omega), hg _ h]
  rw [if_neg k2, if_neg k2]
  by_cases k9 : x.1 = 9
  · have h := h9 k9
    have e : tbF (Nm ++ es) W x.2 = tbF Nm W x.2 := by
      unfold tbF
      rw [lk_ext es h, if_pos h, if_pos (by rw [List.length_append]; omega), hg _ h]
    rw [e]
  · rw [if_neg k9, if_neg k9]
theorem wrg_ne {w : Nat × Nat} {k p : Nat} (hk : k ≠ 0) : (wrg w k p).1 ≠ 0 := by
  unfold wrg
  split
  · rename_i h; exact h.1
  · exact hk
theorem w3F_0 {P W : Nat → Nat} {Nt : List MN} {w : Nat × Nat} {a : Nat} (h : (w3F P W Nt w a).1 = 0) : w.1 = 0 ∧ dupW W Nt a = false := by
  unfold w3F at h
  split at h
  · exact absurd h (wrg_ne (by decide))
  · rename_i q
    exact ⟨h, by simpa using q⟩
theorem evW_0 {P W : Nat → Nat} {Nm : List MN} : ∀ (es : List (Nat × Nat)) (w : Nat × Nat), (es.foldl (evW Nm P W) w).1 = 0 → w.1 = 0 ∧ ∀ e ∈ es, eok W Nm e
  | [], w, h => ⟨h, fun e he => absurd he List.not_mem_nil⟩
  | e :: es, w, h => by
    rw [List.foldl_cons] at h
    obtain ⟨h1, h2⟩ := evW_0 es _ h
    unfold evW at h1
    have key : w.1 = 0 ∧ eok W Nm e := by
      split at h1
      · rename_i q4
        split at h1
        · rename_i q
          exact ⟨h1, fun z => by omega, fun _ => q⟩
        · exact absurd h1 (wrg_ne (by decide))
      · rename_i q4
        split at h1
        · rename_i q5
          split at h1
          · rename_i q
            exact ⟨h1, fun _ => q, fun z => by omega⟩
          · exact absurd h1 (wrg_ne (by decide))
        · rename_i q5
          exact ⟨h1, fun z => absurd z q5, fun z => absurd z q4⟩
    refine ⟨key.1, fun x hx => ?_⟩
    rcases List.mem_cons.mp hx with q | q
    · rw [q]; exact key.2
    · exact h2 x q
/-- the pure part of what stands between tells -/
def TKp (K P V W : Nat → Nat) (bs : Nat) (s : GS) (gs : List GP) (C : List (Nat × Nat)) (TL : List TE) : Prop :=
  (s.2.1 = flG gs ∧ (∀ g ∈ gs, (g.2.1 = 6 ∨ g.2.1 = 7) ∧ ∀ x ∈ g.1, x.1 ≠ 6 ∧ x.1 ≠ 7) ∧ oe s) ∧
  (s.2.1.length ≤ s.1 ∧ C.length ≤ s.2.1.length ∧ 4 * TL.length ≤ s.1 + n7 gs ∧ 3 * (pmF K P W bs s.2.2).1.length ≤ s.1) ∧
  ((pmF K P W bs s.2.2).2.2.1 = n6 gs ∧ n6 gs ≤ TL.length ∧ (pmF K P W bs s.2.2).2.1 ≤ (pmF K P W bs s.2.2).1.length ∧ (pmF K P W bs s.2.2).2.2.2.1.length ≤ (pmF K P W bs s.2.2).1.length ∧ n7 gs ≤ 4 ∧ gs.length = TL.length) ∧
  ((pmF K P W bs s.2.2).2.2.2.2.1 = 0 → C = cdG (cdT (nmL W (pmF K P W bs s.2.2).1) V W bs) gs ∧ TL = tlH (cdT (nmL W (pmF K P W bs s.2.2).1) V W bs) gs 0 0 ∧ ∀ e ∈ s.2.2, eok W (nmL W (pmF K P W bs s.2.2).1) e)
theorem TK_cd {K P V W : Nat → Nat} {bs : Nat} {s : GS} {gs : List GP} {C : List (Nat × Nat)} {TL : List TE} (h : TKp K P V W bs s gs C TL) {Nm : List MN} (hN : ∀ e ∈ s.2.2, eok W Nm e) (es : List MN) : ∀ g ∈ gs, ∀ x ∈ g.1, cdT (Nm ++ es) V W bs x = cdT Nm V W bs x := by
  intro g hg x hx
  have hm : x ∈ s.2.1 := by
    rw [h.1.1]
    exact List.mem_flatMap.mpr ⟨g, hg, List.mem_append_left _ hx⟩
  have ho := h.1.2.2 x hm
  exact cdT_ext es (fun q => (hN _ (ho.1 q)).1 rfl) (fun q => (hN _ (ho.2 q)).2 rfl)
theorem oe_more {s s2 : GS} (h : oe s) (h1 : s2.2.1 = s.2.1) {es : List (Nat × Nat)} (h2 : s2.2.2 = s.2.2 ++ es) : oe s2 := by
  intro x hx
  rw [h1] at hx
  rw [h2]
  exact ⟨fun z => List.mem_append_left _ ((h x hx).1 z), fun z => List.mem_append_left _ ((h x hx).2 z)⟩
/-- a name told, no order written -/
theorem TKp_name {K P V W : Nat → Nat} {bs : Nat} {s s2 : GS} {gs : List GP} {C : List (Nat × Nat)} {TL : List TE} (h : TKp K P V W bs s gs C TL) (h1 : s2.2.1 = s.2.1) (h3 : s.1 + 3 ≤ s2.1) {g a : Nat} (h2 : s2.2.2 = s.2.2 ++ [(g, a)]) (hg : g = 0 ∨ g = 1) : TKp K P V W bs s2 gs C TL := by
  have h9 := h
  obtain ⟨⟨a1, a2, a3⟩, ⟨b1, b2, b3, b4⟩, ⟨c1, c2, c3, c4, c5, c6⟩, d⟩ := h
  have eP : pmF K P W bs s2.2.2 = evM K P W bs (pmF K P W bs s.2.2) (g, a) := by rw [h2, pmF_app]
  have n1 : ∀ p : PM, (evM K P W bs p (g, a)).1.length = p.1.length + 1 ∧ (evM K P W bs p (g, a)).2.2.1 = p.2.2.1 ∧ (evM K P W bs p (g, a)).2.1 ≤ p.2.1 + 1 ∧ (evM K P W bs p (g, a)).2.2.2.1.length ≤ p.2.2.2.1.length + 1 ∧ (∃ x, (evM K P W bs p (g, a)).1 = p.1 ++ [x]) ∧ ((evM K P W bs p (g, a)).2.2.2.2.1 = 0 → p.2.2.2.2.1 = 0) := by
    intro p
    unfold evM
    rcases hg with rfl | rfl
    · refine ⟨by simp, rfl, Nat.le_refl _, Nat.le_succ _, ⟨_, rfl⟩, fun q => (w3F_0 q).1⟩
    · refine ⟨by simp, rfl, Nat.le_succ _, by simp, ⟨_, rfl⟩, fun q => ?_⟩
      have q2 : (if mnyF K a ≠ bs ∨ ¬ prm bs then wrg (w3F P W p.1 p.2.2.2.2 a) 5 (P a) else w3F P W p.1 p.2.2.2.2 a).1 = 0 := q
      split at q2
      · exact absurd q2 (wrg_ne (by decide))
      · exact (w3F_0 q2).1
  obtain ⟨m1, m2, m3, m4, ⟨x, m5⟩, m6⟩ := n1 (pmF K P W bs s.2.2)
  rw [TKp, eP]
  refine ⟨⟨by rw [h1]; exact a1, a2, oe_more a3 h1 h2⟩, ⟨by rw [h1]; omega, by rw [h1]; exact b2, by omega, by omega⟩, ⟨by rw [m2]; exact c1, c2, by omega, by omega, c5, c6⟩, fun hw => ?_⟩
  obtain ⟨d1, d2, d3⟩ := d (m6 hw)
  rw [m5, nmL_app]
  have hcd := TK_cd h9 d3 [(W x.1, x.2.1, x.2.2)]
  refine ⟨by rw [cdG_ext hcd]; exact d1, by rw [tlH_ext hcd]; exact d2, fun e he => ?_⟩
  rw [h2] at he
  rcases List.mem_append.mp he with q | q
  · exact eok_ext _ (d3 e q)
  · rw [List.mem_singleton.mp q]
    exact ⟨fun z => by have z : g = 5 := z; omega, fun z => by have z : g = 4 := z; omega⟩
/-- an expression told: its orders behind each other -/
theorem TKp_expr {K P V W : Nat → Nat} {bs : Nat} {s : GS} {gs : List GP} {C : List (Nat × Nat)} {TL : List TE} (h : TKp K P V W bs s gs C TL) {xs es : List (Nat × Nat)} {o word : Nat} {w0 : Nat × Nat} (hw0 : w0.1 = 0 → (pmF K P W bs s.2.2).2.2.2.2.1 = 0) {wE : Nat × Nat} (hE : wE = es.foldl (evW (nmL W (pmF K P W bs s.2.2).1) P W) w0) (h0 : wE.1 = 0) (ho : o = 6 ∨ o = 7) : C ++ xs.flatMap (cdT (nmL W (pmF K P W bs s.2.2).1) V W bs) = cdG (cdT (nmL W (pmF K P W bs s.2.2).1) V W bs) (gs ++ [(xs, o, word)]) ∧ TL ++ [(C.length, (C ++ xs.flatMap (cdT (nmL W (pmF K P W bs s.2.2).1) V W bs)).length, word, if o = 6 then ((pmF K P W bs s.2.2).2.2.1 : Int) else -1)] = tlH (cdT (nmL W (pmF K P W bs s.2.2).1) V W bs) (gs ++ [(xs, o, word)]) 0 0 ∧ (∀ e ∈ s.2.2, eok W (nmL W (pmF K P W bs s.2.2).1) e) ∧ ∀ e ∈ es, eok W (nmL W (pmF K P W bs s.2.2).1) e := by
  obtain ⟨q1, q2⟩ := evW_0 es w0 (by rw [← hE]; exact h0)
  obtain ⟨d1, d2, d3⟩ := h.2.2.2 (hw0 q1)
  have hc1 := h.2.2.1.1
  refine ⟨?_, ?_, d3, q2⟩
  · rw [cdG_app, ← d1]
  · rw [tlH_app, ← d2, ← d1, hc1, List.length_append]
    simp only [Nat.zero_add]
theorem TKp_out {K P V W : Nat → Nat} {bs : Nat} {s s2 : GS} {gs : List GP} {C : List (Nat × Nat)} {TL : List TE} (h : TKp K P V W bs s gs C TL) {xs es : List (Nat × Nat)} {word : Nat} (h1 : s2.2.1 = s.2.1 ++ xs ++ [(7, word)]) (h2 : s2.2.2 = s.2.2 ++ es) (hx : ∀ x ∈ xs, x.1 ≠ 6 ∧ x.1 ≠ 7) (he : ∀ e ∈ es, e.1 = 4 ∨ e.1 = 5) (ho : oe s2) (hl : s2.2.1.length ≤ s2.1) (h3 : s.1 + 3 ≤ s2.1) (h7 : n7 gs < 4) : TKp K P V W bs s2 (gs ++ [(xs, 7, word)]) (C ++ xs.flatMap (cdT (nmL W (pmF K P W bs s.2.2).1) V W bs)) (TL ++ [(C.length, (C ++ xs.flatMap (cdT (nmL W (pmF K P W bs s.2.2).1) V W bs)).length, word, -1)]) := by
  have h9 := h
  obtain ⟨⟨a1, a2, a3⟩, ⟨b1, b2, b3, b4⟩, ⟨c1, c2, c3, c4, c5, c6⟩, d⟩ := h
  have eP := (congrArg (pmF K P W bs) h2).trans (pmF_use (K := K) (P := P) (W := W) (bs := bs) s.2.2 es he)
  have hcl : (xs.flatMap (cdT (nmL W (pmF K P W bs s.2.2).1) V W bs)).length ≤ xs.length := by
    clear h1 hx
    induction xs with
    | nil => exact Nat.le_refl _
    | cons x r ih =>
      rw [List.flatMap_cons, List.length_append, List.length_cons]
      have := cdT_len (Nm := nmL W (pmF K P W bs s.2.2).1) (V := V) (W := W) (bs := bs) x
      omega
  rw [TKp, eP]
  dsimp only
  have hl2 : s2.2.1.length = s.2.1.length + xs.length + 1 := by rw [h1]; simp; omega
  refine ⟨⟨?_, fun g hg => ?_, ho⟩, ⟨hl, by rw [List.length_append]; omega, by rw [List.length_append, List.length_singleton, n7_app, if_pos rfl]; omega, by omega⟩, ⟨by rw [n6_app, if_neg (show ¬ (7 : Nat) = 6 by decide)]; exact c1, by rw [n6_app, if_neg (show ¬ (7 : Nat) = 6 by decide), List.length_append]; omega, c3, c4, by rw [n7_app, if_pos rfl]; omega, by rw [List.length_append, List.length_append]; simp; exact c6⟩, fun hw => ?_⟩
  · rw [h1, flG_app, a1, List.append_assoc]
  · rcases List.mem_append.mp hg with q | q
    · exact a2 g q
    · rw [List.mem_singleton.mp q]; exact ⟨Or.inr rfl, hx⟩
  · obtain ⟨r1, r2, r3, r4⟩ := TKp_expr h9 (xs := xs) (es := es) (o := 7) (word := word) (fun q => q) rfl hw (Or.inr rfl)
    refine ⟨r1, by rw [← r2, if_neg (by decide)], fun e hm => ?_⟩
    rw [h2] at hm
    rcases List.mem_append.mp hm with q | q
    · exact r3 e q
    · exact r4 e q
theorem TKp_let {K P V W : Nat → Nat} {bs : Nat} {s s2 : GS} {gs : List GP} {C : List (Nat × Nat)} {TL : List TE} (h : TKp K P V W bs s gs C TL) {xs es : List (Nat × Nat)} {word a : Nat} (h1 : s2.2.1 = s.2.1 ++ xs ++ [(6, word)]) (h2 : s2.2.2 = s.2.2 ++ [(2, a)] ++ es ++ [(3, a)]) (hx : ∀ x ∈ xs, x.1 ≠ 6 ∧ x.1 ≠ 7) (he : ∀ e ∈ es, e.1 = 4 ∨ e.1 = 5) (ho : oe s2) (hl : s2.2.1.length ≤ s2.1) (h3 : s.1 + 4 ≤ s2.1) : TKp K P V W bs s2 (gs ++ [(xs, 6, word)]) (C ++ xs.flatMap (cdT (nmL W (pmF K P W bs s.2.2).1) V W bs)) (TL ++ [(C.length, (C ++ xs.flatMap (cdT (nmL W (pmF K P W bs s.2.2).1) V W bs)).length, word, ((pmF K P W bs s.2.2).2.2.1 : Int))]) ∧ pmF K P W bs s2.2.2 = ((pmF K P W bs s.2.2).1 ++ [(a, 1, (pmF K P W bs s.2.2).2.2.1)], (pmF K P W bs s.2.2).2.1, (pmF K P W bs s.2.2).2.2.1 + 1, (pmF K P W bs s.2.2).2.2.2.1, es.foldl (evW (nmL W (pmF K P W bs s.2.2).1) P W) (w3F P W (pmF K P W bs s.2.2).1 (pmF K P W bs s.2.2).2.2.2.2 a)) := by
  have h9 := h
  obtain ⟨⟨a1, a2, a3⟩, ⟨b1, b2, b3, b4⟩, ⟨c1, c2, c3, c4, c5, c6⟩, d⟩ := h
  have eP : pmF K P W bs s2.2.2 = ((pmF K P W bs s.2.2).1 ++ [(a, 1, (pmF K P W bs s.2.2).2.2.1)], (pmF K P W bs s.2.2).2.1, (pmF K P W bs s.2.2).2.2.1 + 1, (pmF K P W bs s.2.2).2.2.2.1, es.foldl (evW (nmL W (pmF K P W bs s.2.2).1) P W) (w3F P W (pmF K P W bs s.2.2).1 (pmF K P W bs s.2.2).2.2.2.2 a)) := by
    rw [h2, pmF_app, pmF_use _ _ he, pmF_app]
    rfl
  refine ⟨?_, eP⟩
  have hcl : (xs.flatMap (cdT (nmL W (pmF K P W bs s.2.2).1) V W bs)).length ≤ xs.length := by
    clear h1 hx
    induction xs with
    | nil => exact Nat.le_refl _
    | cons x r ih =>
      rw [List.flatMap_cons, List.length_append, List.length_cons]
      have := cdT_len (Nm := nmL W (pmF K P W bs s.2.2).1) (V := V) (W := W) (bs := bs) x
      omega
  have hl2 : s2.2.1.length = s.2.1.length + xs.length + 1 := by rw [h1]; simp; omega
  rw [TKp, eP]
  dsimp only
  refine ⟨⟨?_, fun g hg => ?_, ho⟩, ⟨hl, by rw [List.length_append]; omega, by rw [List.length_append, List.length_singleton, n7_app, if_neg (show ¬ (6 : Nat) = 7 by decide)]; omega, by rw [List.length_append, List.length_singleton]; omega⟩, ⟨by rw [n6_app, if_pos rfl, c1], by rw [n6_app, if_pos rfl, List.length_append, List.length_singleton]; omega, by rw [List.length_append]; omega, by rw [List.length_append]; omega, by rw [n7_app, if_neg (show ¬ (6 : Nat) = 7 by decide)]; omega, by rw [List.length_append, List.length_append]; simp; exact c6⟩, fun hw => ?_⟩
  · rw [h1, flG_app, a1, List.append_assoc]
  · rcases List.mem_append.mp hg with q | q
    · exact a2 g q
    · rw [List.mem_singleton.mp q]; exact ⟨Or.inl rfl, hx⟩
  · obtain ⟨r1, r2, r3, r4⟩ := TKp_expr h9 (xs := xs) (es := es) (o := 6) (word := word) (w0 := w3F P W (pmF K P W bs s.2.2).1 (pmF K P W bs s.2.2).2.2.2.2 a) (fun q => (w3F_0 q).1) rfl hw (Or.inl rfl)
    rw [if_pos rfl] at r2
    have eall : ∀ e ∈ s2.2.2, eok W (nmL W (pmF K P W bs s.2.2).1) e := by
      intro e hm
      rw [h2] at hm
      rcases List.mem_append.mp hm with q | q
      · rcases List.mem_append.mp q with q | q
        · rcases List.mem_append.mp q with q | q
          · exact r3 e q
          · rw [List.mem_singleton.mp q]
            exact ⟨fun z => absurd z (by show ¬ (2 : Nat) = 5; decide), fun z => absurd z (by show ¬ (2 : Nat) = 4; decide)⟩
        · exact r4 e q
      · rw [List.mem_singleton.mp q]
        exact ⟨fun z => absurd z (by show ¬ (3 : Nat) = 5; decide), fun z => absurd z (by show ¬ (3 : Nat) = 4; decide)⟩
    have hcd : ∀ g ∈ gs ++ [((xs, 6, word) : GP)], ∀ x ∈ g.1, cdT (nmL W (pmF K P W bs s.2.2).1 ++ [(W a, 1, (pmF K P W bs s.2.2).2.2.1)]) V W bs x = cdT (nmL W (pmF K P W bs s.2.2).1) V W bs x := by
      intro g hg x hx2
      have hm : x ∈ s2.2.1 := by
        rw [h1]
        rcases List.mem_append.mp hg with q | q
        · rw [a1]
          exact List.mem_append_left _ (List.mem_append_left _ (List.mem_flatMap.mpr ⟨g, q, List.mem_append_left _ hx2⟩))
        · rw [List.mem_singleton.mp q] at hx2
          exact List.mem_append_left _ (List.mem_append_right _ hx2)
      have hoo := ho x hm
      exact cdT_ext _ (fun q => (eall _ (hoo.1 q)).1 rfl) (fun q => (eall _ (hoo.2 q)).2 rfl)
    rw [nmL_app]
    refine ⟨by rw [cdG_ext hcd]; exact r1, by rw [tlH_ext hcd]; exact r2, fun e hm => eok_ext _ (eall e hm)⟩
