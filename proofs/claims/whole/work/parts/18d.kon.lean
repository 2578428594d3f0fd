/-! WHAT IS STILL TO COME (pure): an expression by what waits -/
theorem gb_congr {r : GR} {f g : GS → GR} (h : ∀ s, r = .inr s → f s = g s) : gb r f = gb r g := by
  cases r with
  | inl e => rfl
  | inr s => exact h s rfl
theorem gb_assoc (r : GR) (f g : GS → GR) : gb (gb r f) g = gb r (fun s => gb (f s) g) := by
  cases r with
  | inl e => rfl
  | inr s => rfl
theorem psF_ok {s s1 : GS} (h : psF s = .inr s1) : s1.1 = s.1 + 1 ∧ s1.1 ≤ 300 ∧ s1.2 = s.2 := by
  unfold psF at h
  split at h
  · cases h
  · cases h
    exact ⟨rfl, by show s.1 + 1 ≤ 300; omega, rfl⟩
section KON
variable {K : Nat → Nat}
theorem gKp_ok {u : GS → GR} (hu : gKp u) {s s2 : GS} (h : s.1 ≤ 300) (e : u s = .inr s2) : gup s s2 := by
  have := hu s h
  rw [e] at this
  exact this
theorem prodL_fuel {u : GS → GR} (hu : gKp u) : ∀ (f g : Nat) (s : GS), s.1 ≤ 300 → 301 ≤ f + s.1 → 301 ≤ g + s.1 → prodL K u f s = prodL K u g s
  | 0, g, s, h, h1, h2 => by omega
  | f + 1, 0, s, h, h1, h2 => by omega
  | f + 1, g + 1, s, h, h1, h2 => by
    rw [prodL, prodL]
    by_cases k : K s.1 = 42
    · rw [if_pos k, if_pos k]
      refine gb_congr (fun s1 e1 => gb_congr (fun s2 e2 => ?_))
      have a1 := psF_ok e1
      have a2 := gKp_ok hu a1.2.1 e2
      exact prodL_fuel hu f g (wrF 42 s2.1 s2) a2.le (by have := a2.2; show 301 ≤ f + s2.1; omega) (by have := a2.2; show 301 ≤ g + s2.1; omega)
    · rw [if_neg k, if_neg k]
theorem sumL_fuel {u : GS → GR} (hu : gKp u) : ∀ (f g : Nat) (s : GS), s.1 ≤ 300 → 301 ≤ f + s.1 → 301 ≤ g + s.1 → sumL K u f s = sumL K u g s
  | 0, g, s, h, h1, h2 => by omega
  | f + 1, 0, s, h, h1, h2 => by omega
  | f + 1, g + 1, s, h, h1, h2 => by
    rw [sumL, sumL]
    by_cases k : K s.1 = 43 ∨ K s.1 = 45
    · rw [if_pos k, if_pos k]
      refine gb_congr (fun s1 e1 => gb_congr (fun s2 e2 => ?_))
      have a1 := psF_ok e1
      have a2 := gKp_ok hu a1.2.1 e2
      exact sumL_fuel hu f g (wrF (K s.1) s2.1 s2) a2.le (by have := a2.2; show 301 ≤ f + s2.1; omega) (by have := a2.2; show 301 ≤ g + s2.1; omega)
    · rw [if_neg k, if_neg k]
theorem prodL_un {u : GS → GR} (hu : gKp u) {s : GS} (h : s.1 ≤ 300) (h1 : 1 ≤ s.1) : prodL K u 300 s = if K s.1 = 42 then gb (psF s) (fun s1 => gb (u s1) (fun s2 => prodL K u 300 (wrF 42 s2.1 s2))) else .inr s := by
  rw [show prodL K u 300 s = prodL K u (299 + 1) s from rfl, prodL]
  by_cases k : K s.1 = 42
  · rw [if_pos k, if_pos k]
    refine gb_congr (fun s1 e1 => gb_congr (fun s2 e2 => ?_))
    have a1 := psF_ok e1
    have a2 := gKp_ok hu a1.2.1 e2
    exact prodL_fuel hu 299 300 (wrF 42 s2.1 s2) a2.le (by have := a2.2; show 301 ≤ 299 + s2.1; omega) (by have := a2.2; show 301 ≤ 300 + s2.1; omega)
  · rw [if_neg k, if_neg k]
theorem sumL_un {u : GS → GR} (hu : gKp u) {s : GS} (h : s.1 ≤ 300) (h1 : 1 ≤ s.1) : sumL K u 300 s = if K s.1 = 43 ∨ K s.1 = 45 then gb (psF s) (fun s1 => gb (u s1) (fun s2 => sumL K u 300 (wrF (K s.1) s2.1 s2))) else .inr s := by
  rw [show sumL K u 300 s = sumL K u (299 + 1) s from rfl, sumL]
  by_cases k : K s.1 = 43 ∨ K s.1 = 45
  · rw [if_pos k, if_pos k]
    refine gb_congr (fun s1 e1 => gb_congr (fun s2 e2 => ?_))
    have a1 := psF_ok e1
    have a2 := gKp_ok hu a1.2.1 e2
    exact sumL_fuel hu 299 300 (wrF (K s.1) s2.1 s2) a2.le (by have := a2.2; show 301 ≤ 299 + s2.1; omega) (by have := a2.2; show 301 ≤ 300 + s2.1; omega)
  · rw [if_neg k, if_neg k]
abbrev WE : Type := Nat × Nat × Nat
def ops : List WE → Nat
  | [] => 0
  | x :: r => (if x.1 = 6 ∨ x.1 = 24 ∨ x.1 = 25 then 1 else 0) + ops r
def nop : List WE → Nat
  | [] => 0
  | x :: r => (if x.1 = 6 then 0 else 1) + nop r
theorem nop_le : ∀ w : List WE, nop w ≤ w.length
  | [] => Nat.le_refl _
  | x :: r => by
    have := nop_le r
    rw [nop, List.length_cons]
    split <;> omega
def chk (u : GS → GR) : Nat → (GS → GR) → GS → GR
  | 0, k, s => k s
  | n + 1, k, s => gb (u s) (chk u n k)
/-- behind a unit; behind a product that no sign waits for -/
def kon (K : Nat → Nat) : List WE → (GS → GR) × (GS → GR)
  | [] => (fun s => gb (prodL K (unitF K 6) 300 s) (sumL K (prodF K (unitF K 6)) 300), sumL K (prodF K (unitF K 6)) 300)
  | x :: r =>
    if x.1 = 6 then (fun s => gb (prodL K (unitF K (6 - ops (x :: r))) 300 s) (fun s1 => gb (sumL K (prodF K (unitF K (6 - ops (x :: r)))) 300 s1) (fun s2 => gb (tkF K 41 s2) (kon K r).1)), fun s1 => gb (sumL K (prodF K (unitF K (6 - ops (x :: r)))) 300 s1) (fun s2 => gb (tkF K 41 s2) (kon K r).1))
    else if x.1 = 24 then (chk (unitF K (6 - ops (x :: r))) (x.2.1 - 1) (fun s2 => (kon K r).1 (wrF 8 x.2.2 s2)), fun s => .inr s)
    else if x.1 = 25 then (fun s => (kon K r).1 (wrF 9 (x.2.2 + 1) s), fun s => .inr s)
    else if x.1 = 10 then (fun s => (kon K r).1 (wrF 42 s.1 s), fun s => .inr s)
    else (fun s => gb (prodL K (unitF K (6 - ops r)) 300 s) (fun s2 => (kon K r).2 (wrF (if x.1 = 8 then 43 else 45) s2.1 s2)), fun s => .inr s)
def tpk (w : List WE) : Nat := (w.getD 0 (0, 0, 0)).1
/-- how what waits may lie -/
def wfW (tb : Nat → Nat) : List WE → Prop
  | [] => True
  | x :: r => wfW tb r ∧ (x.1 = 6 ∨ (x.1 = 24 ∧ 1 ≤ x.2.1 ∧ x.2.1 ≤ 3) ∨ (x.1 = 25 ∧ x.2.1 = tb (x.2.2 + 1)) ∨ (x.1 = 10 ∧ (tpk r = 0 ∨ tpk r = 6 ∨ tpk r = 8 ∨ tpk r = 9)) ∨ ((x.1 = 8 ∨ x.1 = 9) ∧ (tpk r = 0 ∨ tpk r = 6)))
theorem wfW_kind {tb : Nat → Nat} : ∀ {w : List WE}, wfW tb w → ∀ x ∈ w, x.1 = 6 ∨ x.1 = 24 ∨ x.1 = 25 ∨ x.1 = 10 ∨ x.1 = 8 ∨ x.1 = 9
  | [], _, x, hx => absurd hx List.not_mem_nil
  | y :: r, h, x, hx => by
    rcases List.mem_cons.mp hx with q | q
    · rw [q]
      have := h.2
      omega
    · exact wfW_kind h.1 x q
theorem tpk_0 {tb : Nat → Nat} {w : List WE} (h : wfW tb w) (h0 : tpk w = 0) : w = [] := by
  cases w with
  | nil => rfl
  | cons x r =>
    have h1 : x.1 = 0 := h0
    have := wfW_kind h x List.mem_cons_self
    omega
/-- the whole of an expression, from its first unit -/
theorem kon_expr (s : GS) : exprF K s = gb (unitF K 6 s) (kon K []).1 := by
  unfold exprF sumF prodF
  rw [gb_assoc]
  rfl
theorem gKu (d : Nat) : gKp (unitF K d) := gK_unit d
theorem gKq (d : Nat) : gKp (prodF K (unitF K d)) := gK_prodF (gK_unit d)
/-- a sign of a product ahead -/
theorem kon_times {w : List WE} (hw : tpk w = 6 ∨ tpk w = 8 ∨ tpk w = 9 ∨ w = []) {s : GS} (h : s.1 ≤ 300) (h1 : 1 ≤ s.1) (hk : K s.1 = 42) (c : Nat) : (kon K w).1 s = gb (psF s) (fun s1 => gb (unitF K (6 - ops w) s1) (kon K ((10, 0, c) :: w)).1) := by
  have key : ∀ (d : Nat) (S : GS → GR), gb (prodL K (unitF K d) 300 s) S = gb (psF s) (fun s1 => gb (unitF K d s1) (fun s2 => gb (prodL K (unitF K d) 300 (wrF 42 s2.1 s2)) S)) := by
    intro d S
    rw [prodL_un (gKu d) h h1, if_pos hk, gb_assoc]
    refine gb_congr (fun s1 _ => ?_)
    rw [gb_assoc]
  have hk10 : (kon K ((10, 0, c) :: w)).1 = fun s => (kon K w).1 (wrF 42 s.1 s) := rfl
  rw [hk10]
  cases w with
  | nil => exact key 6 _
  | cons x r =>
    have hx : x.1 = 6 ∨ x.1 = 8 ∨ x.1 = 9 := by
      rcases hw with q | q | q | q
      · exact Or.inl q
      · exact Or.inr (Or.inl q)
      · exact Or.inr (Or.inr q)
      · cases q
    by_cases h6 : x.1 = 6
    · have e : (kon K (x :: r)).1 = fun s => gb (prodL K (unitF K (6 - ops (x :: r))) 300 s) (fun s1 => gb (sumL K (prodF K (unitF K (6 - ops (x :: r)))) 300 s1) (fun s2 => gb (tkF K 41 s2) (kon K r).1)) := by
        rw [kon, if_pos h6]
      rw [e]
      exact key _ _
    · have e : (kon K (x :: r)).1 = fun s => gb (prodL K (unitF K (6 - ops r)) 300 s) (fun s2 => (kon K r).2 (wrF (if x.1 = 8 then 43 else 45) s2.1 s2)) := by
        rw [kon, if_neg h6, if_neg (by omega), if_neg (by omega), if_neg (by omega)]
      have eo : ops (x :: r) = ops r := by rw [ops, if_neg (by omega), Nat.zero_add]
      rw [e, eo]
      exact key _ _
/-- no sign of a product ahead -/
theorem kon_no {w : List WE} (hw : tpk w = 6 ∨ w = []) {s : GS} (h : s.1 ≤ 300) (h1 : 1 ≤ s.1) (hk : K s.1 ≠ 42) : (kon K w).1 s = (kon K w).2 s := by
  cases w with
  | nil =>
    show gb (prodL K (unitF K 6) 300 s) _ = _
    rw [prodL_un (gKu 6) h h1, if_neg hk]
    rfl
  | cons x r =>
    have h6 : x.1 = 6 := by
      rcases hw with q | q
      · exact q
      · cases q
    rw [kon, if_pos h6]
    dsimp only
    rw [prodL_un (gKu _) h h1, if_neg hk]
    rfl
theorem kon_sign {x : WE} {r : List WE} (hx : x.1 = 8 ∨ x.1 = 9) {s : GS} (h : s.1 ≤ 300) (h1 : 1 ≤ s.1) (hk : K s.1 ≠ 42) : (kon K (x :: r)).1 s = (kon K r).2 (wrF (if x.1 = 8 then 43 else 45) s.1 s) := by
  rw [kon, if_neg (by omega), if_neg (by omega), if_neg (by omega), if_neg (by omega)]
  dsimp only
  rw [prodL_un (gKu _) h h1, if_neg hk]
  rfl
/-- a sign of a sum ahead -/
theorem kon_plus {w : List WE} (hw : tpk w = 6 ∨ w = []) {s : GS} (h : s.1 ≤ 300) (h1 : 1 ≤ s.1) (m c : Nat) (hk : K s.1 = 43 ∧ m = 8 ∨ K s.1 = 45 ∧ m = 9) : (kon K w).2 s = gb (psF s) (fun s1 => gb (unitF K (6 - ops w) s1) (kon K ((m, 0, c) :: w)).1) := by
  have em : (kon K ((m, 0, c) :: w)).1 = fun s => gb (prodL K (unitF K (6 - ops w)) 300 s) (fun s2 => (kon K w).2 (wrF (if m = 8 then 43 else 45) s2.1 s2)) := by
    rw [kon, if_neg (by show m ≠ 6; omega), if_neg (by show m ≠ 24; omega), if_neg (by show m ≠ 25; omega), if_neg (by show m ≠ 10; omega)]
  have es : (if m = 8 then 43 else 45) = K s.1 := by
    rcases hk with q | q
    · rw [if_pos q.2, q.1]
    · rw [if_neg (by omega), q.1]
  rw [em, es]
  have key : ∀ (d : Nat) (S : GS → GR), gb (sumL K (prodF K (unitF K d)) 300 s) S = gb (psF s) (fun s1 => gb (unitF K d s1) (fun s2 => gb (prodL K (unitF K d) 300 s2) (fun s3 => gb (sumL K (prodF K (unitF K d)) 300 (wrF (K s.1) s3.1 s3)) S))) := by
    intro d S
    rw [sumL_un (gKq d) h h1, if_pos (by omega), gb_assoc]
    refine gb_congr (fun s1 _ => ?_)
    rw [gb_assoc]
    unfold prodF
    rw [gb_assoc]
  cases w with
  | nil =>
    have k2 := key 6 (fun s => .inr s)
    have ei : ∀ r : GR, gb r (fun s => .inr s) = r := fun r => by cases r <;> rfl
    rw [ei] at k2
    show sumL K (prodF K (unitF K 6)) 300 s = _
    rw [k2]
    refine gb_congr (fun s1 _ => gb_congr (fun s2 _ => gb_congr (fun s3 _ => ?_)))
    rw [ei]
    rfl
  | cons x r =>
    have h6 : x.1 = 6 := by
      rcases hw with q | q
      · exact q
      · cases q
    have e2 : (kon K (x :: r)).2 = fun s1 => gb (sumL K (prodF K (unitF K (6 - ops (x :: r)))) 300 s1) (fun s2 => gb (tkF K 41 s2) (kon K r).1) := by rw [kon, if_pos h6]
    rw [e2]
    exact key _ _
/-- nothing more of a sum -/
theorem kon_done {s : GS} (h : s.1 ≤ 300) (h1 : 1 ≤ s.1) (hk : ¬ (K s.1 = 43 ∨ K s.1 = 45)) : (kon K []).2 s = .inr s := by
  show sumL K (prodF K (unitF K 6)) 300 s = _
  rw [sumL_un (gKq 6) h h1, if_neg hk]
theorem kon_close {x : WE} {r : List WE} (hx : x.1 = 6) {s : GS} (h : s.1 ≤ 300) (h1 : 1 ≤ s.1) (hk : ¬ (K s.1 = 43 ∨ K s.1 = 45)) : (kon K (x :: r)).2 s = gb (tkF K 41 s) (kon K r).1 := by
  rw [kon, if_pos hx]
  dsimp only
  rw [sumL_un (gKq _) h h1, if_neg hk]
  rfl
end KON
