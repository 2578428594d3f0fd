/-! THE LAW: its own words (pasted from the SKELETON), and rows for the script -/
def R_law : String := "SealedSumsLaw"
def lw_P (b : Addr) (xs : List Int32) (args : Array Value) (s : State) : Prop := args = #[.ref b] ∧ s.IntsAt b xs ∧ xs.length ≤ 3073 ∧ (Jvm.Cond.and given_1 narrow_1).before args s = true
def lw_Q (_ : Array Value) (s : State) (o : Outcome) (t : State) : Prop := o = .returned (some (.int 1)) ∧ Framed s o t [] 601024 7293000
def lw_Z (below : List Frame) (a : Array Value) (s : State) : State → Prop := fun t => ∃ o, t.status = .running ∧ Ended t below o ∧ lw_Q a s o t
/-- the law's own end, with 1 on the stack, nothing written that was there before, its room as the claim has it -/
theorem lw_ret {p : Program} {l : Launch} {e : Env} {s : State} {m : MethodId} {below : List Frame} {meth : Method} {c : Code} {b : Nat} (hx : p.tables.exec = Jvm.exec) (hb : c.code = code) (hr : meth.sig.returnType = ret) (hlocks : meth.locks = false) {pc : Nat} {H : Heap} {ls : Array Slot} (hdg : decode code pc = .ok (.ireturn, 1)) : W p l e room_1 s m #[Value.ref b] below meth c H [] 601024 7293000 (lw_Z below #[Value.ref b] s) (F0 m pc ls [.int 1]) := by
  intro T hT X
  obtain ⟨fs, hret, hrun, hended, hW, hframe⟩ := X.leave (v := some (.int 1)) (hlocks := hlocks) (fun h => by rw [hr] at h; cases h)
  have hmeth' : T.vm.method? m = some meth := X.method'
  refine ⟨T.setFrames fs, ?_, .returned (some (.int 1)), hrun, hended, rfl, ⟨_, rfl⟩, hW, hframe⟩
  jvm_step X.here [X.here.top, hx, hb, hdg, hmeth', hr, ret, narrow_b1]
  (try refine ⟨rfl, ?_⟩); (try refine ⟨rfl, ?_⟩)
  first | (intro acts; rw [hret _ acts rfl rfl rfl]) | rw [hret _ _ rfl rfl rfl]
  exact Steps.refl _
/-- what holds at the law's entry: the machine, the code, the tables' words (any of lw_tbl by 'hts w (by decide +kernel)'), the script of L ints xs at the cell b, what the Statement gives of the start (any of its parts by flat_of_before) -/
def lw_At (p : Program) (s : State) (m : MethodId) (meth : Method) (c : Code) (b L : Nat) (xs : Nat → Int32) : Prop :=
  p.tables.exec = Jvm.exec ∧ c.code = code ∧ meth.sig.returnType = ret ∧ c.maxLocals = 7 ∧ s.vm.findClass R_law = some m.cls ∧ (∀ w ∈ lw_tbl, w.before #[Value.ref b] s = true) ∧ va_X b L xs s s.heap ∧ b < s.heap.size ∧ meth.locks = false ∧ (Jvm.Cond.and given_1 narrow_1).before #[Value.ref b] s = true
section SCR
variable {p : Program} {l : Launch} {e : Env} {R : Room} {s : State} {m : MethodId} {args : Array Value} {below : List Frame} {meth : Method} {c : Code} {D : va_G} {cy : Nat → ClassId} {ad : Nat → Nat} {A : Nat → Prop} {I : MI} {Q : State → Prop} {kc ks : Nat} {pc n : Nat} {L : List (Option Value)} {S : List Value} {st : St} {Ls : Nat} {xs : Nat → Int32}
/-- the script lies at id 140, outside -/
def scrT (s : State) (A : Nat → Prop) (ad : Nat → Nat) (Ls : Nat) (xs : Nat → Int32) : Prop := va_X (ad 140) Ls xs s s.heap ∧ ad 140 < s.heap.size ∧ (¬ A (ad 140)) ∧ Ls ≤ 3073
theorem q_sld {i : Int32} (hX : scrT s A ad Ls xs) (hin : vp_in i Ls) (hd : DD I.1 pc .iaload 1 n) (k : GQ p l e R s m args below meth c D cy ad A I Q kc ks (fun _ => True) n L (.int (xs i.toNatClampNeg) :: S) st) : GQ p l e R s m args below meth c D cy ad A I Q kc ks (fun _ => True) pc L (.int i :: .ref 140 :: S) st := by
  obtain ⟨h1, h2⟩ := hd
  subst h2
  exact fun h H locs ls hl hP hD hS hH => va_sld h.1 h.2.1 hX.1 hX.2.1 hX.2.2.1 hS hin h1 (k h H locs ls hl hP hD hS hH)
theorem q_slen (hX : scrT s A ad Ls xs) (hd : DD I.1 pc .arraylength 1 n) (k : GQ p l e R s m args below meth c D cy ad A I Q kc ks (fun _ => True) n L (.int (nI Ls) :: S) st) : GQ p l e R s m args below meth c D cy ad A I Q kc ks (fun _ => True) pc L (.ref 140 :: S) st := by
  obtain ⟨h1, h2⟩ := hd
  subst h2
  exact fun h H locs ls hl hP hD hS hH => va_slen h.1 h.2.1 hX.1 hX.2.1 hX.2.2.1 hS h1 (k h H locs ls hl hP hD hS hH)
/-- script[i + k] -/
theorem q_arg {a1 a2 a3 : Option Value} {r : List (Option Value)} {i k p1 p2 p3 p4 p5 : Nat} {z : Int} {v : Int32} (hX : scrT s A ad Ls xs) (hi : i + k < Ls) (hv : v = nI k) (hz : Int32.ofInt z = v) (d1 : DD I.1 pc (.aload_n 0) 1 p1) (d2 : DD I.1 p1 (.iload 4) 2 p2) (d3 : DD I.1 p2 (.iconst z) 1 p3) (d4 : DD I.1 p3 .iadd 1 p4) (d5 : DD I.1 p4 .iaload 1 p5)
    (kk : GQ p l e R s m args below meth c D cy ad A I Q kc ks (fun _ => True) p5 (some (.ref 140) :: a1 :: a2 :: a3 :: some (.int (nI i)) :: r) (.int (xs (i + k)) :: S) st) : GQ p l e R s m args below meth c D cy ad A I Q kc ks (fun _ => True) pc (some (.ref 140) :: a1 :: a2 :: a3 :: some (.int (nI i)) :: r) S st := by
  have hL := hX.2.2.2
  refine n_ald0 d1 ?_
  refine n_ild4 d2 ?_
  refine n_iconst hz d3 ?_
  refine n_iadd d4 ?_
  rw [hv, nI_add]
  refine q_sld hX (vp_in_nI hi (by omega)) d5 ?_
  rw [nI_clamp (by omega)]
  exact kk
end SCR
/-- the law comes to its end -/
theorem q_end {p : Program} {l : Launch} {e : Env} {s : State} {m : MethodId} {b : Nat} {below : List Frame} {meth : Method} {c : Code} {D : va_G} {cy : Nat → ClassId} {ad : Nat → Nat} {A : Nat → Prop} {kc ks pc : Nat} {L : List (Option Value)} {st : St} (hA : ∀ q, A q → s.heap.size ≤ q) (hc : kc ≤ 601024) (hs : ks ≤ 7293000) (hd : decode code pc = .ok (.ireturn, 1)) : GQ p l e room_1 s m #[Value.ref b] below meth c D cy ad A (cL_law, RL, 7, ret) (lw_Z below #[Value.ref b] s) kc ks (fun _ => True) pc L [.int 1] st :=
  fun h H locs ls _ _ _ hS _ => va_forget (fun q hq => hA _ (hS.2.2 q hq)) (W.widen hc hs (lw_ret h.1 h.2.1 h.2.2.2.1 h.2.2.2.2.1 hd))
