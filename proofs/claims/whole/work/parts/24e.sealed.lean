/-! SEALED IN THE LAW: it catches what the class throws -/
def rmT : Room := { frames := 11, cells := 1, slots := 6, locals := 704 }
abbrev hhS : List (Nat × Nat × Nat × Nat) := [(0, 10, 13, 13), (0, 10, 17, 15)]
def wsT : List Cond := Cond.codeWith yL_sealed cL_sealed 5 (some .int) hhS :: wsA
theorem cv_L_7s : CV RL 7 YX11_sealed 2 := ⟨⟨wsA_of (by decide +kernel), wsA_of (by decide +kernel), wsA_of (by decide +kernel), by decide +kernel, Nat.le_of_ble_eq_true rfl⟩, wsA_of (by decide +kernel), wsA_of (by decide +kernel)⟩
theorem wT_1 : Cond.codeWith yL_sealed cL_sealed 5 (some .int) hhS ∈ wsA := wsA_of (by decide +kernel)
theorem wT_2 : Cond.methodLink RL 78 yL_sealed ∈ wsA ∧ Cond.static yL_sealed ∈ wsA ∧ Cond.initialized yL_sealed.cls ∈ wsA := ⟨wsA_of (by decide +kernel), wsA_of (by decide +kernel), wsA_of (by decide +kernel)⟩
theorem wT_3 : Cond.classLink RL 13 nseC ∈ wsA ∧ Cond.classLink RL 15 iaeC ∈ wsA := ⟨wsA_of (by decide +kernel), wsA_of (by decide +kernel)⟩
theorem eL_sealed_0 : DD cL_sealed 0 (.aload_n 3) 1 1 := ⟨by decide +kernel, rfl⟩
theorem eL_sealed_1 : DD cL_sealed 1 (.iconst 0) 1 2 := ⟨by decide +kernel, rfl⟩
theorem eL_sealed_2 : DD cL_sealed 2 (.aload_n 0) 1 3 := ⟨by decide +kernel, rfl⟩
theorem eL_sealed_3 : DD cL_sealed 3 (.iload_n 1) 1 4 := ⟨by decide +kernel, rfl⟩
theorem eL_sealed_4 : DD cL_sealed 4 (.iload_n 2) 1 5 := ⟨by decide +kernel, rfl⟩
theorem eL_sealed_5 : decode cL_sealed 5 = .ok (.invokevirtual 7, 3) := by decide +kernel
theorem eL_sealed_8 : DD cL_sealed 8 .i2l 1 9 := ⟨by decide +kernel, rfl⟩
theorem eL_sealed_9 : DD cL_sealed 9 .lastore 1 10 := ⟨by decide +kernel, rfl⟩
theorem eL_sealed_10 : DB cL_sealed 10 (.goto 11) (11) 13 21 := ⟨by decide +kernel, rfl, by decide⟩
theorem eL_sealed_13 : decode cL_sealed 13 = .ok (.astore 4, 2) := by decide +kernel
theorem eL_sealed_15 : decode cL_sealed 15 = .ok (.iconst 1, 1) := by decide +kernel
theorem eL_sealed_16 : decode cL_sealed 16 = .ok (.ireturn, 1) := by decide +kernel
theorem eL_sealed_17 : decode cL_sealed 17 = .ok (.astore 4, 2) := by decide +kernel
theorem eL_sealed_19 : decode cL_sealed 19 = .ok (.iconst 2, 1) := by decide +kernel
theorem eL_sealed_20 : decode cL_sealed 20 = .ok (.ireturn, 1) := by decide +kernel
theorem eL_sealed_21 : DD cL_sealed 21 (.iconst 0) 1 22 := ⟨by decide +kernel, rfl⟩
theorem eL_sealed_22 : decode cL_sealed 22 = .ok (.ireturn, 1) := by decide +kernel
theorem pcx_blind {D : va_G} {cy : Nat → ClassId} {ad : Nat → Nat} {st : St} {sz : Nat} {as : List Value} : FrameBlind (PCx D cy ad st sz as) := fun a U g mk q => by
  obtain ⟨q0, q1, qP, qK, qD, qE, qX⟩ := q
  exact ⟨q0, q1, qP, va_K.moved (u := U) (U := U.calling g mk a) (Vm.Alike.refl U.vm) qK, qD, EX.same (s := U) (U := U.calling g mk a) qE rfl, XSp.same (s := U) (U := U.calling g mk a) qX rfl⟩
section LSEAL
variable {p : Program} {l : Launch} {e : Env} {R : Room} {s : State} {m : MethodId} {args : Array Value} {below : List Frame} {meth : Method} {c : Code} {D : va_G} {cy : Nat → ClassId} {ad : Nat → Nat} {A : Nat → Prop} {I : MI} {Q : State → Prop} {pc n9 : Nat} {L : List (Option Value)} {S : List Value} {st : St} {kc ks : Nat}
theorem pcx_at {H : Heap} {locs : List Loc} {as : List Value} (h : GH p s m args meth c D cy ad A I) (hX : XSp A s s.heap) (hP : va_P D vwCl (cw cy ad st) H) (hD : va_D A (cw cy ad st)) (hS : va_S A s.heap H locs) : ∀ U : State, U.heap = H → s.WarmedH U.vm → PCx D cy ad st H.size as (as.map (cv ad)).toArray U := fun U hU hW =>
  ⟨rfl, by rw [hU], by rw [hU]; exact hP, va_K.moved hW.alike h.2.2.2.2.2.2.2.1, hD.weaken (fun _ _ _ _ => trivial), by rw [hU]; exact h.2.2.2.2.2.2.2.2.2.warm hW hS.2.1 (free_A hD hS h.2.2.2.2.2.2.2.2.1), by rw [hU]; exact hX.warm hW hS.2.1 (free_A hD hS h.2.2.2.2.2.2.2.2.1)⟩
/-- a call that takes cells -/
theorem run_Gk {H : Heap} {locs : List Loc} {cells slots mc ms : Nat} {ls : Array Slot} {rest st0 : List Value} {a : Array Value} {post2 : Option Value → St → Prop} (hr : va_Run p l e R s m args below meth c H locs cells slots mc ms (F0 m pc ls st0) rest (QC D cy ad (va_A (cw cy ad st) H.size) post2 a) (va_A (cw cy ad st) H.size)) (hD : va_D A (cw cy ad st)) (hS : va_S A s.heap H locs) (hA : ∀ q, s.heap.size ≤ q → A q)
    (kk : ∀ (v : Option Value) (u : St) (H1 : Heap) (locs1 : List Loc), post2 v u → va_P D vwCl (cw cy ad u) H1 → va_D A (cw cy ad u) → va_S A s.heap H1 locs1 → W p l e R s m args below meth c H1 locs1 (cells + mc) (slots + ms) Q (F0 m (pc + 3) ls ((v.map (cv ad)).toList ++ rest))) : W p l e R s m args below meth c H locs cells slots Q (F0 m pc ls st0) := by
  intro T hT X
  obtain ⟨v9, st₀, t, T', L9, h0, X', hL, e1, e2, ⟨⟨v, u, hv, hp, hPu, -, hDu⟩, hz, hk⟩, st9⟩ := hr T hT X
  cases hv
  rw [h0] at hz hk
  have hf := free_A (s := s) hD hS hA
  obtain ⟨t2, a1, b1⟩ := kk v u T'.heap (locs ++ L9) hp (by rw [e1]; exact hPu) (hDu.weaken (fun _ q _ h => hf q.1 h))
    ⟨Nat.le_trans hS.1 (by rw [e1]; exact hz), fun q h1 h2 => by rw [e1, hk q (Nat.lt_of_lt_of_le h1 hS.1) (fun z => h2 (hf q z))]; exact hS.2.1 q h1 h2, fun q hq => by
      rcases List.mem_append.mp hq with h | h
      · exact hS.2.2 q h
      · exact hf _ (hL q h)⟩ T' rfl X'
  exact ⟨t2, st9 t2 a1, b1⟩
/-- a call that may throw -/
theorem run_Xk {H : Heap} {locs : List Loc} {cells slots mc ms : Nat} {ls : Array Slot} {rest st0 : List Value} {a : Array Value} {post2 : Option Value → St → Prop} {px : String → Prop} (hr : vx_Run p l e R s m args below meth c H locs cells slots mc ms (F0 m pc ls st0) rest (QC D cy ad (va_A (cw cy ad st) H.size) post2 a) (XCw D cy ad (va_A (cw cy ad st) H.size) st px) (va_A (cw cy ad st) H.size)) (hD : va_D A (cw cy ad st)) (hS : va_S A s.heap H locs) (hA : ∀ q, s.heap.size ≤ q → A q)
    (kk : ∀ (v : Option Value) (u : St) (H1 : Heap) (locs1 : List Loc), post2 v u → va_P D vwCl (cw cy ad u) H1 → va_D A (cw cy ad u) → va_S A s.heap H1 locs1 → W p l e R s m args below meth c H1 locs1 (cells + mc) (slots + ms) Q (F0 m (pc + 3) ls ((v.map (cv ad)).toList ++ rest)))
    (kx : ∀ (E : String) (q : Addr) (ce : Cell) (H1 : Heap) (locs1 : List Loc), px E → va_P D vwCl (cw cy ad st) H1 → va_D A (cw cy ad st) → va_S A s.heap H1 locs1 → H1[q]? = some ce → ce.vm = .none → s.vm.findClass E = some ce.cls → vx_W p l e R s m args below meth c H1 locs1 (cells + mc) (slots + ms) Q (F0 m pc ls rest) q) : W p l e R s m args below meth c H locs cells slots Q (F0 m pc ls st0) := by
  intro T hT X
  have hf := free_A (s := s) hD hS hA
  rcases hr T hT X with ⟨v9, st₀, t, T', L9, h0, X', hL, e1, e2, ⟨⟨v, u, hv, hp, hPu, -, hDu⟩, hz, hk⟩, st9⟩ | ⟨q9, st₀, t, T', L9, E, ce, h0, X', hL, e1, e2, ⟨hp, hPu, -, hDu, hz, hk⟩, hce, hcv, hcl, st9⟩
  · cases hv
    rw [h0] at hz hk
    obtain ⟨t2, a1, b1⟩ := kk v u T'.heap (locs ++ L9) hp (by rw [e1]; exact hPu) (hDu.weaken (fun _ q _ h => hf q.1 h))
      ⟨Nat.le_trans hS.1 (by rw [e1]; exact hz), fun q h1 h2 => by rw [e1, hk q (Nat.lt_of_lt_of_le h1 hS.1) (fun z => h2 (hf q z))]; exact hS.2.1 q h1 h2, fun q hq => by
        rcases List.mem_append.mp hq with h | h
        · exact hS.2.2 q h
        · exact hf _ (hL q h)⟩ T' rfl X'
    exact ⟨t2, st9 t2 a1, b1⟩
  · rw [h0] at hz hk
    obtain ⟨t2, a1, b1⟩ := kx E q9 ce T'.heap (locs ++ L9) hp (by rw [e1]; exact hPu) (hDu.weaken (fun _ q _ h => hf q.1 h))
      ⟨Nat.le_trans hS.1 (by rw [e1]; exact hz), fun q h1 h2 => by rw [e1, hk q (Nat.lt_of_lt_of_le h1 hS.1) (fun z => h2 (hf q z))]; exact hS.2.1 q h1 h2, fun q hq => by
        rcases List.mem_append.mp hq with h | h
        · exact hS.2.2 q h
        · exact hf _ (hL q h)⟩ (by rw [e1]; exact hce) hcv hcl T' rfl X'
    exact ⟨t2, st9.trans a1, b1⟩
def slQ (st : St) (n : Nat) (a w : Int32) (k : Int32) (u : St) : Prop := (k = 0 ∧ (isS n a ∧ 0 ≤ w.toInt ∧ w.toInt ≤ 4) ∧ u = sL st 30 0 (slV st (qI a) w).toInt64) ∨ (k = 1 ∧ (¬ isS n a) ∧ u = st) ∨ (k = 2 ∧ (isS n a ∧ ¬ (0 ≤ w.toInt ∧ w.toInt ≤ 4)) ∧ u = st)
theorem ql_ret {ret9 : Option FieldType} {x : Int32} {post : Option Value → St → Prop} {H : Heap} {locs : List Loc} {ls : Array Slot} (h : GH p s m args meth c D cy ad A (cL_sealed, RL, 5, ret9)) (hr : ret9 = some .int) (hd : decode cL_sealed pc = .ok (.ireturn, 1)) (hp : post (some (.int x)) st) (hP : va_P D vwCl (cw cy ad st) H) (hD : va_D A (cw cy ad st)) (hS : va_S A s.heap H locs) : W p l e R s m args below meth c H locs 1 6 (MQ below (QC D cy ad A post) args s 1 6 A) (F0 m pc ls [.int x]) :=
  W.iret (v := x) h.1 h.2.1 (h.2.2.2.1.trans hr) (fun t ht hW => ⟨⟨some (.int x), st, rfl, hp, by rw [ht]; exact hP, va_K.moved hW.alike h.2.2.2.2.2.2.2.1, hD⟩, hS.F ht⟩) hS.2.2 hd h.2.2.2.2.1
theorem l_sealed {t nk n np nt : Nat} (hl : l.stackTraces = false) (hR : Rel st t nk n np nt) (a w : Int32) (ad : Nat → Nat) (sz : Nat) : Met l yL_sealed wsT rmT (PCx D cy ad st sz [.ref 0, .int a, .int w, .ref 30]) (QC D cy ad (va_A (cw cy ad st) sz) (Pi (slQ st n a w))) 1 6 (va_A (cw cy ad st) sz) := by
  refine va_MetW (cc := cL_sealed) (maxL := 5) (ret := some .int) (hh := hhS) (by decide) rfl ?_
  intro p e s m args below meth c s₁ B hml hv
  have htb : c.exceptionTable.toList = tableOf hhS := vx_table (x := yL_sealed) B (atoms_spec (ws := wsT) B.pre _ List.mem_cons_self)
  obtain ⟨rfl, hsz, hP0, hK0, hD0, hE0, hX0⟩ := hv
  subst hsz
  have hD1 := hD0.self (sz := s.heap.size)
  have hl5 := lv_entry ([Value.ref 0, .int a, .int w, .ref 30].map (cv ad)) (n := 5) (by rw [li_len]; exact Nat.le_of_ble_eq_true rfl)
  rw [lg_entry_eq]
  have hGH : GH p s m ([Value.ref 0, .int a, .int w, .ref 30].map (cv ad)).toArray meth c D cy ad (va_A (cw cy ad st) s.heap.size) (cL_sealed, RL, 5, some .int) := ⟨B.exec, B.bytes, hml, B.returns, B.notSynchronized, findClass_of_methodNamed B.named, fun w hw => atoms_spec (ws := wsT) B.pre w (List.mem_cons_of_mem _ hw), hK0, fun q h => Or.inr h, hE0⟩
  have main : GQ p l e rmT s m ([Value.ref 0, .int a, .int w, .ref 30].map (cv ad)).toArray below meth c D cy ad (va_A (cw cy ad st) s.heap.size) (cL_sealed, RL, 5, some .int) (MQ below (QC D cy ad (va_A (cw cy ad st) s.heap.size) (Pi (slQ st n a w))) ([Value.ref 0, .int a, .int w, .ref 30].map (cv ad)).toArray s 1 6 (va_A (cw cy ad st) s.heap.size)) 0 0 (fun _ => True) 0 [some (.ref 0), some (.int a), some (.int w), some (.ref 30), none] [] st := by
    refine n_ald3 eL_sealed_0 ?_
    refine n_iconst (v := 0) (by decide) eL_sealed_1 ?_
    refine n_ald0 eL_sealed_2 ?_
    refine n_ild1 eL_sealed_3 ?_
    refine n_ild2 eL_sealed_4 ?_
    intro h H locs ls hls hP hD hS _
    have hrc := va_recv (q0 := 0) (a := ad 0) (fs := fsOf ad st 0) h.2.2.2.2.2.2.2.1 hP (cl_at 10 (by decide)) ((cw_get cy ad st (k := 0) (Nat.le_of_ble_eq_true rfl)).trans (by rw [ce_obj (by decide)]; rfl))
    refine run_Xk (st := st) (A := va_A (cw cy ad st) s.heap.size) (rest := [.int 0, .ref (ad 30)]) (vx_runV (As := [.int a, .int w]) (b := ad 0) (C := YX11_sealed.1.cls) (Ts := wsA) ⟨h.1, h.2.1, h.2.2.1, h.2.2.2.2.2.1, h.2.2.2.2.2.2.1⟩ (m_sealed hl hR a w ad H.size) ⟨callB_of 2 h.2.2.2.2.2.2.1 (good_Y cv_L_7s.1) rfl rfl rfl (h.2.2.2.2.2.2.1 _ cv_L_7s.1.2.1) (h.2.2.2.2.2.2.1 _ cv_L_7s.1.1) cv_L_7s.1.2.2.2.1 ⟨by decide, by decide⟩, h.2.2.2.2.2.2.1 _ cv_L_7s.2.1, h.2.2.2.2.2.2.1 _ cv_L_7s.2.2⟩ ⟨pcx_blind, hrc, pcx_at h hX0 hP hD hS⟩ rfl rfl hls.1 rfl (Nat.le_of_ble_eq_true rfl) eL_sealed_5 ⟨by decide, by decide⟩) hD hS h.2.2.2.2.2.2.2.2.1 (fun v u H1 locs1 hp hP1 hD1 hS1 => ?_) (fun E q ce H1 locs1 hp hP1 hD1 hS1 hce hcv hcl => ?_)
    · obtain ⟨r, rfl, eu, hp, hr⟩ := hp
      rw [eu] at hP1 hD1
      have k2 : GQ p l e rmT s m ([Value.ref 0, .int a, .int w, .ref 30].map (cv ad)).toArray below meth c D cy ad (va_A (cw cy ad st) s.heap.size) (cL_sealed, RL, 5, some .int) (MQ below (QC D cy ad (va_A (cw cy ad st) s.heap.size) (Pi (slQ st n a w))) ([Value.ref 0, .int a, .int w, .ref 30].map (cv ad)).toArray s 1 6 (va_A (cw cy ad st) s.heap.size)) 1 6 (fun _ => True) 8 [some (.ref 0), some (.int a), some (.int w), some (.ref 30), none] [.int r, .int 0, .ref 30] st := by
        refine n_i2l eL_sealed_8 ?_
        refine q_last rfl (Nat.le_of_ble_eq_true rfl) (vp_in_nI (n := 0) (N := 1) (by decide) (by decide)) eL_sealed_9 ?_
        refine n_goto eL_sealed_10 ?_
        refine n_iconst (v := 0) (by decide) eL_sealed_21 ?_
        intro h H2 locs2 ls2 _ hP2 hD2 hS2 _
        exact ql_ret h rfl eL_sealed_22 ⟨0, rfl, Or.inl ⟨rfl, hp, by rw [hr]; rfl⟩⟩ hP2 hD2 hS2
      exact k2 h H1 locs1 ls hls hP1 hD1 hS1 True.intro
    · rcases hp with ⟨hp, rfl⟩ | ⟨hp, rfl⟩
      · refine vx_catch (own := RL) (name := nseC) h.2.2.2.2.2.1 [] ⟨0, 10, 13, 13⟩ [⟨0, 10, 17, 15⟩] htb (fun z hz => absurd hz (by simp)) (by decide) (by decide) (h.2.2.2.2.2.2.1 _ wT_3.1) (va_Nw.use rfl hX0.2.2.2.1.1) hce hcv hcl ?_
        refine lv_astore h.1 h.2.1 eL_sealed_13 hls (by decide) rfl (fun ls2 _ => ?_)
        refine lv_iconst h.1 h.2.1 eL_sealed_15 (v := 1) (by decide) ?_
        exact ql_ret h rfl eL_sealed_16 ⟨1, rfl, Or.inr (Or.inl ⟨rfl, hp, rfl⟩)⟩ hP1 hD1 hS1
      · refine vx_catch (own := RL) (name := iaeC) h.2.2.2.2.2.1 [⟨0, 10, 13, 13⟩] ⟨0, 10, 17, 15⟩ [] htb (fun z hz => Or.inr ?_) (by decide) (by decide) (h.2.2.2.2.2.2.1 _ wT_3.2) (va_Nw.use rfl hX0.2.2.2.1.2) hce hcv hcl ?_
        · obtain rfl : z = ⟨0, 10, 13, 13⟩ := by simpa using hz
          exact ⟨by decide, nseC, h.2.2.2.2.2.2.1 _ wT_3.1, hX0.2.2.2.2⟩
        · refine lv_astore h.1 h.2.1 eL_sealed_17 hls (by decide) rfl (fun ls2 _ => ?_)
          refine lv_iconst h.1 h.2.1 eL_sealed_19 (v := 2) (by decide) ?_
          exact ql_ret h rfl eL_sealed_20 ⟨2, rfl, Or.inr (Or.inr ⟨rfl, hp, rfl⟩)⟩ hP1 hD1 hS1
  exact main hGH s.heap [] _ hl5 hP0 hD1 va_S.rf True.intro
end LSEAL
