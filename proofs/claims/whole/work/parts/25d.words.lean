/-! words of the constructors -/
section IW
variable {p : Program} {l : Launch} {e : Env} {R : Room} {s : State} {m : MethodId} {args : Array Value} {below : List Frame} {meth : Method} {c : Code} {D : va_G} {cy : Nat → ClassId} {ad : Nat → Nat} {bs : Nat} {I : MI} {Q : State → Prop} {kc ks na : Nat} {Lr : RL9} {pc n : Nat} {L : List (Option Value)} {S : List Value} {st : St}
theorem sI_zero {k j : Nat} (h : st.1 k j = 0) : sI st k j 0 = st := by
  refine Prod.ext (funext (fun a => funext (fun b => ?_))) rfl
  rw [sI_1]
  by_cases q : a = k ∧ b = j
  · rw [if_pos q, q.1, q.2, h]
  · rw [if_neg q]
theorem b_put0 {k j x ci : Nat} (hk : kd k = ci) (hN : k < N0) (hp : pos k < na) (hc : ci < 12) (hj : j < nFc ci) (ht : tyC ci j = .int ∨ tyC ci j = .boolean) (hz : st.1 k j = 0) (hin2 : meth.name = "<init>") (hdecl : RC ci = I.2.1) (hw : Cond.fieldLink I.2.1 x (RC ci) (TC ci j).2.1 (TC ci j).2.2.1 ∈ wsA) (hd : DD I.1 pc (.putfield x) 3 n)
    (kk : GB p l e R s m args below meth c D cy ad bs I Q kc ks na Lr n L S st) : GB p l e R s m args below meth c D cy ad bs I Q kc ks na Lr pc L (.int 0 :: .ref k :: S) st :=
  b_putI hk hN hp hc hj (ht.imp id (fun h => ⟨h, Or.inl rfl⟩)) hin2 hdecl hw hd (by rw [sI_zero hz]; exact kk)
theorem wob_X0 : Cond.methodLink RX0 3 Lib.objectInit ∈ wsA := wsA_of (by decide +kernel)
theorem wob_X1 : Cond.methodLink RX1 3 Lib.objectInit ∈ wsA := wsA_of (by decide +kernel)
theorem wob_X2 : Cond.methodLink RX2 1 Lib.objectInit ∈ wsA := wsA_of (by decide +kernel)
theorem wob_X3 : Cond.methodLink RX3 3 Lib.objectInit ∈ wsA := wsA_of (by decide +kernel)
theorem wob_X4 : Cond.methodLink RX4 3 Lib.objectInit ∈ wsA := wsA_of (by decide +kernel)
theorem wob_X6 : Cond.methodLink RX6 1 Lib.objectInit ∈ wsA := wsA_of (by decide +kernel)
theorem wob_X7 : Cond.methodLink RX7 5 Lib.objectInit ∈ wsA := wsA_of (by decide +kernel)
theorem wob_X8 : Cond.methodLink RX8 3 Lib.objectInit ∈ wsA := wsA_of (by decide +kernel)
theorem wob_X9 : Cond.methodLink RX9 1 Lib.objectInit ∈ wsA := wsA_of (by decide +kernel)
theorem wob_X10 : Cond.methodLink RX10 1 Lib.objectInit ∈ wsA := wsA_of (by decide +kernel)
theorem wob_X11 : Cond.methodLink RX11 1 Lib.objectInit ∈ wsA := wsA_of (by decide +kernel)
theorem wob_X12 : Cond.methodLink RX12 1 Lib.objectInit ∈ wsA := wsA_of (by decide +kernel)
theorem wa_12 : Cond.arrayClass (tyN 12) ∈ wsA := wsA_of (by decide +kernel)
theorem wa_13 : Cond.arrayClass (tyN 13) ∈ wsA := wsA_of (by decide +kernel)
theorem wa_14 : Cond.arrayClass (tyN 14) ∈ wsA := wsA_of (by decide +kernel)
theorem wa_15 : Cond.arrayClass (tyN 15) ∈ wsA := wsA_of (by decide +kernel)
theorem wk_0 : Cond.instantiable (RC 0) (nFc 0) ∈ wsA ∧ Cond.initialized (RC 0) ∈ wsA := ⟨wsA_of (by decide +kernel), wsA_of (by decide +kernel)⟩
theorem wk_1 : Cond.instantiable (RC 1) (nFc 1) ∈ wsA ∧ Cond.initialized (RC 1) ∈ wsA := ⟨wsA_of (by decide +kernel), wsA_of (by decide +kernel)⟩
theorem wk_2 : Cond.instantiable (RC 2) (nFc 2) ∈ wsA ∧ Cond.initialized (RC 2) ∈ wsA := ⟨wsA_of (by decide +kernel), wsA_of (by decide +kernel)⟩
theorem wk_3 : Cond.instantiable (RC 3) (nFc 3) ∈ wsA ∧ Cond.initialized (RC 3) ∈ wsA := ⟨wsA_of (by decide +kernel), wsA_of (by decide +kernel)⟩
theorem wk_4 : Cond.instantiable (RC 4) (nFc 4) ∈ wsA ∧ Cond.initialized (RC 4) ∈ wsA := ⟨wsA_of (by decide +kernel), wsA_of (by decide +kernel)⟩
theorem wk_5 : Cond.instantiable (RC 5) (nFc 5) ∈ wsA ∧ Cond.initialized (RC 5) ∈ wsA := ⟨wsA_of (by decide +kernel), wsA_of (by decide +kernel)⟩
theorem wk_6 : Cond.instantiable (RC 6) (nFc 6) ∈ wsA ∧ Cond.initialized (RC 6) ∈ wsA := ⟨wsA_of (by decide +kernel), wsA_of (by decide +kernel)⟩
theorem wk_7 : Cond.instantiable (RC 7) (nFc 7) ∈ wsA ∧ Cond.initialized (RC 7) ∈ wsA := ⟨wsA_of (by decide +kernel), wsA_of (by decide +kernel)⟩
theorem wk_8 : Cond.instantiable (RC 8) (nFc 8) ∈ wsA ∧ Cond.initialized (RC 8) ∈ wsA := ⟨wsA_of (by decide +kernel), wsA_of (by decide +kernel)⟩
theorem wk_9 : Cond.instantiable (RC 9) (nFc 9) ∈ wsA ∧ Cond.initialized (RC 9) ∈ wsA := ⟨wsA_of (by decide +kernel), wsA_of (by decide +kernel)⟩
theorem wk_10 : Cond.instantiable (RC 10) (nFc 10) ∈ wsA ∧ Cond.initialized (RC 10) ∈ wsA := ⟨wsA_of (by decide +kernel), wsA_of (by decide +kernel)⟩
theorem wk_11 : Cond.instantiable (RC 11) (nFc 11) ∈ wsA ∧ Cond.initialized (RC 11) ∈ wsA := ⟨wsA_of (by decide +kernel), wsA_of (by decide +kernel)⟩
theorem wn_X11_7 : Cond.classLink RX11 7 (RC 8) ∈ wsA ∧ Cond.instantiable (RC 8) (nFc 8) ∈ wsA ∧ Cond.initialized (RC 8) ∈ wsA := ⟨wsA_of (by decide +kernel), wk_8⟩
theorem wn_X11_16 : Cond.classLink RX11 16 (RC 1) ∈ wsA ∧ Cond.instantiable (RC 1) (nFc 1) ∈ wsA ∧ Cond.initialized (RC 1) ∈ wsA := ⟨wsA_of (by decide +kernel), wk_1⟩
theorem wn_X11_27 : Cond.classLink RX11 27 (RC 2) ∈ wsA ∧ Cond.instantiable (RC 2) (nFc 2) ∈ wsA ∧ Cond.initialized (RC 2) ∈ wsA := ⟨wsA_of (by decide +kernel), wk_2⟩
theorem wn_X11_36 : Cond.classLink RX11 36 (RC 7) ∈ wsA ∧ Cond.instantiable (RC 7) (nFc 7) ∈ wsA ∧ Cond.initialized (RC 7) ∈ wsA := ⟨wsA_of (by decide +kernel), wk_7⟩
theorem wn_X11_43 : Cond.classLink RX11 43 (RC 6) ∈ wsA ∧ Cond.instantiable (RC 6) (nFc 6) ∈ wsA ∧ Cond.initialized (RC 6) ∈ wsA := ⟨wsA_of (by decide +kernel), wk_6⟩
theorem wn_X11_68 : Cond.classLink RX11 68 (RC 4) ∈ wsA ∧ Cond.instantiable (RC 4) (nFc 4) ∈ wsA ∧ Cond.initialized (RC 4) ∈ wsA := ⟨wsA_of (by decide +kernel), wk_4⟩
theorem wn_X11_77 : Cond.classLink RX11 77 (RC 3) ∈ wsA ∧ Cond.instantiable (RC 3) (nFc 3) ∈ wsA ∧ Cond.initialized (RC 3) ∈ wsA := ⟨wsA_of (by decide +kernel), wk_3⟩
theorem wn_X11_84 : Cond.classLink RX11 84 (RC 0) ∈ wsA ∧ Cond.instantiable (RC 0) (nFc 0) ∈ wsA ∧ Cond.initialized (RC 0) ∈ wsA := ⟨wsA_of (by decide +kernel), wk_0⟩
theorem wn_X1_9 : Cond.classLink RX1 9 (RC 9) ∈ wsA ∧ Cond.instantiable (RC 9) (nFc 9) ∈ wsA ∧ Cond.initialized (RC 9) ∈ wsA := ⟨wsA_of (by decide +kernel), wk_9⟩
theorem wn_X2_23 : Cond.classLink RX2 23 (RC 5) ∈ wsA ∧ Cond.instantiable (RC 5) (nFc 5) ∈ wsA ∧ Cond.initialized (RC 5) ∈ wsA := ⟨wsA_of (by decide +kernel), wk_5⟩
theorem wn_L_8 : Cond.classLink RL 8 (RC 10) ∈ wsA ∧ Cond.instantiable (RC 10) (nFc 10) ∈ wsA ∧ Cond.initialized (RC 10) ∈ wsA := ⟨wsA_of (by decide +kernel), wk_10⟩
theorem wn_L_26 : Cond.classLink RL 26 (RC 11) ∈ wsA ∧ Cond.instantiable (RC 11) (nFc 11) ∈ wsA ∧ Cond.initialized (RC 11) ∈ wsA := ⟨wsA_of (by decide +kernel), wk_11⟩
def NL (own : String) (x : Nat) (y : MethodName) (U : State) : Prop := va_Nw (.methodLinkNest own x y RX11) U
theorem ci_X1_11 : (Cond.initialized YX10_init.1.cls ∈ wsA ∧ Cond.code YX10_init.1 YX10_init.2.1 YX10_init.2.2.1 YX10_init.2.2.2 ∈ wsA ∧ (YX10_init.1.cls ≠ "java/lang/invoke/MethodHandle" ∧ YX10_init.1.cls ≠ "java/lang/invoke/VarHandle" ∧ (parseMethodDescriptor YX10_init.1.desc).map (fun d => d.parameters.length) = some 0) ∧ YX10_init.2.2.1 ≤ 45) ∧ Cond.instanceMethod YX10_init.1 ∈ wsA := ⟨⟨wk_9.2, wsA_of (by decide +kernel), by decide +kernel, Nat.le_of_ble_eq_true rfl⟩, wsA_of (by decide +kernel)⟩
theorem ci_X2_25 : (Cond.initialized YX6_init.1.cls ∈ wsA ∧ Cond.code YX6_init.1 YX6_init.2.1 YX6_init.2.2.1 YX6_init.2.2.2 ∈ wsA ∧ (YX6_init.1.cls ≠ "java/lang/invoke/MethodHandle" ∧ YX6_init.1.cls ≠ "java/lang/invoke/VarHandle" ∧ (parseMethodDescriptor YX6_init.1.desc).map (fun d => d.parameters.length) = some 0) ∧ YX6_init.2.2.1 ≤ 45) ∧ Cond.instanceMethod YX6_init.1 ∈ wsA := ⟨⟨wk_5.2, wsA_of (by decide +kernel), by decide +kernel, Nat.le_of_ble_eq_true rfl⟩, wsA_of (by decide +kernel)⟩
theorem ci_X11_9 : (Cond.initialized YX9_init.1.cls ∈ wsA ∧ Cond.code YX9_init.1 YX9_init.2.1 YX9_init.2.2.1 YX9_init.2.2.2 ∈ wsA ∧ (YX9_init.1.cls ≠ "java/lang/invoke/MethodHandle" ∧ YX9_init.1.cls ≠ "java/lang/invoke/VarHandle" ∧ (parseMethodDescriptor YX9_init.1.desc).map (fun d => d.parameters.length) = some 0) ∧ YX9_init.2.2.1 ≤ 45) ∧ Cond.instanceMethod YX9_init.1 ∈ wsA := ⟨⟨wk_8.2, wsA_of (by decide +kernel), by decide +kernel, Nat.le_of_ble_eq_true rfl⟩, wsA_of (by decide +kernel)⟩
theorem ci_X11_18 : (Cond.initialized YX1_init.1.cls ∈ wsA ∧ Cond.code YX1_init.1 YX1_init.2.1 YX1_init.2.2.1 YX1_init.2.2.2 ∈ wsA ∧ (YX1_init.1.cls ≠ "java/lang/invoke/MethodHandle" ∧ YX1_init.1.cls ≠ "java/lang/invoke/VarHandle" ∧ (parseMethodDescriptor YX1_init.1.desc).map (fun d => d.parameters.length) = some 0) ∧ YX1_init.2.2.1 ≤ 45) ∧ Cond.instanceMethod YX1_init.1 ∈ wsA := ⟨⟨wk_1.2, wsA_of (by decide +kernel), by decide +kernel, Nat.le_of_ble_eq_true rfl⟩, wsA_of (by decide +kernel)⟩
theorem ci_X11_38 : (Cond.initialized YX8_init.1.cls ∈ wsA ∧ Cond.code YX8_init.1 YX8_init.2.1 YX8_init.2.2.1 YX8_init.2.2.2 ∈ wsA ∧ (YX8_init.1.cls ≠ "java/lang/invoke/MethodHandle" ∧ YX8_init.1.cls ≠ "java/lang/invoke/VarHandle" ∧ (parseMethodDescriptor YX8_init.1.desc).map (fun d => d.parameters.length) = some 0) ∧ YX8_init.2.2.1 ≤ 45) ∧ Cond.instanceMethod YX8_init.1 ∈ wsA := ⟨⟨wk_7.2, wsA_of (by decide +kernel), by decide +kernel, Nat.le_of_ble_eq_true rfl⟩, wsA_of (by decide +kernel)⟩
theorem ci_X11_70 : CB RX11 70 YX4_init 1 ∧ Cond.instanceMethod YX4_init.1 ∈ wsA := ⟨⟨wsA_of (by decide +kernel), wk_4.2, wsA_of (by decide +kernel), by decide +kernel, Nat.le_of_ble_eq_true rfl⟩, wsA_of (by decide +kernel)⟩
theorem ci_X11_79 : CB RX11 79 YX3_init 1 ∧ Cond.instanceMethod YX3_init.1 ∈ wsA := ⟨⟨wsA_of (by decide +kernel), wk_3.2, wsA_of (by decide +kernel), by decide +kernel, Nat.le_of_ble_eq_true rfl⟩, wsA_of (by decide +kernel)⟩
theorem ci_X11_86 : CB RX11 86 YX0_init 1 ∧ Cond.instanceMethod YX0_init.1 ∈ wsA := ⟨⟨wsA_of (by decide +kernel), wk_0.2, wsA_of (by decide +kernel), by decide +kernel, Nat.le_of_ble_eq_true rfl⟩, wsA_of (by decide +kernel)⟩
theorem ci_X11_91 : (Cond.initialized YX2_init.1.cls ∈ wsA ∧ Cond.code YX2_init.1 YX2_init.2.1 YX2_init.2.2.1 YX2_init.2.2.2 ∈ wsA ∧ (YX2_init.1.cls ≠ "java/lang/invoke/MethodHandle" ∧ YX2_init.1.cls ≠ "java/lang/invoke/VarHandle" ∧ (parseMethodDescriptor YX2_init.1.desc).map (fun d => d.parameters.length) = some 0) ∧ YX2_init.2.2.1 ≤ 45) ∧ Cond.instanceMethod YX2_init.1 ∈ wsA := ⟨⟨wk_2.2, wsA_of (by decide +kernel), by decide +kernel, Nat.le_of_ble_eq_true rfl⟩, wsA_of (by decide +kernel)⟩
theorem ci_X11_92 : (Cond.initialized YX7_init.1.cls ∈ wsA ∧ Cond.code YX7_init.1 YX7_init.2.1 YX7_init.2.2.1 YX7_init.2.2.2 ∈ wsA ∧ (YX7_init.1.cls ≠ "java/lang/invoke/MethodHandle" ∧ YX7_init.1.cls ≠ "java/lang/invoke/VarHandle" ∧ (parseMethodDescriptor YX7_init.1.desc).map (fun d => d.parameters.length) = some 0) ∧ YX7_init.2.2.1 ≤ 45) ∧ Cond.instanceMethod YX7_init.1 ∈ wsA := ⟨⟨wk_6.2, wsA_of (by decide +kernel), by decide +kernel, Nat.le_of_ble_eq_true rfl⟩, wsA_of (by decide +kernel)⟩
theorem ci_L_23 : CB RL 23 YX11_init 1 ∧ Cond.instanceMethod YX11_init.1 ∈ wsA := ⟨⟨wsA_of (by decide +kernel), wk_10.2, wsA_of (by decide +kernel), by decide +kernel, Nat.le_of_ble_eq_true rfl⟩, wsA_of (by decide +kernel)⟩
theorem ci_L_28 : CB RL 28 YX12_init 1 ∧ Cond.instanceMethod YX12_init.1 ∈ wsA := ⟨⟨wsA_of (by decide +kernel), wk_11.2, wsA_of (by decide +kernel), by decide +kernel, Nat.le_of_ble_eq_true rfl⟩, wsA_of (by decide +kernel)⟩
theorem wnl : Cond.methodLinkNest RX1 11 yX10_init RX11 ∈ lw_tbl ∧ Cond.methodLinkNest RX2 25 yX6_init RX11 ∈ lw_tbl ∧ Cond.methodLinkNest RX11 9 yX9_init RX11 ∈ lw_tbl ∧ Cond.methodLinkNest RX11 18 yX1_init RX11 ∈ lw_tbl ∧ Cond.methodLinkNest RX11 38 yX8_init RX11 ∈ lw_tbl ∧ Cond.methodLinkNest RX11 91 yX2_init RX11 ∈ lw_tbl ∧ Cond.methodLinkNest RX11 92 yX7_init RX11 ∈ lw_tbl := by decide +kernel
def NB (U : State) : Prop := NL RX1 11 yX10_init U ∧ NL RX2 25 yX6_init U ∧ NL RX11 9 yX9_init U ∧ NL RX11 18 yX1_init U ∧ NL RX11 38 yX8_init U ∧ NL RX11 91 yX2_init U ∧ NL RX11 92 yX7_init U ∧ va_AO (RC 2) U ∧ va_AO (RC 6) U
theorem NB.warm {s U : State} (h : NB s) (hW : s.WarmedH U.vm) : NB U := by
  obtain ⟨h0, h1, h2, h3, h4, h5, h6, h7, h8⟩ := h
  exact ⟨va_Nw.warmM hW h0, va_Nw.warmM hW h1, va_Nw.warmM hW h2, va_Nw.warmM hW h3, va_Nw.warmM hW h4, va_Nw.warmM hW h5, va_Nw.warmM hW h6, va_AO.moved hW.alike h7, va_AO.moved hW.alike h8⟩
theorem NB.call {U : State} {g : JFrame} {mk : MethodId} {a : Array Value} (h : NB U) : NB (U.calling g mk a) := by
  obtain ⟨h0, h1, h2, h3, h4, h5, h6, h7, h8⟩ := h
  exact ⟨va_Nw.same (u := U) rfl rfl h0, va_Nw.same (u := U) rfl rfl h1, va_Nw.same (u := U) rfl rfl h2, va_Nw.same (u := U) rfl rfl h3, va_Nw.same (u := U) rfl rfl h4, va_Nw.same (u := U) rfl rfl h5, va_Nw.same (u := U) rfl rfl h6, va_AO.moved (u := U) (Vm.Alike.refl U.vm) h7, va_AO.moved (u := U) (Vm.Alike.refl U.vm) h8⟩
theorem b_callN {x d k mc ms na2 : Nat} {Lr2 : RL9} {st2 : St} {Y : MY} {S0 : List Value} {B : State → Prop} (hM : MB l D cy ad bs d mc ms Y B [.ref k] na Lr st none na2 Lr2 st2) (hnl : NL I.2.1 x Y.1 s) (hw : (Cond.initialized Y.1.cls ∈ wsA ∧ Cond.code Y.1 Y.2.1 Y.2.2.1 Y.2.2.2 ∈ wsA ∧ (Y.1.cls ≠ "java/lang/invoke/MethodHandle" ∧ Y.1.cls ≠ "java/lang/invoke/VarHandle" ∧ (parseMethodDescriptor Y.1.desc).map (fun d => d.parameters.length) = some 0) ∧ Y.2.2.1 ≤ 45) ∧ Cond.instanceMethod Y.1 ∈ wsA) (hy : Y.1.name = "<init>" ∧ Y.2.2.2 = none) (hd : DD I.1 pc (.invokespecial x) 3 n) (hR : d + 1 ≤ R.frames ∧ 64 * (d + 1) ≤ R.locals) (hcs : kc + mc ≤ R.cells ∧ ks + ms ≤ R.slots) (hs : S0 = .ref k :: S) (hc : (S.map fun v => v.category).sum ≤ 8) (hb : ∀ (a : Array Value) (U : State) (g : JFrame) (mk : MethodId), B U → B (U.calling g mk a)) (hB : ∀ (U : State) (H : Heap) (locs : List Loc), va_S (fun q => bs ≤ q) s.heap H locs → U.heap = H → s.WarmedH U.vm → B U)
    (kk : GB p l e R s m args below meth c D cy ad bs I Q (kc + mc) (ks + ms) na2 Lr2 n L S st2) : GB p l e R s m args below meth c D cy ad bs I Q kc ks na Lr pc L S0 st := by
  obtain ⟨h1, h2⟩ := hd
  subst h2
  subst hs
  intro h H locs ls hl hP hD hS hH
  have hg : GoodIn wsA (wsY Y) := fun w hw9 => by
    rcases List.mem_cons.mp hw9 with rfl | hw9
    · exact good_wsA hw.1.2.1
    · exact good_wsA hw9
  have ht := h.2.2.2.2.2.2.1
  have hcn : va_CN R s args I.2.1 x Y.1 RX11 Y.2.1 Y.2.2.1 Y.2.2.2 (wsY Y) (rmB d mc ms) mc ms 0 := va_cnB 0 ht hg rfl rfl rfl hnl (ht _ hw.1.1) hw.1.2.2.1 ⟨hR.1, by show 8 + (Y.2.2.1 + 11) + 64 * d ≤ R.locals; have := hw.1.2.2.2; omega⟩
  rw [hy.2] at hcn
  refine run_B (rest := S.map (cv ad)) (v := none) (va_runIN (As := []) (b := ad k) (Ts := wsA) ⟨h.1, h.2.1, h.2.2.1, h.2.2.2.2.2.1, ht⟩ hM ⟨hcn, hy.1, ht _ hw.2⟩ ⟨pcg_blind hb, pcg_at h hH hP hD hS (fun U hU hW => hB U H locs hS hU hW)⟩ rfl rfl hl.1 rfl (by show 2 * 0 + _ ≤ 8; rw [cat_S]; omega) h1 hcs) hS (fun H1 locs1 hH1 hP1 hD1 hS1 => ?_)
  exact kk h H1 locs1 ls hl hP1 hD1 hS1 hH1
theorem wao : Cond.arrayOver (.object (RC 2)) ∈ lw_tbl ∧ Cond.arrayOver (.object (RC 6)) ∈ lw_tbl := by decide +kernel
end IW
