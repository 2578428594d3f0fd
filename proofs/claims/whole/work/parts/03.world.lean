/-! THE STEADY WORLD: every cell that lives behind the two constructors has a number ('id'); the store holds ints and longs by (id, place); references never change -/
abbrev St : Type := (Nat → Nat → Int32) × (Nat → Nat → Int64)
def N0 : Nat := 115
def kdL : List Nat := [10,8,12,1,9,13,13,14,13,13,4,14,13,13,3,13,16,7,13,13,13,13,17,13,0,13,13,13,13,13,14,11,12,12,13,13,13,14,14,13,13,13,13,13,13,13,14,13,13,13,13,14,13,13,13,13,13,13,13,13,13,13,14,13,13,13,15,13,14,14,13,14,13,14,14,13,13,13,13,13,14,13,13,2,5,13,2,5,13,2,5,13,2,5,13,6,13,13,13,13,6,13,13,13,13,6,13,13,13,13,6,13,13,13,13]
def lnL : List Nat := [0,0,2000,0,0,302,302,302,300,300,0,300,300,300,0,300,4,0,60,60,60,60,4,6,0,46,46,4,16,16,1,0,2000,2000,303,303,303,303,6,5,5,20,5,200,200,200,300,300,300,4,52,52,100,100,100,100,100,400,400,320,320,310,14,4,4,4,4,60,60,60,60,40,6,40,40,40,6,4,4,4,24,6,16,0,0,7,0,0,7,0,0,7,0,0,7,0,40,40,40,4,0,40,40,40,4,0,40,40,40,4,0,40,40,40,4]
def rfL : List (List (Option Nat)) := [[none, some 1, some 3, some 10, some 14, none, some 16, none, some 17, some 22, none, some 23, some 24, some 28, some 29], [some 2], [], [some 4, some 8, some 9], [some 5, some 6, some 7], [], [], [], [], [], [none, some 11, some 12, some 13], [], [], [], [none, some 15], [], [some 83, some 86, some 89, some 92], [some 18, some 19, some 20, some 21], [], [], [], [], [some 95, some 100, some 105, some 110], [], [none, some 25, some 26, some 27], [], [], [], [], [], [], [some 32, none, some 33, none, some 34, some 35, some 36, some 37, some 38, none, none, none, none, none, none, none, none, none, none, none, none, some 39, some 40, some 41, some 42, some 43, some 44, some 45, none, some 46, some 47, some 48, none, some 49, some 50, some 51, none, none, none, some 52, some 53, some 54, some 55, some 56, none, some 57, some 58, some 59, some 60, none, none, some 61, some 62, none, some 63, some 64, some 65, some 66, none, some 67, some 68, some 69, some 70, none, none, none, some 71, some 72, some 73, some 74, some 75, some 76, some 77, some 78, some 79, some 80, some 81, some 82], [], [], [], [], [], [], [], [], [], [], [], [], [], [], [], [], [], [], [], [], [], [], [], [], [], [], [], [], [], [], [], [], [], [], [], [], [], [], [], [], [], [], [], [], [], [], [], [], [], [], [], [none, none, none, none, some 84], [some 85], [], [none, none, none, none, some 87], [some 88], [], [none, none, none, none, some 90], [some 91], [], [none, none, none, none, some 93], [some 94], [], [some 96, some 97, some 98, some 99], [], [], [], [], [some 101, some 102, some 103, some 104], [], [], [], [], [some 106, some 107, some 108, some 109], [], [], [], [], [some 111, some 112, some 113, some 114], [], [], [], []]
def kd (k : Nat) : Nat := kdL.getD k 99
def ln (k : Nat) : Nat := lnL.getD k 0
def r0 (k j : Nat) : Option Nat := (rfL.getD k []).getD j none

def tyC (c : Nat) : Nat → FieldType := match c with
  | 0 => tyX0
  | 1 => tyX1
  | 2 => tyX2
  | 3 => tyX3
  | 4 => tyX4
  | 5 => tyX6
  | 6 => tyX7
  | 7 => tyX8
  | 8 => tyX9
  | 9 => tyX10
  | 10 => tyX11
  | _ => tyX12
def nFc (c : Nat) : Nat := match c with
  | 0 => 4
  | 1 => 10
  | 2 => 5
  | 3 => 4
  | 4 => 7
  | 5 => 3
  | 6 => 7
  | 7 => 5
  | 8 => 2
  | 9 => 4
  | 10 => 16
  | _ => 78
def RC (c : Nat) : String := match c with
  | 0 => RX0
  | 1 => RX1
  | 2 => RX2
  | 3 => RX3
  | 4 => RX4
  | 5 => RX6
  | 6 => RX7
  | 7 => RX8
  | 8 => RX9
  | 9 => RX10
  | 10 => RX11
  | _ => RX12
def TC (c : Nat) : u_T := match c with
  | 0 => TX0
  | 1 => TX1
  | 2 => TX2
  | 3 => TX3
  | 4 => TX4
  | 5 => TX6
  | 6 => TX7
  | 7 => TX8
  | 8 => TX9
  | 9 => TX10
  | 10 => TX11
  | _ => TX12
theorem cl_at : ∀ c, c < 12 → vwCl[c]? = some (RC c, TC c, nFc c)
  | 0, _ => rfl
  | 1, _ => rfl
  | 2, _ => rfl
  | 3, _ => rfl
  | 4, _ => rfl
  | 5, _ => rfl
  | 6, _ => rfl
  | 7, _ => rfl
  | 8, _ => rfl
  | 9, _ => rfl
  | 10, _ => rfl
  | 11, _ => rfl
  | n + 12, h => absurd h (by omega)
theorem ty_ok : ∀ c, c < 12 → ∀ k, k < nFc c → parseFieldDescriptor (TC c k).2.2.1 = some (tyC c k)
  | 0, _ => tyX0_ok
  | 1, _ => tyX1_ok
  | 2, _ => tyX2_ok
  | 3, _ => tyX3_ok
  | 4, _ => tyX4_ok
  | 5, _ => tyX6_ok
  | 6, _ => tyX7_ok
  | 7, _ => tyX8_ok
  | 8, _ => tyX9_ok
  | 9, _ => tyX10_ok
  | 10, _ => tyX11_ok
  | 11, _ => tyX12_ok
  | n + 12, h => absurd h (by omega)
theorem nm_ok : ∀ c, c < 12 → ∀ a, a < nFc c → ∀ b, b < nFc c → a ≠ b → (TC c a).2.1 ≠ (TC c b).2.1
  | 0, _ => nmX0
  | 1, _ => nmX1
  | 2, _ => nmX2
  | 3, _ => nmX3
  | 4, _ => nmX4
  | 5, _ => nmX6
  | 6, _ => nmX7
  | 7, _ => nmX8
  | 8, _ => nmX9
  | 9, _ => nmX10
  | 10, _ => nmX11
  | 11, _ => nmX12
  | n + 12, h => absurd h (by omega)
def wsA : List Cond := lw_tbl.filter goodWord
theorem wsA_good : ∀ w ∈ wsA, goodWord w = true := fun _ h => (List.mem_filter.mp h).2
theorem wsA_mem {w : Cond} (i : Nat) (h : lw_tbl[i]? = some w) (g : goodWord w = true) : w ∈ wsA := List.mem_filter.mpr ⟨List.mem_of_getElem? h, g⟩
def fv (ad : Nat → Nat) (st : St) (k : Nat) (ty : FieldType) (j : Nat) : Value := match ty with
  | .long => .long (st.2 k j)
  | .object _ => va_rf ((r0 k j).map ad)
  | .array _ => va_rf ((r0 k j).map ad)
  | _ => .int (st.1 k j)
def fsOf (ad : Nat → Nat) (st : St) (k : Nat) : List Value := (List.range (nFc (kd k))).map (fun j => fv ad st k (tyC (kd k) j) j)
def paOf (ad : Nat → Nat) (st : St) (k : Nat) : ((Nat → Int32) ⊕ (Nat → Int64) ⊕ (Nat → UInt32) ⊕ (Nat → UInt64) ⊕ (Nat → Option Nat)) :=
  if kd k = 14 then .inr (.inl (st.2 k)) else if kd k < 16 then .inl (st.1 k) else .inr (.inr (.inr (.inr (fun j => (r0 k j).map ad))))
def ce (cy : Nat → ClassId) (ad : Nat → Nat) (st : St) (k : Nat) : va_E :=
  if kd k < 12 then .inr (kd k, fsOf ad st k) else .inl (cy (kd k), ln k, paOf ad st k)
def cw (cy : Nat → ClassId) (ad : Nat → Nat) (st : St) : va_W := (List.range N0).map (fun k => (ad k, ce cy ad st k))
def tyl (cy : Nat → ClassId) : List (ClassId × FieldType) := [(cy 12, .byte), (cy 13, .int), (cy 14, .long), (cy 15, .boolean), (cy 16, .object "SealedSums$Key"), (cy 17, .object "SealedSums$Program")]
def sI (st : St) (k j : Nat) (x : Int32) : St := (fun a b => if a = k ∧ b = j then x else st.1 a b, st.2)
def sL (st : St) (k j : Nat) (x : Int64) : St := (st.1, fun a b => if a = k ∧ b = j then x else st.2 a b)
theorem sI_1 (st : St) (k j : Nat) (x : Int32) (a b : Nat) : (sI st k j x).1 a b = if a = k ∧ b = j then x else st.1 a b := rfl
theorem sI_2 (st : St) (k j : Nat) (x : Int32) : (sI st k j x).2 = st.2 := rfl
theorem sL_2 (st : St) (k j : Nat) (x : Int64) (a b : Nat) : (sL st k j x).2 a b = if a = k ∧ b = j then x else st.2 a b := rfl
theorem sL_1 (st : St) (k j : Nat) (x : Int64) : (sL st k j x).1 = st.1 := rfl
theorem cw_get (cy : Nat → ClassId) (ad : Nat → Nat) (st : St) {k : Nat} (h : k < N0) : (cw cy ad st)[k]? = some (ad k, ce cy ad st k) := by
  unfold cw
  rw [List.getElem?_map, List.getElem?_range h]
  rfl
theorem cw_set (cy : Nat → ClassId) (ad : Nat → Nat) (st st' : St) {k : Nat} {e : va_E} (h : k < N0) (he : e = ce cy ad st' k) (ho : ∀ j, j < N0 → j ≠ k → ce cy ad st' j = ce cy ad st j) : (cw cy ad st).set k (ad k, e) = cw cy ad st' := by
  subst he
  apply List.ext_getElem?
  intro i
  by_cases hi : i = k
  · subst hi
    rw [List.getElem?_set_self (by simp [cw]; exact h), cw_get cy ad st' h]
  · rw [List.getElem?_set_ne (Ne.symm hi)]
    by_cases hn : i < N0
    · rw [cw_get cy ad st hn, cw_get cy ad st' hn, ho i hn hi]
    · rw [List.getElem?_eq_none (by simp [cw]; omega), List.getElem?_eq_none (by simp [cw]; omega)]
theorem fs_get (ad : Nat → Nat) (st : St) {k j : Nat} (hj : j < nFc (kd k)) : (fsOf ad st k)[j]? = some (fv ad st k (tyC (kd k) j) j) := by
  unfold fsOf
  rw [List.getElem?_map, List.getElem?_range hj]
  rfl
theorem fs_set (ad : Nat → Nat) (st st' : St) {k j : Nat} {v : Value} (hv : v = fv ad st' k (tyC (kd k) j) j) (ho : ∀ i, i ≠ j → fv ad st' k (tyC (kd k) i) i = fv ad st k (tyC (kd k) i) i) (hj : j < nFc (kd k)) : (fsOf ad st k).set j v = fsOf ad st' k := by
  subst hv
  apply List.ext_getElem?
  intro i
  by_cases hi : i = j
  · subst hi
    rw [List.getElem?_set_self (by simp [fsOf]; exact hj), fs_get ad st' hj]
  · rw [List.getElem?_set_ne (Ne.symm hi)]
    by_cases hn : i < nFc (kd k)
    · rw [fs_get ad st hn, fs_get ad st' hn, ho i hi]
    · rw [List.getElem?_eq_none (by simp [fsOf]; omega), List.getElem?_eq_none (by simp [fsOf]; omega)]
/-- a type whose values are ints -/
def isI (ty : FieldType) : Bool := match ty with
  | .long => false
  | .object _ => false
  | .array _ => false
  | _ => true
def isR (ty : FieldType) : Bool := match ty with
  | .object _ => true
  | .array _ => true
  | _ => false
theorem fv_i {ad : Nat → Nat} {st : St} {k j : Nat} {ty : FieldType} (h : isI ty = true) : fv ad st k ty j = .int (st.1 k j) := by
  cases ty <;> first | rfl | cases h
theorem fv_r {ad : Nat → Nat} {st : St} {k j : Nat} {ty : FieldType} (h : isR ty = true) : fv ad st k ty j = va_rf ((r0 k j).map ad) := by
  cases ty <;> first | rfl | cases h
theorem fv_other {ad : Nat → Nat} {st st' : St} {k j : Nat} (ty : FieldType) (h1 : st'.1 k j = st.1 k j) (h2 : st'.2 k j = st.2 k j) : fv ad st' k ty j = fv ad st k ty j := by
  cases ty <;> simp [fv, h1, h2]
theorem ce_obj {cy : Nat → ClassId} {ad : Nat → Nat} {st : St} {k : Nat} (h : kd k < 12) : ce cy ad st k = .inr (kd k, fsOf ad st k) := by simp [ce, h]
theorem ce_arr {cy : Nat → ClassId} {ad : Nat → Nat} {st : St} {k : Nat} (h : ¬ kd k < 12) : ce cy ad st k = .inl (cy (kd k), ln k, paOf ad st k) := by simp [ce, h]
theorem ce_other {cy : Nat → ClassId} {ad : Nat → Nat} {st st' : St} {k : Nat} (h1 : st'.1 k = st.1 k) (h2 : st'.2 k = st.2 k) : ce cy ad st' k = ce cy ad st k := by
  have e : fsOf ad st' k = fsOf ad st k := by
    unfold fsOf
    refine List.map_congr_left (fun j _ => fv_other _ (by rw [h1]) (by rw [h2]))
  unfold ce paOf
  rw [e, h1, h2]
theorem sI_row {st : St} {k j : Nat} {x : Int32} {a : Nat} (h : a ≠ k) : (sI st k j x).1 a = st.1 a := by
  funext b
  rw [sI_1, if_neg (fun q => h q.1)]
theorem sL_row {st : St} {k j : Nat} {x : Int64} {a : Nat} (h : a ≠ k) : (sL st k j x).2 a = st.2 a := by
  funext b
  rw [sL_2, if_neg (fun q => h q.1)]
theorem sI_upd {st : St} {k j : Nat} {x : Int32} : (sI st k j x).1 k = upd (st.1 k) j x := by
  funext b
  rw [sI_1]
  simp [upd]
theorem sL_upd {st : St} {k j : Nat} {x : Int64} : (sL st k j x).2 k = vp_updL (st.2 k) j x := by
  funext b
  rw [sL_2]
  simp [vp_updL]
/-- what lies outside and is only read: the table of prices, seven texts -/
def prc (j : Nat) : Int32 := ([0, 1, 1, 10, 1, 2] : List Int32).getD j 0
def txL : List (Nat × String) := [(69, "in"), (75, "table"), (77, "let"), (79, "out"), (81, "choose"), (83, "ask"), (62, ";:,=+-*()")]
def txN : List Nat := [2, 5, 3, 3, 6, 3, 9]
def txB : List (List Int32) := [[105, 110], [116, 97, 98, 108, 101], [108, 101, 116], [111, 117, 116], [99, 104, 111, 111, 115, 101], [97, 115, 107], [59, 58, 44, 61, 43, 45, 42, 40, 41]]
def EXF (ad : Nat → Nat) (A : Nat → Prop) (U : State) (H : Heap) : Prop := va_Z "jdk/internal/util/Preconditions" "SIOOBE_FORMATTER" "Ljava/util/function/BiFunction;" .null A U H ∨ va_Z "jdk/internal/util/Preconditions" "SIOOBE_FORMATTER" "Ljava/util/function/BiFunction;" (.ref (ad 130)) A U H
theorem EXF.warm {ad : Nat → Nat} {A B : Nat → Prop} {s U : State} {H H1 : Heap} (h : EXF ad A s H) (hW : s.WarmedH U.vm) (hq : ∀ a : Nat, a < H.size → ¬ A a → H1[a]? = H[a]?) (hAB : ∀ q, B q → A q) : EXF ad B U H1 := h.elim (fun h => Or.inl (((h.kept hq).narrow hAB).moved hW.alike)) (fun h => Or.inr (((h.kept hq).narrow hAB).moved hW.alike))
theorem EXF.moved {ad : Nat → Nat} {A : Nat → Prop} {u U : State} {H : Heap} (hvm : u.vm.Alike U.vm) (h : EXF ad A u H) : EXF ad A U H := h.elim (fun h => Or.inl (h.moved hvm)) (fun h => Or.inr (h.moved hvm))
def EX (ad : Nat → Nat) (A : Nat → Prop) (U : State) (H : Heap) : Prop :=
  va_Z RX7 "PRICES" "[I" (.ref (ad 115)) A U H ∧ va_T .int (ad 115) 6 (fun j => .int (prc j)) A U H ∧ vk_S 7 txN txB (fun i => ad (116 + i)) (fun i => ad (123 + i)) A U H ∧
  (∀ i : Nat, i < 7 → vk_R RX10 (txL.getD i (0, "")).1 (txL.getD i (0, "")).2 (ad (116 + i)) U) ∧ va_Z "java/lang/String" "COMPACT_STRINGS" "Z" (.int 1) A U H ∧ EXF ad A U H
theorem EX.warm {ad : Nat → Nat} {A B : Nat → Prop} {s U : State} {H H1 : Heap} (h : EX ad A s H) (hW : s.WarmedH U.vm) (hq : ∀ a : Nat, a < H.size → ¬ A a → H1[a]? = H[a]?) (hAB : ∀ q, B q → A q) : EX ad B U H1 := by
  obtain ⟨h1, h2, h3, h4, h5, h6⟩ := h
  exact ⟨((h1.kept hq).narrow hAB).moved hW.alike, ((h2.kept hq).narrow hAB).moved hW.alike, ((h3.kept hq).narrow hAB).moved hW.alike, fun i hi => (h4 i hi).warm hW, ((h5.kept hq).narrow hAB).moved hW.alike, h6.warm hW hq hAB⟩
theorem EX.same {ad : Nat → Nat} {A : Nat → Prop} {s U : State} {H : Heap} (h : EX ad A s H) (hv : U.vm = s.vm) : EX ad A U H := by
  obtain ⟨h1, h2, h3, h4, h5, h6⟩ := h
  have ha : s.vm.Alike U.vm := by rw [hv]; exact Vm.Alike.refl _
  exact ⟨h1.moved ha, h2.moved ha, h3.moved ha, fun i hi => (h4 i hi).same hv, h5.moved ha, h6.moved ha⟩

