/-! THE MODEL LAYS: interpolates, the code -/
section FORGET
variable {p : Program} {l : Launch} {e : Env} {R : Room} {s : State} {m : MethodId} {args : Array Value} {below : List Frame} {meth : Method} {c : Code} {D : va_G} {cy : Nat → ClassId} {ad : Nat → Nat} {A : Nat → Prop} {I : MI} {post : Option Value → St → Prop} {pc n : Nat} {L : List (Option Value)} {S : List Value} {st : St}
variable {a0 a1 a2 a3 a4 a5 a6 a7 a8 a9 a10 a11 a12 a13 : Option Value}
theorem g_forget (i : Nat) {L : List (Option Value)} (k : G p l e R s m args below meth c D cy ad A I post pc (L.set i none) S st) : G p l e R s m args below meth c D cy ad A I post pc L S st := by
  refine fun h H locs ls hl hP hD hS => k h H locs ls (lv_more hl (fun q hq => ?_)) hP hD hS
  obtain ⟨j, w, h1, h2⟩ := pv_in.mp hq
  refine pv_in.mpr ⟨j, w, ?_, h2⟩
  rw [List.getElem?_set] at h1
  by_cases e : i = j
  · rw [if_pos e] at h1
    split at h1
    · cases h1
    · cases h1
  · rw [if_neg e] at h1
    exact h1
end FORGET
section WINT
variable {l : Launch} {D : va_G} {cy : Nat → ClassId} {bs pg : Nat}
def facP (bs k : Nat) (u : St) (f : Nat → Nat) : Prop := ∀ j, j < bs → (u.2 51 (13 * k + j)).toInt = (f j : Int)
def basP (u : St) (b : Nat → Nat) : Prop := ∀ j, j < 14 → (u.2 62 j).toInt = (b j : Int)
theorem w_interpolates (st : St) (hL : lsM bs pg st) {k : Nat} (hk : k < 4) {e : Nat → Nat} (he : ∀ j, j < bs → st.1 50 (13 * k + j) = nI (e j) ∧ e j < bs) : Mv l D cy 1 YX12_interpolates [.ref 31, .int (nI k)] st (fun u => ipFr bs k st u ∧ facP bs k u (acF bs e bs)) := by
  have hbs := hL.1
  have h2 := hbs.2.1
  have h13 := hbs.2.2
  have hp : (nI bs).toInt64.toInt = (bs : Int) := by rw [tl, nI_toInt (by omega)]
  have hne : ¬ (nI bs).toInt64 = 0 := by rw [fa_eq64, z64, hp]; omega
  have m13 : (13 : Int32) * nI k = nI (13 * k) := (Int32.ofNat_mul 13 k).symm
  have bse : ∀ {u : St}, ipFr bs k st u → u.1 31 17 = nI bs := fun h => by rw [h.1]; exact hbs.1
  have ix : ∀ {j : Nat}, j < bs → vp_in (nI (13 * k + j)) 52 := fun h => vp_in_nI (by omega) (by decide)
  have cx : ∀ {j : Nat}, j < bs → (nI (13 * k + j)).toNatClampNeg = 13 * k + j := fun h => nI_clamp (by omega)
  refine M.ofG [some (.ref 31), some (.int (nI k)), none, none, none, none, none, none, none, none, none] (by decide) (Nat.le_of_ble_eq_true rfl) rfl ?_
  intro xp xe xs xm xa xb xme xc xad xA
  have L40 : ∀ (n i : Nat) (u : St) (b5 b6 b7 b8 b9 b10 : Option Value), i + n = bs → ipFr bs k st u → facP bs k u (acF bs e i) → G xp l xe (rmd (1)) xs xm xa xb xme xc D cy xad xA (YX12_interpolates.2.1, YX12_interpolates.1.cls, YX12_interpolates.2.2.1, YX12_interpolates.2.2.2) (Pv (fun u => ipFr bs k st u ∧ facP bs k u (acF bs e bs))) 40 ([some (.ref 31), some (.int (nI k)), some (.long (nI bs).toInt64), none, some (.int (nI i)), b5, b6, b7, b8, b9, b10]) ([]) (u) := by
    intro n
    induction n with
    | zero =>
      intro i u b5 b6 b7 b8 b9 b10 hi hF hf
      have e0 : i = bs := by omega
      subst e0
      refine g_ild4 eX12_interpolates_40 ?_
      refine g_ald0 eX12_interpolates_42 ?_
      refine g_getI (ci := 11) (j := 17) rfl (Nat.le_of_ble_eq_true rfl) (Nat.le_of_ble_eq_true rfl) (Nat.le_of_ble_eq_true rfl) rfl fl_X12_174 eX12_interpolates_43 ?_
      rw [bse hF]
      refine g_icmp_ge eX12_interpolates_46 (fun hb => ?_) (fun hb => ?_)
      · exact g_vret rfl eX12_interpolates_275 ⟨rfl, ⟨hF, hf⟩⟩
      · exact absurd (Int32.le_refl _) hb
    | succ n ih =>
      intro i u b5 b6 b7 b8 b9 b10 hi hF hf
      -- the factors
      have L217 : ∀ (n2 j : Nat) (u : St) (fl : Int64) (b5 b7 : Option Value), j + n2 = bs → ipFr bs k st u → fl.toInt = (fcF bs e i : Int) → basP u (basF bs i bs) → facP bs k u (fun x => if x < j then acF bs e (i + 1) x else acF bs e i x) → G xp l xe (rmd (1)) xs xm xa xb xme xc D cy xad xA (YX12_interpolates.2.1, YX12_interpolates.1.cls, YX12_interpolates.2.2.1, YX12_interpolates.2.2.2) (Pv (fun u => ipFr bs k st u ∧ facP bs k u (acF bs e bs))) 217 ([some (.ref 31), some (.int (nI k)), some (.long (nI bs).toInt64), none, some (.int (nI i)), b5, none, b7, some (.long fl), none, some (.int (nI j))]) ([]) (u) := by
        intro n2
        induction n2 with
        | zero =>
          intro j u fl b5 b7 hj hF hfl hb hf
          have e0 : j = bs := by omega
          subst e0
          refine g_ild10 eX12_interpolates_217 ?_
          refine g_ald0 eX12_interpolates_219 ?_
          refine g_getI (ci := 11) (j := 17) rfl (Nat.le_of_ble_eq_true rfl) (Nat.le_of_ble_eq_true rfl) (Nat.le_of_ble_eq_true rfl) rfl fl_X12_174 eX12_interpolates_220 ?_
          rw [bse hF]
          refine g_icmp_ge eX12_interpolates_223 (fun hb1 => ?_) (fun hb1 => ?_)
          · refine g_inc4 rfl (Nat.le_of_ble_eq_true rfl) rfl eX12_interpolates_269 ?_
            refine g_goto eX12_interpolates_272 ?_
            rw [inc1]
            refine ih (i + 1) _ _ _ _ _ _ _ (by omega) hF (fun x hx => ?_)
            have := hf x hx
            dsimp only at this
            rw [if_pos hx] at this
            exact this
          · exact absurd (Int32.le_refl _) hb1
        | succ n2 ih2 =>
          intro j u fl b5 b7 hj hF hfl hb hf
          refine g_ild10 eX12_interpolates_217 ?_
          refine g_ald0 eX12_interpolates_219 ?_
          refine g_getI (ci := 11) (j := 17) rfl (Nat.le_of_ble_eq_true rfl) (Nat.le_of_ble_eq_true rfl) (Nat.le_of_ble_eq_true rfl) rfl fl_X12_174 eX12_interpolates_220 ?_
          rw [bse hF]
          refine g_icmp_ge eX12_interpolates_223 (fun hb1 => ?_) (fun hb1 => ?_)
          · exact absurd hb1 (by rw [fa_le, nI_toInt (by omega), nI_toInt (by omega)]; omega)
          · refine g_ald0 eX12_interpolates_226 ?_
            refine g_getR (ci := 11) (j := 35) rfl (Nat.le_of_ble_eq_true rfl) (Nat.le_of_ble_eq_true rfl) (Nat.le_of_ble_eq_true rfl) rfl rfl fl_X12_73 eX12_interpolates_227 ?_
            refine g_bipush (v := 13) (by decide) eX12_interpolates_230 ?_
            refine g_ild1 eX12_interpolates_232 ?_
            refine g_imul eX12_interpolates_233 ?_
            rw [m13]
            refine g_ild10 eX12_interpolates_234 ?_
            refine g_iadd eX12_interpolates_236 ?_
            rw [nI_add]
            refine g_ald0 eX12_interpolates_237 ?_
            refine g_getR (ci := 11) (j := 35) rfl (Nat.le_of_ble_eq_true rfl) (Nat.le_of_ble_eq_true rfl) (Nat.le_of_ble_eq_true rfl) rfl rfl fl_X12_73 eX12_interpolates_238 ?_
            refine g_bipush (v := 13) (by decide) eX12_interpolates_241 ?_
            refine g_ild1 eX12_interpolates_243 ?_
            refine g_imul eX12_interpolates_244 ?_
            rw [m13]
            refine g_ild10 eX12_interpolates_245 ?_
            refine g_iadd eX12_interpolates_247 ?_
            rw [nI_add]
            refine g_lald rfl (Nat.le_of_ble_eq_true rfl) (ix (by omega)) eX12_interpolates_248 ?_
            rw [cx (by omega)]
            refine g_ald0 eX12_interpolates_249 ?_
            refine g_getR (ci := 11) (j := 52) rfl (Nat.le_of_ble_eq_true rfl) (Nat.le_of_ble_eq_true rfl) (Nat.le_of_ble_eq_true rfl) rfl rfl fl_X12_106 eX12_interpolates_250 ?_
            refine g_ild10 eX12_interpolates_253 ?_
            refine g_lald rfl (Nat.le_of_ble_eq_true rfl) (vp_in_nI (n := j) (N := 14) (by omega) (by decide)) eX12_interpolates_255 ?_
            rw [nI_clamp (by omega)]
            have v1 := hf j (by omega)
            dsimp only at v1
            rw [if_neg (by omega)] at v1
            have v2 := hb j (by omega)
            have l1 := acF_lt h2 e i j
            have l2 := basF_lt h2 i bs j
            have l3 := fcF_lt h2 e i
            have v3 := ip_step v1 v2 hfl hp (by omega) (by omega) (by omega) (by omega)
            refine g_lld8 eX12_interpolates_256 ?_
            refine g_lmul eX12_interpolates_258 ?_
            refine g_ladd eX12_interpolates_259 ?_
            refine g_lld2 eX12_interpolates_260 ?_
            refine g_lrem hne eX12_interpolates_261 ?_
            refine g_last rfl (Nat.le_of_ble_eq_true rfl) (ix (by omega)) eX12_interpolates_262 ?_
            rw [cx (by omega)]
            refine g_inc10 rfl (Nat.le_of_ble_eq_true rfl) rfl eX12_interpolates_263 ?_
            refine g_goto eX12_interpolates_266 ?_
            rw [inc1]
            refine ih2 (j + 1) _ fl _ _ (by omega) (ipFr_f hF (by omega) _) hfl (fun x hx => by rw [sL_row (by decide)]; exact hb x hx) (fun x hx => ?_)
            rw [sL_at]
            by_cases q : x = j
            · dsimp only
              rw [if_pos (by omega), if_pos (by omega), v3, q, acF]
            · rw [if_neg (by omega), hf x hx]
              dsimp only
              by_cases q2 : x < j
              · rw [if_pos q2, if_pos (by omega)]
              · rw [if_neg q2, if_neg (by omega)]
      have he2 := he i (by omega)
      -- the divisors
      have L89 : ∀ (n2 d : Nat) (u : St) (dn : Int64) (b9 b10 : Option Value), d + n2 = bs → ipFr bs k st u → dn.toInt = (dwF bs i d : Int) → basP u (basF bs i d) → facP bs k u (acF bs e i) → G xp l xe (rmd (1)) xs xm xa xb xme xc D cy xad xA (YX12_interpolates.2.1, YX12_interpolates.1.cls, YX12_interpolates.2.2.1, YX12_interpolates.2.2.2) (Pv (fun u => ipFr bs k st u ∧ facP bs k u (acF bs e bs))) 89 ([some (.ref 31), some (.int (nI k)), some (.long (nI bs).toInt64), none, some (.int (nI i)), some (.long dn), none, some (.int (nI (dgF i d))), some (.int (nI d)), b9, b10]) ([]) (u) := by
        intro n2
        induction n2 with
        | zero =>
          intro d u dn b9 b10 hd hF hdn hb hf
          have e0 : d = bs := by omega
          have lw := dwF_lt h2 i bs
          rw [e0] at hdn hb ⊢
          refine g_ild8 eX12_interpolates_89 ?_
          refine g_ald0 eX12_interpolates_91 ?_
          refine g_getI (ci := 11) (j := 17) rfl (Nat.le_of_ble_eq_true rfl) (Nat.le_of_ble_eq_true rfl) (Nat.le_of_ble_eq_true rfl) rfl fl_X12_174 eX12_interpolates_92 ?_
          rw [bse hF]
          refine g_icmp_ge eX12_interpolates_95 (fun hb1 => ?_) (fun hb1 => ?_)
          · refine g_ald0 eX12_interpolates_190 ?_
            refine g_getR (ci := 11) (j := 34) rfl (Nat.le_of_ble_eq_true rfl) (Nat.le_of_ble_eq_true rfl) (Nat.le_of_ble_eq_true rfl) rfl rfl fl_X12_70 eX12_interpolates_191 ?_
            refine g_bipush (v := 13) (by decide) eX12_interpolates_194 ?_
            refine g_ild1 eX12_interpolates_196 ?_
            refine g_imul eX12_interpolates_197 ?_
            rw [m13]
            refine g_ild4 eX12_interpolates_198 ?_
            refine g_iadd eX12_interpolates_200 ?_
            rw [nI_add]
            refine g_iald rfl (Nat.le_of_ble_eq_true rfl) (ix (by omega)) eX12_interpolates_201 ?_
            rw [cx (by omega), hF.1, he2.1]
            refine g_i2l eX12_interpolates_202 ?_
            refine g_lld5 eX12_interpolates_203 ?_
            refine g_lld2 eX12_interpolates_205 ?_
            refine g_callSl (w_turned u dn (nI bs).toInt64 (by omega) (by omega)) cs_X12_369 eX12_interpolates_206 ⟨Nat.le_of_ble_eq_true rfl, Nat.le_of_ble_eq_true rfl⟩ rfl rfl (Nat.le_of_ble_eq_true rfl) (fun z u h9 => ?_)
            obtain ⟨rfl, hz⟩ := h9
            have hz2 : z.toInt = ((dwF bs i bs ^ (bs - 2) % bs : Nat) : Int) := by
              rw [hz, hdn, hp, show ((bs : Int) - 2).toNat = bs - 2 by omega]
              simp
            have l4 : dwF bs i bs ^ (bs - 2) % bs < bs := Nat.mod_lt _ (by omega)
            have v := ip_mul (c := (nI (e i)).toInt64) (q := z) (pp := (nI bs).toInt64) (C := e i) (by rw [tl, nI_toInt (by omega)]) hz2 hp (by omega) (by omega) (by omega)
            refine g_lmul eX12_interpolates_209 ?_
            refine g_lld2 eX12_interpolates_210 ?_
            refine g_lrem hne eX12_interpolates_211 ?_
            refine g_forget 9 ?_
            refine g_lst8 rfl (Nat.le_of_ble_eq_true rfl) eX12_interpolates_212 ?_
            refine g_iconst (v := 0) (by decide) eX12_interpolates_214 ?_
            refine g_ist10 rfl (Nat.le_of_ble_eq_true rfl) eX12_interpolates_215 ?_
            refine L217 bs 0 _ _ _ _ (by omega) hF v hb (fun x hx => ?_)
            dsimp only
            rw [if_neg (by omega)]
            exact hf x hx
          · exact absurd (Int32.le_refl _) hb1
        | succ n2 ih2 =>
          intro d u dn b9 b10 hd hF hdn hb hf
          have ld := dwF_lt h2 i d
          refine g_ild8 eX12_interpolates_89 ?_
          refine g_ald0 eX12_interpolates_91 ?_
          refine g_getI (ci := 11) (j := 17) rfl (Nat.le_of_ble_eq_true rfl) (Nat.le_of_ble_eq_true rfl) (Nat.le_of_ble_eq_true rfl) rfl fl_X12_174 eX12_interpolates_92 ?_
          rw [bse hF]
          refine g_icmp_ge eX12_interpolates_95 (fun hb1 => ?_) (fun hb1 => ?_)
          · exact absurd hb1 (by rw [fa_le, nI_toInt (by omega), nI_toInt (by omega)]; omega)
          · refine g_ild8 eX12_interpolates_98 ?_
            refine g_ild4 eX12_interpolates_100 ?_
            by_cases hdi : d = i
            · refine g_icmp_ne eX12_interpolates_102 (fun hb2 => ?_) (fun hb2 => ?_)
              · exact absurd (by rw [hdi]) hb2
              · refine g_goto eX12_interpolates_105 ?_
                refine g_inc8 rfl (Nat.le_of_ble_eq_true rfl) rfl eX12_interpolates_184 ?_
                refine g_goto eX12_interpolates_187 ?_
                rw [inc1]
                have g1 : dgF i (d + 1) = dgF i d := by unfold dgF; rw [if_neg (by omega), if_pos (by omega)]; omega
                have := ih2 (d + 1) u dn b9 b10 (by omega) hF (by rw [dwF, if_pos hdi]; exact hdn) (fun x hx => by rw [basF, if_pos hdi]; exact hb x hx) hf
                rw [g1] at this
                exact this
            · have g1 : dgF i (d + 1) = dgF i d + 1 := by unfold dgF; split <;> split <;> omega
              have g2 : dgF i d ≤ d := by unfold dgF; split <;> omega
              have g3 : d = bs - 1 → dgF i d ≤ d := fun _ => g2
              refine g_icmp_ne eX12_interpolates_102 (fun hb2 => ?_) (fun hb2 => ?_)
              · generalize hg : dgF i d = dg at g1 g2
                -- one more
                have L166 : ∀ (u : St) (j9 : Int32), ipFr bs k st u → basP u (mulF bs d (basF bs i d)) → facP bs k u (acF bs e i) → G xp l xe (rmd (1)) xs xm xa xb xme xc D cy xad xA (YX12_interpolates.2.1, YX12_interpolates.1.cls, YX12_interpolates.2.2.1, YX12_interpolates.2.2.2) (Pv (fun u => ipFr bs k st u ∧ facP bs k u (acF bs e bs))) 166 ([some (.ref 31), some (.int (nI k)), some (.long (nI bs).toInt64), none, some (.int (nI i)), some (.long dn), none, some (.int (nI dg)), some (.int (nI d)), some (.int j9), b10]) ([]) (u) := by
                  intro u j9 hF hb hf
                  have v := ip_mul (c := dn) (q := (nI i - nI d).toInt64 + (nI bs).toInt64) (pp := (nI bs).toInt64) hdn (ip_d h13 (by omega) (by omega)) hp (by omega) (by omega) (by omega)
                  refine g_inc7 rfl (Nat.le_of_ble_eq_true rfl) rfl eX12_interpolates_166 ?_
                  rw [inc1]
                  refine g_lld5 eX12_interpolates_169 ?_
                  refine g_ild4 eX12_interpolates_171 ?_
                  refine g_ild8 eX12_interpolates_173 ?_
                  refine g_isub eX12_interpolates_175 ?_
                  refine g_i2l eX12_interpolates_176 ?_
                  refine g_lld2 eX12_interpolates_177 ?_
                  refine g_ladd eX12_interpolates_178 ?_
                  refine g_lmul eX12_interpolates_179 ?_
                  refine g_lld2 eX12_interpolates_180 ?_
                  refine g_lrem hne eX12_interpolates_181 ?_
                  refine g_lst5 rfl (Nat.le_of_ble_eq_true rfl) eX12_interpolates_182 ?_
                  refine g_inc8 rfl (Nat.le_of_ble_eq_true rfl) rfl eX12_interpolates_184 ?_
                  refine g_goto eX12_interpolates_187 ?_
                  rw [inc1, ← g1]
                  exact ih2 (d + 1) u _ _ b10 (by omega) hF (by rw [dwF, if_neg hdi]; exact v) (fun x hx => by rw [basF, if_neg hdi]; exact hb x hx) hf
                have L114 : ∀ (n3 : Nat) (u : St), n3 ≤ dg + 2 → ipFr bs k st u → basP u (fun x => if n3 ≤ x then mulF bs d (basF bs i d) x else basF bs i d x) → facP bs k u (acF bs e i) → G xp l xe (rmd (1)) xs xm xa xb xme xc D cy xad xA (YX12_interpolates.2.1, YX12_interpolates.1.cls, YX12_interpolates.2.2.1, YX12_interpolates.2.2.2) (Pv (fun u => ipFr bs k st u ∧ facP bs k u (acF bs e bs))) 114 ([some (.ref 31), some (.int (nI k)), some (.long (nI bs).toInt64), none, some (.int (nI i)), some (.long dn), none, some (.int (nI dg)), some (.int (nI d)), some (.int (nI n3 - 1)), b10]) ([]) (u) := by
                  intro n3
                  induction n3 with
                  | zero =>
                    intro u hn hF hb hf
                    refine g_ild9 eX12_interpolates_114 ?_
                    refine g_if_lt eX12_interpolates_116 (fun hb3 => ?_) (fun hb3 => ?_)
                    · refine L166 _ _ hF (fun x hx => ?_) hf
                      have := hb x hx
                      dsimp only at this
                      rw [if_pos (by omega)] at this
                      exact this
                    · exact absurd hb3 (by decide)
                  | succ n3 ih3 =>
                    intro u hn hF hb hf
                    have i3 : vp_in (nI n3) 14 := vp_in_nI (by omega) (by decide)
                    have vj := hb n3 (by omega)
                    dsimp only at vj
                    rw [if_neg (by omega)] at vj
                    have lb := basF_lt h2 i d n3
                    have lb2 := basF_lt h2 i d (n3 - 1)
                    rw [show nI (n3 + 1) - 1 = nI n3 from nI_pred n3]
                    have J : ∀ a : Int64, a.toInt = ((if n3 = 0 then 0 else basF bs i d (n3 - 1) : Nat) : Int) → G xp l xe (rmd (1)) xs xm xa xb xme xc D cy xad xA (YX12_interpolates.2.1, YX12_interpolates.1.cls, YX12_interpolates.2.2.1, YX12_interpolates.2.2.2) (Pv (fun u => ipFr bs k st u ∧ facP bs k u (acF bs e bs))) 143 ([some (.ref 31), some (.int (nI k)), some (.long (nI bs).toInt64), none, some (.int (nI i)), some (.long dn), none, some (.int (nI dg)), some (.int (nI d)), some (.int (nI n3)), b10]) ([.long a, .int (nI n3), .ref 62]) (u) := by
                      intro a ha
                      have v := ip_step (q := (nI bs).toInt64 - (nI d).toInt64) ha vj (ip_p h13 (by omega)) hp (by split <;> omega) (by omega) (by omega) (by omega)
                      refine g_ald0 eX12_interpolates_143 ?_
                      refine g_getR (ci := 11) (j := 52) rfl (Nat.le_of_ble_eq_true rfl) (Nat.le_of_ble_eq_true rfl) (Nat.le_of_ble_eq_true rfl) rfl rfl fl_X12_106 eX12_interpolates_144 ?_
                      refine g_ild9 eX12_interpolates_147 ?_
                      refine g_lald rfl (Nat.le_of_ble_eq_true rfl) i3 eX12_interpolates_149 ?_
                      rw [nI_clamp (by omega)]
                      refine g_lld2 eX12_interpolates_150 ?_
                      refine g_ild8 eX12_interpolates_151 ?_
                      refine g_i2l eX12_interpolates_153 ?_
                      refine g_lsub eX12_interpolates_154 ?_
                      refine g_lmul eX12_interpolates_155 ?_
                      refine g_ladd eX12_interpolates_156 ?_
                      refine g_lld2 eX12_interpolates_157 ?_
                      refine g_lrem hne eX12_interpolates_158 ?_
                      refine g_last rfl (Nat.le_of_ble_eq_true rfl) i3 eX12_interpolates_159 ?_
                      rw [nI_clamp (by omega)]
                      refine g_inc9 rfl (Nat.le_of_ble_eq_true rfl) rfl eX12_interpolates_160 ?_
                      refine g_goto eX12_interpolates_163 ?_
                      have e9 : nI n3 + Int32.ofInt (-1) = nI n3 - 1 := by rw [show Int32.ofInt (-1) = -1 by decide +kernel]; exact (Int32.sub_eq_add_neg _ _).symm
                      rw [e9]
                      refine ih3 _ (by omega) (ipFr_b hF _ _) (fun x hx => ?_) (fun x hx => by rw [sL_row (by decide)]; exact hf x hx)
                      rw [sL_at]
                      by_cases q : x = n3
                      · rw [if_pos q, v, q]
                        dsimp only
                        rw [if_pos (Nat.le_refl _)]
                        rfl
                      · rw [if_neg q, hb x hx]
                        dsimp only
                        by_cases q2 : n3 + 1 ≤ x
                        · rw [if_pos q2, if_pos (by omega)]
                        · rw [if_neg q2, if_neg (by omega)]
                    refine g_ild9 eX12_interpolates_114 ?_
                    refine g_if_lt eX12_interpolates_116 (fun hb3 => ?_) (fun hb3 => ?_)
                    · exact absurd hb3 (by rw [fa_lt, nI_toInt (by omega)]; show ¬ ((n3 : Int) < 0); omega)
                    · refine g_ald0 eX12_interpolates_119 ?_
                      refine g_getR (ci := 11) (j := 52) rfl (Nat.le_of_ble_eq_true rfl) (Nat.le_of_ble_eq_true rfl) (Nat.le_of_ble_eq_true rfl) rfl rfl fl_X12_106 eX12_interpolates_120 ?_
                      refine g_ild9 eX12_interpolates_123 ?_
                      refine g_ild9 eX12_interpolates_125 ?_
                      refine g_if_le eX12_interpolates_127 (fun hb4 => ?_) (fun hb4 => ?_)
                      · rw [fa_le, nI_toInt (by omega)] at hb4
                        have q : n3 = 0 := by have : (n3 : Int) ≤ 0 := hb4; omega
                        refine g_lconst (v := 0) rfl eX12_interpolates_142 ?_
                        exact J _ (by rw [if_pos q]; rfl)
                      · rw [fa_le, nI_toInt (by omega)] at hb4
                        have q : ¬ n3 = 0 := fun z => hb4 (by rw [z]; decide)
                        refine g_ald0 eX12_interpolates_130 ?_
                        refine g_getR (ci := 11) (j := 52) rfl (Nat.le_of_ble_eq_true rfl) (Nat.le_of_ble_eq_true rfl) (Nat.le_of_ble_eq_true rfl) rfl rfl fl_X12_106 eX12_interpolates_131 ?_
                        refine g_ild9 eX12_interpolates_134 ?_
                        refine g_iconst (v := 1) (by decide) eX12_interpolates_136 ?_
                        refine g_isub eX12_interpolates_137 ?_
                        rw [show nI n3 - 1 = nI (n3 - 1) by rw [show nI n3 = nI (n3 - 1 + 1) by rw [show n3 - 1 + 1 = n3 by omega]]; exact nI_pred _]
                        refine g_lald rfl (Nat.le_of_ble_eq_true rfl) (vp_in_nI (n := n3 - 1) (N := 14) (by omega) (by decide)) eX12_interpolates_138 ?_
                        refine g_goto eX12_interpolates_139 ?_
                        rw [nI_clamp (by omega)]
                        refine J _ ?_
                        rw [if_neg q]
                        have := hb (n3 - 1) (by omega)
                        dsimp only at this
                        rw [if_neg (by omega)] at this
                        exact this
                refine g_ild7 eX12_interpolates_108 ?_
                refine g_iconst (v := 1) (by decide) eX12_interpolates_110 ?_
                refine g_iadd eX12_interpolates_111 ?_
                refine g_ist9 rfl (Nat.le_of_ble_eq_true rfl) eX12_interpolates_112 ?_
                rw [show nI dg + 1 = nI (dg + 2) - 1 from (nI_1 dg).trans (nI_pred (dg + 1)).symm]
                refine L114 (dg + 2) u (by omega) hF (fun x hx => ?_) hf
                dsimp only
                by_cases q : dg + 2 ≤ x
                · rw [if_pos q, hb x hx]
                  rw [basF_0 i d x (by omega)]
                  unfold mulF
                  rw [basF_0 i d x (by omega), basF_0 i d (x - 1) (by omega)]
                  simp
                · rw [if_neg q]
                  exact hb x hx
              · exact absurd ((nI_eq (by omega) (by omega)).mp hb2) hdi
      -- the basis anew
      have L52 : ∀ (n2 j : Nat) (u : St) (b6 b7 b8 b9 b10 : Option Value), j + n2 = 14 → ipFr bs k st u → (∀ x, x < j → u.2 62 x = 0) → facP bs k u (acF bs e i) → G xp l xe (rmd (1)) xs xm xa xb xme xc D cy xad xA (YX12_interpolates.2.1, YX12_interpolates.1.cls, YX12_interpolates.2.2.1, YX12_interpolates.2.2.2) (Pv (fun u => ipFr bs k st u ∧ facP bs k u (acF bs e bs))) 52 ([some (.ref 31), some (.int (nI k)), some (.long (nI bs).toInt64), none, some (.int (nI i)), some (.int (nI j)), b6, b7, b8, b9, b10]) ([]) (u) := by
        intro n2
        induction n2 with
        | zero =>
          intro j u b6 b7 b8 b9 b10 hj hF hz hf
          have e0 : j = 14 := by omega
          rw [e0]
          refine g_ild5 eX12_interpolates_52 ?_
          refine g_bipush (v := 14) (by decide) eX12_interpolates_54 ?_
          refine g_icmp_ge eX12_interpolates_56 (fun hb1 => ?_) (fun hb1 => ?_)
          · refine g_ald0 eX12_interpolates_73 ?_
            refine g_getR (ci := 11) (j := 52) rfl (Nat.le_of_ble_eq_true rfl) (Nat.le_of_ble_eq_true rfl) (Nat.le_of_ble_eq_true rfl) rfl rfl fl_X12_106 eX12_interpolates_74 ?_
            refine g_iconst (v := 0) (by decide) eX12_interpolates_77 ?_
            refine g_lconst (v := 1) rfl eX12_interpolates_78 ?_
            refine g_last rfl (Nat.le_of_ble_eq_true rfl) (vp_in_nI (n := 0) (N := 14) (by decide) (by decide)) eX12_interpolates_79 ?_
            refine g_lconst (v := 1) rfl eX12_interpolates_80 ?_
            refine g_forget 6 ?_
            refine g_lst5 rfl (Nat.le_of_ble_eq_true rfl) eX12_interpolates_81 ?_
            refine g_iconst (v := 0) (by decide) eX12_interpolates_83 ?_
            refine g_ist7 rfl (Nat.le_of_ble_eq_true rfl) eX12_interpolates_84 ?_
            refine g_iconst (v := 0) (by decide) eX12_interpolates_86 ?_
            refine g_ist8 rfl (Nat.le_of_ble_eq_true rfl) eX12_interpolates_87 ?_
            refine L89 bs 0 _ _ _ _ (by omega) (ipFr_b hF _ _) rfl (fun x hx => ?_) (fun x hx => by rw [sL_row (by decide)]; exact hf x hx)
            rw [show (0 : Int32).toNatClampNeg = 0 from rfl, sL_at, basF]
            by_cases q : x = 0
            · rw [if_pos q, if_pos q]; rfl
            · rw [if_neg q, if_neg q, hz x (by omega)]; rfl
          · exact absurd hb1 (by decide)
        | succ n2 ih2 =>
          intro j u b6 b7 b8 b9 b10 hj hF hz hf
          refine g_ild5 eX12_interpolates_52 ?_
          refine g_bipush (v := 14) (by decide) eX12_interpolates_54 ?_
          refine g_icmp_ge eX12_interpolates_56 (fun hb1 => ?_) (fun hb1 => ?_)
          · exact absurd hb1 (by rw [fa_le, nI_toInt (by omega)]; show ¬ ((14 : Int) ≤ j); omega)
          · refine g_ald0 eX12_interpolates_59 ?_
            refine g_getR (ci := 11) (j := 52) rfl (Nat.le_of_ble_eq_true rfl) (Nat.le_of_ble_eq_true rfl) (Nat.le_of_ble_eq_true rfl) rfl rfl fl_X12_106 eX12_interpolates_60 ?_
            refine g_ild5 eX12_interpolates_63 ?_
            refine g_lconst (v := 0) rfl eX12_interpolates_65 ?_
            refine g_last rfl (Nat.le_of_ble_eq_true rfl) (vp_in_nI (n := j) (N := 14) (by omega) (by decide)) eX12_interpolates_66 ?_
            rw [nI_clamp (by omega)]
            refine g_inc5 rfl (Nat.le_of_ble_eq_true rfl) rfl eX12_interpolates_67 ?_
            refine g_goto eX12_interpolates_70 ?_
            rw [inc1]
            refine ih2 (j + 1) _ _ _ _ _ _ (by omega) (ipFr_b hF _ _) (fun x hx => ?_) (fun x hx => by rw [sL_row (by decide)]; exact hf x hx)
            rw [sL_at]
            by_cases q : x = j
            · rw [if_pos q]
            · rw [if_neg q]; exact hz x (by omega)
      refine g_ild4 eX12_interpolates_40 ?_
      refine g_ald0 eX12_interpolates_42 ?_
      refine g_getI (ci := 11) (j := 17) rfl (Nat.le_of_ble_eq_true rfl) (Nat.le_of_ble_eq_true rfl) (Nat.le_of_ble_eq_true rfl) rfl fl_X12_174 eX12_interpolates_43 ?_
      rw [bse hF]
      refine g_icmp_ge eX12_interpolates_46 (fun hb => ?_) (fun hb => ?_)
      · exact absurd hb (by rw [fa_le, nI_toInt (by omega), nI_toInt (by omega)]; omega)
      · refine g_iconst (v := 0) (by decide) eX12_interpolates_49 ?_
        refine g_ist5 rfl (Nat.le_of_ble_eq_true rfl) eX12_interpolates_50 ?_
        exact L52 14 0 u _ _ _ _ _ (by omega) hF (fun x hx => by omega) hf
  have L9 : ∀ (n j : Nat) (u : St), j + n = bs → ipFr bs k st u → (∀ x, x < j → u.2 51 (13 * k + x) = 0) → G xp l xe (rmd (1)) xs xm xa xb xme xc D cy xad xA (YX12_interpolates.2.1, YX12_interpolates.1.cls, YX12_interpolates.2.2.1, YX12_interpolates.2.2.2) (Pv (fun u => ipFr bs k st u ∧ facP bs k u (acF bs e bs))) 9 ([some (.ref 31), some (.int (nI k)), some (.long (nI bs).toInt64), none, some (.int (nI j)), none, none, none, none, none, none]) ([]) (u) := by
    intro n
    induction n with
    | zero =>
      intro j u hj hF hz
      have e0 : j = bs := by omega
      rw [e0] at hz ⊢
      refine g_ild4 eX12_interpolates_9 ?_
      refine g_ald0 eX12_interpolates_11 ?_
      refine g_getI (ci := 11) (j := 17) rfl (Nat.le_of_ble_eq_true rfl) (Nat.le_of_ble_eq_true rfl) (Nat.le_of_ble_eq_true rfl) rfl fl_X12_174 eX12_interpolates_12 ?_
      rw [bse hF]
      refine g_icmp_ge eX12_interpolates_15 (fun hb1 => ?_) (fun hb1 => ?_)
      · refine g_iconst (v := 0) (by decide) eX12_interpolates_37 ?_
        refine g_ist4 rfl (Nat.le_of_ble_eq_true rfl) eX12_interpolates_38 ?_
        exact L40 bs 0 u _ _ _ _ _ _ (by omega) hF (fun x hx => by rw [hz x hx]; rfl)
      · exact absurd (Int32.le_refl _) hb1
    | succ n ih =>
      intro j u hj hF hz
      refine g_ild4 eX12_interpolates_9 ?_
      refine g_ald0 eX12_interpolates_11 ?_
      refine g_getI (ci := 11) (j := 17) rfl (Nat.le_of_ble_eq_true rfl) (Nat.le_of_ble_eq_true rfl) (Nat.le_of_ble_eq_true rfl) rfl fl_X12_174 eX12_interpolates_12 ?_
      rw [bse hF]
      refine g_icmp_ge eX12_interpolates_15 (fun hb1 => ?_) (fun hb1 => ?_)
      · exact absurd hb1 (by rw [fa_le, nI_toInt (by omega), nI_toInt (by omega)]; omega)
      · refine g_ald0 eX12_interpolates_18 ?_
        refine g_getR (ci := 11) (j := 35) rfl (Nat.le_of_ble_eq_true rfl) (Nat.le_of_ble_eq_true rfl) (Nat.le_of_ble_eq_true rfl) rfl rfl fl_X12_73 eX12_interpolates_19 ?_
        refine g_bipush (v := 13) (by decide) eX12_interpolates_22 ?_
        refine g_ild1 eX12_interpolates_24 ?_
        refine g_imul eX12_interpolates_25 ?_
        rw [m13]
        refine g_ild4 eX12_interpolates_26 ?_
        refine g_iadd eX12_interpolates_28 ?_
        rw [nI_add]
        refine g_lconst (v := 0) rfl eX12_interpolates_29 ?_
        refine g_last rfl (Nat.le_of_ble_eq_true rfl) (ix (by omega)) eX12_interpolates_30 ?_
        rw [cx (by omega)]
        refine g_inc4 rfl (Nat.le_of_ble_eq_true rfl) rfl eX12_interpolates_31 ?_
        refine g_goto eX12_interpolates_34 ?_
        rw [inc1]
        refine ih (j + 1) _ (by omega) (ipFr_f hF (by omega) _) (fun x hx => ?_)
        rw [sL_at]
        by_cases q : x = j
        · rw [if_pos (by omega)]
        · rw [if_neg (by omega)]; exact hz x (by omega)
  refine g_ald0 eX12_interpolates_0 ?_
  refine g_getI (ci := 11) (j := 17) rfl (Nat.le_of_ble_eq_true rfl) (Nat.le_of_ble_eq_true rfl) (Nat.le_of_ble_eq_true rfl) rfl fl_X12_174 eX12_interpolates_1 ?_
  rw [hbs.1]
  refine g_i2l eX12_interpolates_4 ?_
  refine g_lst2 rfl (Nat.le_of_ble_eq_true rfl) eX12_interpolates_5 ?_
  refine g_iconst (v := 0) (by decide) eX12_interpolates_6 ?_
  refine g_ist4 rfl (Nat.le_of_ble_eq_true rfl) eX12_interpolates_7 ?_
  exact L9 bs 0 st (by omega) (ipFr.refl _ _ _) (fun x hx => by omega)
end WINT
