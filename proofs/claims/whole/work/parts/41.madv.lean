/-! The model's advance, isFine, take, isSign, number, isName. -/
section
variable {ch : Nat → Nat} {n : Nat}
theorem cA_eq (hc : ∀ i, i < n → ch i < 256) {k c : Nat} (h2 : c < 256) : cA ch n k = nI c ↔ k < n ∧ ch k = c := by
  unfold cA
  split
  · rename_i q
    have := hc k q
    exact ⟨fun h => ⟨q, nI_pe (by omega) (by omega) h⟩, fun h => by rw [h.2]⟩
  · rename_i q
    refine ⟨fun h => ?_, fun h => absurd h.1 q⟩
    have h1 := congrArg Int32.toInt h
    rw [nI_toInt (by omega), show (-1 : Int32).toInt = -1 by decide] at h1; omega
theorem cA_in (hc : ∀ i, i < n → ch i < 256) {k lo hi : Nat} (h1 : lo < 256) (h2 : hi < 256) : decide (nI lo ≤ cA ch n k ∧ cA ch n k ≤ nI hi) = (decide (k < n) && decide (lo ≤ ch k ∧ ch k ≤ hi)) := by
  unfold cA
  by_cases q : k < n
  · have := hc k q
    rw [if_pos q, decide_eq_true q, Bool.true_and]
    congr 1
    rw [nI_leI (by omega) (by omega), nI_leI (by omega) (by omega)]
  · rw [if_neg q, decide_eq_false q, Bool.false_and]
    refine decide_eq_false (fun h => ?_)
    have h3 := (le_iff _ _).mp h.1
    rw [nI_toInt (by omega), show (-1 : Int32).toInt = -1 by decide] at h3; omega
theorem cA_neg (hc : ∀ i, i < n → ch i < 256) {k : Nat} : cA ch n k < 0 ↔ ¬ k < n := by
  unfold cA
  by_cases q : k < n
  · have := hc k q
    rw [if_pos q]; exact ⟨fun h => absurd h (nI_pos (by omega)), fun h => absurd q h⟩
  · rw [if_neg q]; exact ⟨fun _ => q, fun _ => by decide⟩
theorem word_tok {a : Nat} (hc : ∀ i, i < n → ch i < 256) (ha : a < n) (h : isLo (ch a) = true) : valM ch n a = valW ch a (tEnd ch n a - a) ∧ tokM ch n a = if valW ch a (tEnd ch n a - a) = -9 then 4 else 1 := by
  have hk : kKT ch n a = kwT ch a (tEnd ch n a - a) := by unfold kKT kdT; rw [if_pos ha, if_pos h]
  have hb := kwT_lt ch a (tEnd ch n a - a)
  have h97 := hc a ha
  unfold valM tokM valW
  rw [hk]
  generalize kwT ch a (tEnd ch n a - a) = t at hb
  rcases (show t = 256 ∨ t = 258 ∨ t = 259 ∨ t = 260 by omega) with rfl | rfl | rfl | rfl
  · exact ⟨rfl, rfl⟩
  · refine ⟨rfl, ?_⟩
    show (1 : Int32) = if nI (ch a - 97) = -9 then 4 else 1
    rw [if_neg (nI_ne_m9 (by omega))]
  · exact ⟨rfl, rfl⟩
  · exact ⟨rfl, rfl⟩
theorem dig_tok {a : Nat} (ha : a < n) (h : isDg (ch a) = true) : kKT ch n a = 257 ∧ valM ch n a = oN (numT ch n a) ∧ tokM ch n a = 2 := by
  have hl : isLo (ch a) = false := by unfold isDg at h; unfold isLo; simp at h ⊢; omega
  have hk : kKT ch n a = 257 := by unfold kKT kdT; rw [if_pos ha, if_neg (by rw [hl]; decide), ksC_dg h]
  unfold valM tokM
  rw [hk]; exact ⟨rfl, rfl, rfl⟩
theorem sig_tok {a : Nat} (hc : ∀ i, i < n → ch i < 256) (ha : a < n) (hl : isLo (ch a) = false) (hd : isDg (ch a) = false) : kKT ch n a = ch a ∧ valM ch n a = nI (ch a) ∧ tokM ch n a = if isSg (ch a) then 3 else 4 := by
  have hk : kKT ch n a = ch a := by unfold kKT kdT ksC; rw [if_pos ha, if_neg (by rw [hl]; decide), if_neg (by rw [hl]; decide), if_neg (by rw [hd]; decide)]
  have := hc a ha
  unfold valM tokM
  rw [hk]
  rw [if_neg (by omega), if_neg (by omega), if_neg (by omega), if_neg (by omega), if_neg (by omega), if_neg (by omega), if_neg (by omega), if_neg (by omega), if_neg (by omega), if_neg (by omega)]
  exact ⟨rfl, rfl, rfl⟩
theorem end_tok {a : Nat} (ha : ¬ a < n) : kKT ch n a = 261 ∧ valM ch n a = -1 ∧ tokM ch n a = 0 := by
  have hk : kKT ch n a = 261 := by unfold kKT; rw [if_neg ha]
  unfold valM tokM
  rw [hk]; exact ⟨rfl, rfl, rfl⟩
end
set_option maxRecDepth 100000 in
set_option maxHeartbeats 4000000 in
theorem ct_M_adv (G : Gl) (σ : SS) (n : Nat) (ch : Nat → Nat) (p : Nat) (hT : MT σ n ch) (h9 : σ.1 123 9 = nI p) (hp : p ≤ n) : CV G mX10_advance [Rf G 123] σ (fun σ1 => MK σ1 n ch (skipT ch n p) ∧ FM [9, 10, 11, 12] [] σ σ1) := by
  refine Ctr.of oX10_advance (Nat.le_of_ble_eq_true rfl) ?_
  intro X C R hnm hz0
  have C : Cx G X cX10_advance 3 RX10 2 44 0 0 := C
  have R : Cr G X none 0 0 _ := R
  show V G X 3 0 0 0 [(0, Rf G 123)] [] (wld G σ)
  have kk_123 := sk_123
  have kk_124 := sk_124
  have kk_125 := sk_125
  have kk_129 := sk_129
  have kk_130 := sk_130
  have hc := fun i hi => (hT.2.2 i hi).2
  obtain ⟨a, ha_⟩ : ∃ a, skipT ch n p = a := ⟨_, rfl⟩
  have hap_ : a ≤ n := by rw [← ha_]; exact runE_le hp
  rw [ha_] at R
  have t173 : ∀ (e : Nat) (σ2 : SS), e = tEnd ch n a → a < n → isDg (ch a) = true → σ2.1 123 9 = nI e → σ2.1 123 10 = nI a → FM [9, 10, 11, 12] [] σ σ2 → V G X 3 0 0 173 [(0, Rf G 123), (1, .int (nI (ch a)))] [] (wld G σ2) := by
    intro e σ2 he ha hd h9 h10 hF2
    obtain ⟨e1_, e2_⟩ := tEnd_gt (ch := ch) ha
    obtain ⟨dk_, dv_, dt_⟩ := dig_tok ha hd
    have hT2 := hT.fm hF2 (by decide) (by decide)
    have n200_ := hT.2.1
    have d0_ : 48 ≤ ch a ∧ ch a ≤ 57 := by unfold isDg at hd; simpa using hd
    refine V.aload_n C 0 rfl rfl dX10_advance_173 ?_
    refine V.getI C fX10_54 dX10_advance_174 (by assumption) rfl ?_
    rw [h9]
    refine V.aload_n C 0 rfl rfl dX10_advance_177 ?_
    refine V.getI C fX10_57 dX10_advance_178 (by assumption) rfl ?_
    rw [h10]
    refine V.isub C dX10_advance_181 ?_
    rw [nI_sub (by omega)]
    refine V.iconst C (nI 1) c_1 dX10_advance_182 ?_
    refine V.icmp_eq C 205 dX10_advance_183 rfl (fun hb_183 => ?_) (fun hb_183 => ?_)
    · have q183_ : e - a = 1 := nI_pe (by omega) (by decide) hb_183
      refine V.iconst C (nI 1) c_1 dX10_advance_205 ?_
      refine V.goto C 210 dX10_advance_206 rfl ?_
      refine V.istore_n C 2 dX10_advance_210 rfl (by decide) ?_
      refine V.aload_n C 0 rfl rfl dX10_advance_211 ?_
      refine V.iload_n C 2 rfl rfl dX10_advance_212 ?_
      refine V.if_ne C 221 dX10_advance_213 rfl (fun hb_213 => ?_) (fun hb_213 => ?_)
      · refine V.aload_n C 0 rfl rfl dX10_advance_221 ?_
        refine V.getI C fX10_54 dX10_advance_222 (by assumption) rfl ?_
        rw [h9]
        refine V.aload_n C 0 rfl rfl dX10_advance_225 ?_
        refine V.getI C fX10_57 dX10_advance_226 (by assumption) rfl ?_
        rw [h10]
        refine V.isub C dX10_advance_229 ?_
        rw [nI_sub (by omega)]
        refine V.iconst C (nI 1) c_1 dX10_advance_230 ?_
        refine V.icmp_ne C 241 dX10_advance_231 rfl (fun hb_231 => ?_) (fun hb_231 => ?_)
        · exact hb_231 (by rw [q183_]) |>.elim
        · have q231_ : e - a = 1 := nI_pe (by omega) (by decide) hb_231
          refine V.iload_n C 1 rfl rfl dX10_advance_234 ?_
          refine V.bipush C (nI 48) b_48 dX10_advance_235 ?_
          refine V.isub C dX10_advance_237 ?_
          rw [nI_sub (by omega)]
          refine V.goto C 263 dX10_advance_238 rfl ?_
          refine V.putI C fX10_68 dX10_advance_263 (by assumption) rfl ?_
          refine V.aload_n C 0 rfl rfl dX10_advance_266 ?_
          refine V.iconst C (nI 2) c_2 dX10_advance_267 ?_
          refine V.putI C fX10_71 dX10_advance_268 (by assumption) rfl ?_
          refine V.goto C 300 dX10_advance_271 rfl ?_
          exact V.vretS C R dX10_advance_300 (by
            refine ⟨⟨by omega, ?_, ?_, ?_, ?_⟩, (hF2.sF _ (by decide)).sF _ (by decide)⟩
            · rw [sF_ne _ _ (by omega), sF_ne _ _ (by omega), h9]; unfold endM; rw [if_pos (by omega), he]
            · rw [sF_ne _ _ (by omega), sF_ne _ _ (by omega), h10]
            · rw [sF_F, dt_]; rfl
            · rw [sF_ne _ _ (by omega), sF_F]
              symm
              rw [dv_]; unfold numT; rw [if_pos dk_, if_pos (by omega)]; rfl)
      · exact absurd hb_213 (by decide)
    · have q183_ : ¬ e - a = 1 := fun q => hb_183 (by rw [q])
      refine V.aload_n C 0 rfl rfl dX10_advance_186 ?_
      refine V.getI C fX10_54 dX10_advance_187 (by assumption) rfl ?_
      rw [h9]
      refine V.aload_n C 0 rfl rfl dX10_advance_190 ?_
      refine V.getI C fX10_57 dX10_advance_191 (by assumption) rfl ?_
      rw [h10]
      refine V.isub C dX10_advance_194 ?_
      rw [nI_sub (by omega)]
      refine V.iconst C (nI 2) c_2 dX10_advance_195 ?_
      refine V.icmp_ne C 209 dX10_advance_196 rfl (fun hb_196 => ?_) (fun hb_196 => ?_)
      · have q196_ : ¬ e - a = 2 := fun q => hb_196 (by rw [q])
        refine V.iconst C (nI 0) c_0 dX10_advance_209 ?_
        refine V.istore_n C 2 dX10_advance_210 rfl (by decide) ?_
        refine V.aload_n C 0 rfl rfl dX10_advance_211 ?_
        refine V.iload_n C 2 rfl rfl dX10_advance_212 ?_
        refine V.if_ne C 221 dX10_advance_213 rfl (fun hb_213 => ?_) (fun hb_213 => ?_)
        · exact absurd rfl hb_213
        · refine V.bipush C ((-9)) b_m9 dX10_advance_216 ?_
          refine V.goto C 263 dX10_advance_218 rfl ?_
          refine V.putI C fX10_68 dX10_advance_263 (by assumption) rfl ?_
          refine V.aload_n C 0 rfl rfl dX10_advance_266 ?_
          refine V.iconst C (nI 2) c_2 dX10_advance_267 ?_
          refine V.putI C fX10_71 dX10_advance_268 (by assumption) rfl ?_
          refine V.goto C 300 dX10_advance_271 rfl ?_
          exact V.vretS C R dX10_advance_300 (by
            refine ⟨⟨by omega, ?_, ?_, ?_, ?_⟩, (hF2.sF _ (by decide)).sF _ (by decide)⟩
            · rw [sF_ne _ _ (by omega), sF_ne _ _ (by omega), h9]; unfold endM; rw [if_pos (by omega), he]
            · rw [sF_ne _ _ (by omega), sF_ne _ _ (by omega), h10]
            · rw [sF_F, dt_]; rfl
            · rw [sF_ne _ _ (by omega), sF_F]
              symm
              rw [dv_]; unfold numT; rw [if_pos dk_, if_neg (by omega), if_neg (by omega)]; rfl)
      · have q196_ : e - a = 2 := nI_pe (by omega) (by decide) hb_196
        refine V.iload_n C 1 rfl rfl dX10_advance_199 ?_
        refine V.bipush C (nI 48) b_48 dX10_advance_200 ?_
        refine V.icmp_eq C 209 dX10_advance_202 rfl (fun hb_202 => ?_) (fun hb_202 => ?_)
        · have q202_ : ch a = 48 := nI_pe (by omega) (by decide) hb_202
          refine V.iconst C (nI 0) c_0 dX10_advance_209 ?_
          refine V.istore_n C 2 dX10_advance_210 rfl (by decide) ?_
          refine V.aload_n C 0 rfl rfl dX10_advance_211 ?_
          refine V.iload_n C 2 rfl rfl dX10_advance_212 ?_
          refine V.if_ne C 221 dX10_advance_213 rfl (fun hb_213 => ?_) (fun hb_213 => ?_)
          · exact absurd rfl hb_213
          · refine V.bipush C ((-9)) b_m9 dX10_advance_216 ?_
            refine V.goto C 263 dX10_advance_218 rfl ?_
            refine V.putI C fX10_68 dX10_advance_263 (by assumption) rfl ?_
            refine V.aload_n C 0 rfl rfl dX10_advance_266 ?_
            refine V.iconst C (nI 2) c_2 dX10_advance_267 ?_
            refine V.putI C fX10_71 dX10_advance_268 (by assumption) rfl ?_
            refine V.goto C 300 dX10_advance_271 rfl ?_
            exact V.vretS C R dX10_advance_300 (by
              refine ⟨⟨by omega, ?_, ?_, ?_, ?_⟩, (hF2.sF _ (by decide)).sF _ (by decide)⟩
              · rw [sF_ne _ _ (by omega), sF_ne _ _ (by omega), h9]; unfold endM; rw [if_pos (by omega), he]
              · rw [sF_ne _ _ (by omega), sF_ne _ _ (by omega), h10]
              · rw [sF_F, dt_]; rfl
              · rw [sF_ne _ _ (by omega), sF_F]
                symm
                rw [dv_]; unfold numT; rw [if_pos dk_, if_neg (by omega), if_neg (fun q => q.2 q202_)]; rfl)
        · have q202_ : ¬ ch a = 48 := fun q => hb_202 (by rw [q])
          refine V.iconst C (nI 1) c_1 dX10_advance_205 ?_
          refine V.goto C 210 dX10_advance_206 rfl ?_
          refine V.istore_n C 2 dX10_advance_210 rfl (by decide) ?_
          refine V.aload_n C 0 rfl rfl dX10_advance_211 ?_
          refine V.iload_n C 2 rfl rfl dX10_advance_212 ?_
          refine V.if_ne C 221 dX10_advance_213 rfl (fun hb_213 => ?_) (fun hb_213 => ?_)
          · refine V.aload_n C 0 rfl rfl dX10_advance_221 ?_
            refine V.getI C fX10_54 dX10_advance_222 (by assumption) rfl ?_
            rw [h9]
            refine V.aload_n C 0 rfl rfl dX10_advance_225 ?_
            refine V.getI C fX10_57 dX10_advance_226 (by assumption) rfl ?_
            rw [h10]
            refine V.isub C dX10_advance_229 ?_
            rw [nI_sub (by omega)]
            refine V.iconst C (nI 1) c_1 dX10_advance_230 ?_
            refine V.icmp_ne C 241 dX10_advance_231 rfl (fun hb_231 => ?_) (fun hb_231 => ?_)
            · have q231_ : ¬ e - a = 1 := fun q => hb_231 (by rw [q])
              have d1_ := dg_run (n := n) (j := a + 1) hd (by omega) (by omega)
              have d1_ : 48 ≤ ch (a + 1) ∧ ch (a + 1) ≤ 57 := by unfold isDg at d1_; simpa using d1_
              refine V.bipush C (nI 10) b_10 dX10_advance_241 ?_
              refine V.iload_n C 1 rfl rfl dX10_advance_243 ?_
              refine V.bipush C (nI 48) b_48 dX10_advance_244 ?_
              refine V.isub C dX10_advance_246 ?_
              rw [nI_sub (by omega)]
              refine V.imul C dX10_advance_247 ?_
              refine V.aload_n C 0 rfl rfl dX10_advance_248 ?_
              refine V.getR C fX10_26 dX10_advance_249 (by assumption) rfl ?_
              refine V.aload_n C 0 rfl rfl dX10_advance_252 ?_
              refine V.getI C fX10_57 dX10_advance_253 (by assumption) rfl ?_
              rw [h10]
              refine V.iconst C (nI 1) c_1 dX10_advance_256 ?_
              refine V.iadd C dX10_advance_257 ?_
              rw [nI_add]
              refine V.ialdN C dX10_advance_258 (by assumption) (by omega) ?_
              rw [(hT2.2.2 _ (by omega)).1]
              refine V.iadd C dX10_advance_259 ?_
              refine V.bipush C (nI 48) b_48 dX10_advance_260 ?_
              refine V.isub C dX10_advance_262 ?_
              rw [show nI 10 * nI (ch a - 48) + nI (ch (a + 1)) - nI 48 = nI (10 * (ch a - 48) + (ch (a + 1) - 48)) by rw [nI_mul, nI_add, nI_sub (by omega)]; congr 1; omega]
              refine V.putI C fX10_68 dX10_advance_263 (by assumption) rfl ?_
              refine V.aload_n C 0 rfl rfl dX10_advance_266 ?_
              refine V.iconst C (nI 2) c_2 dX10_advance_267 ?_
              refine V.putI C fX10_71 dX10_advance_268 (by assumption) rfl ?_
              refine V.goto C 300 dX10_advance_271 rfl ?_
              exact V.vretS C R dX10_advance_300 (by
                refine ⟨⟨by omega, ?_, ?_, ?_, ?_⟩, (hF2.sF _ (by decide)).sF _ (by decide)⟩
                · rw [sF_ne _ _ (by omega), sF_ne _ _ (by omega), h9]; unfold endM; rw [if_pos (by omega), he]
                · rw [sF_ne _ _ (by omega), sF_ne _ _ (by omega), h10]
                · rw [sF_F, dt_]; rfl
                · rw [sF_ne _ _ (by omega), sF_F]
                  symm
                  rw [dv_]; unfold numT; rw [if_pos dk_, if_neg (by omega), if_pos ⟨by omega, q202_⟩]; rfl)
            · exact absurd (nI_pe (by omega) (by decide) hb_231) q183_
          · exact absurd hb_213 (by decide)
  have loopD : ∀ (m q : Nat) (σ2 : SS), n < q + m → q ≤ n → a < n → isDg (ch a) = true → runE (fun q => isDg (ch q)) n q = tEnd ch n a → σ2.1 123 9 = nI q → σ2.1 123 10 = nI a → FM [9, 10, 11, 12] [] σ σ2 → V G X 3 0 0 142 [(0, Rf G 123), (1, .int (nI (ch a)))] [] (wld G σ2) := by
    intro m
    induction m with
    | zero =>
      intro q σ2 hm hq ha hd hr h9 h10 hF2
      exact absurd hm (by omega)
    | succ m ih =>
      intro q σ2 hm hq ha hd hr h9 h10 hF2
      have hT2 := hT.fm hF2 (by decide) (by decide)
      have n200_ := hT.2.1
      refine V.aload_n C 0 rfl rfl dX10_advance_142 ?_
      refine V.aload_n C 0 rfl rfl dX10_advance_143 ?_
      refine V.getI C fX10_54 dX10_advance_144 (by assumption) rfl ?_
      rw [h9]
      refine V.cVi C lX10_64 oX10_characterAt dX10_advance_147 (ct_M_char G σ2 n ch q hT2 (by omega)) (by assumption) rfl rfl (Nat.le_of_ble_eq_true rfl) ⟨Nat.le_of_ble_eq_true rfl, Nat.le_of_ble_eq_true rfl⟩ ⟨Nat.le_of_ble_eq_true rfl, Nat.le_of_ble_eq_true rfl⟩ (fun rr_147 σ147 pp_147 => ?_)
      obtain ⟨ee_147, ff_147⟩ := pp_147
      rw [ee_147, ff_147]
      refine V.bipush C (nI 48) b_48 dX10_advance_150 ?_
      refine V.bipush C (nI 57) b_57 dX10_advance_152 ?_
      refine V.cSi C lX10_60 oX10_in dX10_advance_154 (ct_M_in G σ2 (cA ch n q) (nI 48) (nI 57)) rfl rfl (Nat.le_of_ble_eq_true rfl) ⟨Nat.le_of_ble_eq_true rfl, Nat.le_of_ble_eq_true rfl⟩ ⟨Nat.le_of_ble_eq_true rfl, Nat.le_of_ble_eq_true rfl⟩ (fun rr_154 σ154 pp_154 => ?_)
      obtain ⟨ee_154, ff_154⟩ := pp_154
      rw [ee_154, ff_154, cA_in hc (by decide) (by decide)]
      refine V.if_eq C 173 dX10_advance_157 rfl (fun hb_157 => ?_) (fun hb_157 => ?_)
      · have z_ : ¬ (q < n ∧ isDg (ch q) = true) := by
          have := bI_eq0 hb_157
          unfold isDg
          intro h
          rw [decide_eq_true h.1, h.2] at this
          exact absurd this (by decide)
        exact t173 q σ2 (by rw [← hr, runE_stop (f := fun q => isDg (ch q)) z_]) ha hd h9 h10 hF2
      · have z_ : q < n ∧ isDg (ch q) = true := by
          have := bI_ne0 hb_157
          rw [Bool.and_eq_true] at this
          exact ⟨of_decide_eq_true this.1, this.2⟩
        refine V.aload_n C 0 rfl rfl dX10_advance_160 ?_
        refine V.dup C rfl dX10_advance_161 ?_
        refine V.getI C fX10_54 dX10_advance_162 (by assumption) rfl ?_
        rw [h9]
        refine V.iconst C (nI 1) c_1 dX10_advance_165 ?_
        refine V.iadd C dX10_advance_166 ?_
        rw [nI_add]
        refine V.putI C fX10_54 dX10_advance_167 (by assumption) rfl ?_
        refine V.goto C 142 dX10_advance_170 rfl ?_
        refine V.lvs (lv' := [(0, Rf G 123), (1, .int (nI (ch a)))]) rfl ?_
        exact ih (q + 1) _ (by omega) (by omega) ha hd (by rw [← hr, runE_step (f := fun q => isDg (ch q)) z_.1 z_.2]) (sF_F _ _ _ _) (by rw [sF_ne _ _ (by omega)]; exact h10) (hF2.sF _ (by decide))
  have t102 : ∀ (e : Nat) (σ2 : SS), e = tEnd ch n a → a < n → isLo (ch a) = true → σ2.1 123 9 = nI e → σ2.1 123 10 = nI a → FM [9, 10, 11, 12] [] σ σ2 → V G X 3 0 0 102 [(0, Rf G 123), (1, .int (nI (ch a)))] [] (wld G σ2) := by
    intro e σ2 he ha hd h9 h10 hF2
    obtain ⟨e1_, e2_⟩ := tEnd_gt (ch := ch) ha
    have wt_ := word_tok hc ha hd
    have hT2 := hT.fm hF2 (by decide) (by decide)
    have n200_ := hT.2.1
    refine V.aload_n C 0 rfl rfl dX10_advance_102 ?_
    refine V.aload_n C 0 rfl rfl dX10_advance_103 ?_
    refine V.cVi C lX10_74 oX10_wordOf dX10_advance_104 (ct_M_word G σ2 n ch a e hT2 h9 h10 (by omega) (by omega) (by have := hd; unfold isLo at this; have := of_decide_eq_true this; omega)) (by assumption) rfl rfl (Nat.le_of_ble_eq_true rfl) ⟨Nat.le_of_ble_eq_true rfl, Nat.le_of_ble_eq_true rfl⟩ ⟨Nat.le_of_ble_eq_true rfl, Nat.le_of_ble_eq_true rfl⟩ (fun rr_104 σ104 pp_104 => ?_)
    obtain ⟨ee_104, ff_104⟩ := pp_104
    rw [ee_104, ff_104]
    refine V.putI C fX10_68 dX10_advance_107 (by assumption) rfl ?_
    refine V.aload_n C 0 rfl rfl dX10_advance_110 ?_
    refine V.aload_n C 0 rfl rfl dX10_advance_111 ?_
    refine V.getI C fX10_68 dX10_advance_112 (by assumption) rfl ?_
    rw [sF_F]
    refine V.bipush C ((-9)) b_m9 dX10_advance_115 ?_
    refine V.icmp_ne C 124 dX10_advance_117 rfl (fun hb_117 => ?_) (fun hb_117 => ?_)
    · have z_ : tokM ch n a = 1 := by rw [wt_.2, ← he, if_neg hb_117]
      refine V.iconst C (nI 1) c_1 dX10_advance_124 ?_
      refine V.putI C fX10_71 dX10_advance_125 (by assumption) rfl ?_
      refine V.goto C 300 dX10_advance_128 rfl ?_
      exact V.vretS C R dX10_advance_300 (by
        refine ⟨⟨by omega, ?_, ?_, ?_, ?_⟩, (hF2.sF _ (by decide)).sF _ (by decide)⟩
        · rw [sF_ne _ _ (by omega), sF_ne _ _ (by omega), h9]; unfold endM; rw [if_pos (by omega), he]
        · rw [sF_ne _ _ (by omega), sF_ne _ _ (by omega), h10]
        · rw [sF_F, z_]; rfl
        · rw [sF_ne _ _ (by omega), sF_F, wt_.1, he])
    · have z_ : tokM ch n a = 4 := by rw [wt_.2, ← he, if_pos hb_117]
      refine V.iconst C (nI 4) c_4 dX10_advance_120 ?_
      refine V.goto C 125 dX10_advance_121 rfl ?_
      refine V.putI C fX10_71 dX10_advance_125 (by assumption) rfl ?_
      refine V.goto C 300 dX10_advance_128 rfl ?_
      exact V.vretS C R dX10_advance_300 (by
        refine ⟨⟨by omega, ?_, ?_, ?_, ?_⟩, (hF2.sF _ (by decide)).sF _ (by decide)⟩
        · rw [sF_ne _ _ (by omega), sF_ne _ _ (by omega), h9]; unfold endM; rw [if_pos (by omega), he]
        · rw [sF_ne _ _ (by omega), sF_ne _ _ (by omega), h10]
        · rw [sF_F, z_]; rfl
        · rw [sF_ne _ _ (by omega), sF_F, wt_.1, he])
  have loopL : ∀ (m q : Nat) (σ2 : SS), n < q + m → q ≤ n → a < n → isLo (ch a) = true → runE (fun q => isLo (ch q)) n q = tEnd ch n a → σ2.1 123 9 = nI q → σ2.1 123 10 = nI a → FM [9, 10, 11, 12] [] σ σ2 → V G X 3 0 0 71 [(0, Rf G 123), (1, .int (nI (ch a)))] [] (wld G σ2) := by
    intro m
    induction m with
    | zero =>
      intro q σ2 hm hq ha hd hr h9 h10 hF2
      exact absurd hm (by omega)
    | succ m ih =>
      intro q σ2 hm hq ha hd hr h9 h10 hF2
      have hT2 := hT.fm hF2 (by decide) (by decide)
      have n200_ := hT.2.1
      refine V.aload_n C 0 rfl rfl dX10_advance_71 ?_
      refine V.aload_n C 0 rfl rfl dX10_advance_72 ?_
      refine V.getI C fX10_54 dX10_advance_73 (by assumption) rfl ?_
      rw [h9]
      refine V.cVi C lX10_64 oX10_characterAt dX10_advance_76 (ct_M_char G σ2 n ch q hT2 (by omega)) (by assumption) rfl rfl (Nat.le_of_ble_eq_true rfl) ⟨Nat.le_of_ble_eq_true rfl, Nat.le_of_ble_eq_true rfl⟩ ⟨Nat.le_of_ble_eq_true rfl, Nat.le_of_ble_eq_true rfl⟩ (fun rr_76 σ76 pp_76 => ?_)
      obtain ⟨ee_76, ff_76⟩ := pp_76
      rw [ee_76, ff_76]
      refine V.bipush C (nI 97) b_97 dX10_advance_79 ?_
      refine V.bipush C (nI 122) b_122 dX10_advance_81 ?_
      refine V.cSi C lX10_60 oX10_in dX10_advance_83 (ct_M_in G σ2 (cA ch n q) (nI 97) (nI 122)) rfl rfl (Nat.le_of_ble_eq_true rfl) ⟨Nat.le_of_ble_eq_true rfl, Nat.le_of_ble_eq_true rfl⟩ ⟨Nat.le_of_ble_eq_true rfl, Nat.le_of_ble_eq_true rfl⟩ (fun rr_83 σ83 pp_83 => ?_)
      obtain ⟨ee_83, ff_83⟩ := pp_83
      rw [ee_83, ff_83, cA_in hc (by decide) (by decide)]
      refine V.if_eq C 102 dX10_advance_86 rfl (fun hb_86 => ?_) (fun hb_86 => ?_)
      · have z_ : ¬ (q < n ∧ isLo (ch q) = true) := by
          have := bI_eq0 hb_86
          unfold isLo
          intro h
          rw [decide_eq_true h.1, h.2] at this
          exact absurd this (by decide)
        exact t102 q σ2 (by rw [← hr, runE_stop (f := fun q => isLo (ch q)) z_]) ha hd h9 h10 hF2
      · have z_ : q < n ∧ isLo (ch q) = true := by
          have := bI_ne0 hb_86
          rw [Bool.and_eq_true] at this
          exact ⟨of_decide_eq_true this.1, this.2⟩
        refine V.aload_n C 0 rfl rfl dX10_advance_89 ?_
        refine V.dup C rfl dX10_advance_90 ?_
        refine V.getI C fX10_54 dX10_advance_91 (by assumption) rfl ?_
        rw [h9]
        refine V.iconst C (nI 1) c_1 dX10_advance_94 ?_
        refine V.iadd C dX10_advance_95 ?_
        rw [nI_add]
        refine V.putI C fX10_54 dX10_advance_96 (by assumption) rfl ?_
        refine V.goto C 71 dX10_advance_99 rfl ?_
        refine V.lvs (lv' := [(0, Rf G 123), (1, .int (nI (ch a)))]) rfl ?_
        exact ih (q + 1) _ (by omega) (by omega) ha hd (by rw [← hr, runE_step (f := fun q => isLo (ch q)) z_.1 z_.2]) (sF_F _ _ _ _) (by rw [sF_ne _ _ (by omega)]; exact h10) (hF2.sF _ (by decide))
  have t26 : ∀ (σ1 : SS), σ1.1 123 9 = nI a → FM [9, 10, 11, 12] [] σ σ1 → V G X 3 0 0 26 [(0, Rf G 123)] [] (wld G σ1) := by
    intro σ1 h9 hF1
    have n200_ := hT.2.1
    refine V.aload_n C 0 rfl rfl dX10_advance_26 ?_
    refine V.aload_n C 0 rfl rfl dX10_advance_27 ?_
    refine V.getI C fX10_54 dX10_advance_28 (by assumption) rfl ?_
    rw [h9]
    refine V.putI C fX10_57 dX10_advance_31 (by assumption) rfl ?_
    refine V.aload_n C 0 rfl rfl dX10_advance_34 ?_
    refine V.aload_n C 0 rfl rfl dX10_advance_35 ?_
    refine V.getI C fX10_54 dX10_advance_36 (by assumption) rfl ?_
    rw [sF_ne _ _ (by omega), h9]
    refine V.cVi C lX10_64 oX10_characterAt dX10_advance_39 (ct_M_char G _ n ch a ((hT.fm hF1 (by decide) (by decide)).fm ((FM.refl [10] [] σ1).sF (nI a) (by decide)) (by decide) (by decide)) (by omega)) (by assumption) rfl rfl (Nat.le_of_ble_eq_true rfl) ⟨Nat.le_of_ble_eq_true rfl, Nat.le_of_ble_eq_true rfl⟩ ⟨Nat.le_of_ble_eq_true rfl, Nat.le_of_ble_eq_true rfl⟩ (fun rr_39 σ39 pp_39 => ?_)
    obtain ⟨ee_39, ff_39⟩ := pp_39
    rw [ee_39, ff_39]
    refine V.istore_n C 1 dX10_advance_42 rfl (by decide) ?_
    refine V.aload_n C 0 rfl rfl dX10_advance_43 ?_
    refine V.iload_n C 1 rfl rfl dX10_advance_44 ?_
    refine V.putI C fX10_68 dX10_advance_45 (by assumption) rfl ?_
    obtain ⟨σb, eb_⟩ : ∃ σb, σb = sF (sF σ1 123 10 (nI a)) 123 12 (cA ch n a) := ⟨_, rfl⟩
    rw [← eb_]
    have b9_ : σb.1 123 9 = nI a := by rw [eb_, sF_ne _ _ (by omega), sF_ne _ _ (by omega)]; exact h9
    have b10_ : σb.1 123 10 = nI a := by rw [eb_, sF_ne _ _ (by omega), sF_F]
    have b12_ : σb.1 123 12 = cA ch n a := by rw [eb_, sF_F]
    have Fb_ : FM [9, 10, 11, 12] [] σ σb := by rw [eb_]; exact (hF1.sF _ (by decide)).sF _ (by decide)
    refine V.iload_n C 1 rfl rfl dX10_advance_48 ?_
    refine V.if_ge C 60 dX10_advance_49 rfl (fun hb_49 => ?_) (fun hb_49 => ?_)
    · have z49_ : a < n := Decidable.byContradiction (fun q => absurd ((cA_neg hc).mpr q) (Int32.not_lt.mpr hb_49))
      have c49_ : cA ch n a = nI (ch a) := by unfold cA; rw [if_pos z49_]
      rw [c49_] at b12_ ⊢
      have c256_ := hc a z49_
      have in_ : ∀ lo hi : Nat, lo < 256 → hi < 256 → decide (nI lo ≤ nI (ch a) ∧ nI (ch a) ≤ nI hi) = decide (lo ≤ ch a ∧ ch a ≤ hi) := fun lo hi l1 l2 => by
        rw [← c49_, cA_in hc l1 l2, decide_eq_true z49_, Bool.true_and]
      refine V.iload_n C 1 rfl rfl dX10_advance_60 ?_
      refine V.bipush C (nI 97) b_97 dX10_advance_61 ?_
      refine V.bipush C (nI 122) b_122 dX10_advance_63 ?_
      refine V.cSi C lX10_60 oX10_in dX10_advance_65 (ct_M_in G σb (nI (ch a)) (nI 97) (nI 122)) rfl rfl (Nat.le_of_ble_eq_true rfl) ⟨Nat.le_of_ble_eq_true rfl, Nat.le_of_ble_eq_true rfl⟩ ⟨Nat.le_of_ble_eq_true rfl, Nat.le_of_ble_eq_true rfl⟩ (fun rr_65 σ65 pp_65 => ?_)
      obtain ⟨ee_65, ff_65⟩ := pp_65
      rw [ee_65, ff_65]
      refine V.if_eq C 131 dX10_advance_68 rfl (fun hb_68 => ?_) (fun hb_68 => ?_)
      · have lo_ : isLo (ch a) = false := by have := bI_eq0 hb_68; rw [in_ 97 122 (by decide) (by decide)] at this; exact this
        refine V.iload_n C 1 rfl rfl dX10_advance_131 ?_
        refine V.bipush C (nI 48) b_48 dX10_advance_132 ?_
        refine V.bipush C (nI 57) b_57 dX10_advance_134 ?_
        refine V.cSi C lX10_60 oX10_in dX10_advance_136 (ct_M_in G σb (nI (ch a)) (nI 48) (nI 57)) rfl rfl (Nat.le_of_ble_eq_true rfl) ⟨Nat.le_of_ble_eq_true rfl, Nat.le_of_ble_eq_true rfl⟩ ⟨Nat.le_of_ble_eq_true rfl, Nat.le_of_ble_eq_true rfl⟩ (fun rr_136 σ136 pp_136 => ?_)
        obtain ⟨ee_136, ff_136⟩ := pp_136
        rw [ee_136, ff_136]
        refine V.if_eq C 274 dX10_advance_139 rfl (fun hb_139 => ?_) (fun hb_139 => ?_)
        · have dg_ : isDg (ch a) = false := by have := bI_eq0 hb_139; rw [in_ 48 57 (by decide) (by decide)] at this; exact this
          obtain ⟨sk_, sv_, st_⟩ := sig_tok hc z49_ lo_ dg_
          refine V.aload_n C 0 rfl rfl dX10_advance_274 ?_
          refine V.dup C rfl dX10_advance_275 ?_
          refine V.getI C fX10_54 dX10_advance_276 (by assumption) rfl ?_
          rw [b9_]
          refine V.iconst C (nI 1) c_1 dX10_advance_279 ?_
          refine V.iadd C dX10_advance_280 ?_
          rw [nI_add]
          refine V.putI C fX10_54 dX10_advance_281 (by assumption) rfl ?_
          refine V.aload_n C 0 rfl rfl dX10_advance_284 ?_
          refine V.iload_n C 1 rfl rfl dX10_advance_285 ?_
          refine V.cSi C lX10_78 oX10_isSignCharacter dX10_advance_286 (ct_M_sg G _ (ch a) (hc a z49_)) rfl rfl (Nat.le_of_ble_eq_true rfl) ⟨Nat.le_of_ble_eq_true rfl, Nat.le_of_ble_eq_true rfl⟩ ⟨Nat.le_of_ble_eq_true rfl, Nat.le_of_ble_eq_true rfl⟩ (fun rr_286 σ286 pp_286 => ?_)
          obtain ⟨ee_286, ff_286⟩ := pp_286
          rw [ee_286, ff_286]
          refine V.if_eq C 296 dX10_advance_289 rfl (fun hb_289 => ?_) (fun hb_289 => ?_)
          · have sg_ := bI_eq0 hb_289
            rw [sg_] at st_
            refine V.iconst C (nI 4) c_4 dX10_advance_296 ?_
            refine V.putI C fX10_71 dX10_advance_297 (by assumption) rfl ?_
            exact V.vretS C R dX10_advance_300 (by
              refine ⟨⟨by omega, ?_, ?_, ?_, ?_⟩, (Fb_.sF _ (by decide)).sF _ (by decide)⟩
              · rw [sF_ne _ _ (by omega), sF_F]; unfold endM tEnd; rw [if_pos z49_, if_neg (by rw [lo_]; decide), if_neg (by rw [dg_]; decide)]
              · rw [sF_ne _ _ (by omega), sF_ne _ _ (by omega), b10_]
              · rw [sF_F, st_]; rfl
              · rw [sF_ne _ _ (by omega), sF_ne _ _ (by omega), b12_, sv_])
          · have sg_ := bI_ne0 hb_289
            rw [sg_] at st_
            refine V.iconst C (nI 3) c_3 dX10_advance_292 ?_
            refine V.goto C 297 dX10_advance_293 rfl ?_
            refine V.putI C fX10_71 dX10_advance_297 (by assumption) rfl ?_
            exact V.vretS C R dX10_advance_300 (by
              refine ⟨⟨by omega, ?_, ?_, ?_, ?_⟩, (Fb_.sF _ (by decide)).sF _ (by decide)⟩
              · rw [sF_ne _ _ (by omega), sF_F]; unfold endM tEnd; rw [if_pos z49_, if_neg (by rw [lo_]; decide), if_neg (by rw [dg_]; decide)]
              · rw [sF_ne _ _ (by omega), sF_ne _ _ (by omega), b10_]
              · rw [sF_F, st_]; rfl
              · rw [sF_ne _ _ (by omega), sF_ne _ _ (by omega), b12_, sv_])
        · have dg_ : isDg (ch a) = true := by have := bI_ne0 hb_139; rw [in_ 48 57 (by decide) (by decide)] at this; exact this
          refine V.lvs (lv' := [(0, Rf G 123), (1, .int (nI (ch a)))]) rfl ?_
          exact loopD (n + 1) a σb (by omega) (by omega) z49_ dg_ (by unfold tEnd; rw [if_neg (by rw [lo_]; decide), if_pos dg_]) b9_ b10_ Fb_
      · have lo_ : isLo (ch a) = true := by have := bI_ne0 hb_68; rw [in_ 97 122 (by decide) (by decide)] at this; exact this
        refine V.lvs (lv' := [(0, Rf G 123), (1, .int (nI (ch a)))]) rfl ?_
        exact loopL (n + 1) a σb (by omega) (by omega) z49_ lo_ (by unfold tEnd; rw [if_pos lo_]) b9_ b10_ Fb_
    · have z49_ : ¬ a < n := (cA_neg hc).mp (Int32.not_le.mp hb_49)
      refine V.aload_n C 0 rfl rfl dX10_advance_52 ?_
      refine V.iconst C (nI 0) c_0 dX10_advance_53 ?_
      refine V.putI C fX10_71 dX10_advance_54 (by assumption) rfl ?_
      refine V.goto C 300 dX10_advance_57 rfl ?_
      exact V.vretS C R dX10_advance_300 (by
        obtain ⟨_, ev_, et_⟩ := end_tok (ch := ch) z49_
        refine ⟨⟨by omega, ?_, ?_, ?_, ?_⟩, Fb_.sF _ (by decide)⟩
        · rw [sF_ne _ _ (by omega), b9_]; unfold endM; rw [if_neg z49_]
        · rw [sF_ne _ _ (by omega), b10_]
        · rw [sF_F, et_]; rfl
        · rw [sF_ne _ _ (by omega), b12_, ev_]; unfold cA; rw [if_neg z49_])
  have loop1 : ∀ (m q : Nat) (σ1 : SS), n < q + m → q ≤ n → skipT ch n q = skipT ch n p → σ1.1 123 9 = nI q → FM [9, 10, 11, 12] [] σ σ1 → V G X 3 0 0 0 [(0, Rf G 123)] [] (wld G σ1) := by
    intro m
    induction m with
    | zero =>
      intro q σ1 hm hq hr h9 hF1
      exact absurd hm (by omega)
    | succ m ih =>
      intro q σ1 hm hq hr h9 hF1
      have n200_ := hT.2.1
      refine V.aload_n C 0 rfl rfl dX10_advance_0 ?_
      refine V.aload_n C 0 rfl rfl dX10_advance_1 ?_
      refine V.getI C fX10_54 dX10_advance_2 (by assumption) rfl ?_
      rw [h9]
      refine V.cVi C lX10_64 oX10_characterAt dX10_advance_5 (ct_M_char G σ1 n ch q (hT.fm hF1 (by decide) (by decide)) (by omega)) (by assumption) rfl rfl (Nat.le_of_ble_eq_true rfl) ⟨Nat.le_of_ble_eq_true rfl, Nat.le_of_ble_eq_true rfl⟩ ⟨Nat.le_of_ble_eq_true rfl, Nat.le_of_ble_eq_true rfl⟩ (fun rr_5 σ5 pp_5 => ?_)
      obtain ⟨ee_5, ff_5⟩ := pp_5
      rw [ee_5, ff_5]
      refine V.bipush C (nI 32) b_32 dX10_advance_8 ?_
      refine V.icmp_ne C 26 dX10_advance_10 rfl (fun hb_10 => ?_) (fun hb_10 => ?_)
      · have z_ : ¬ (q < n ∧ ch q = 32) := fun h => hb_10 ((cA_eq hc (by decide)).mpr h)
        have e_ : q = a := by
          rw [← ha_, ← hr]; unfold skipT
          rw [runE_stop (f := fun q => decide (ch q = 32)) (fun h => z_ ⟨h.1, of_decide_eq_true h.2⟩)]
        exact t26 σ1 (by rw [h9, e_]) hF1
      · have z_ := (cA_eq hc (by decide)).mp hb_10
        refine V.aload_n C 0 rfl rfl dX10_advance_13 ?_
        refine V.dup C rfl dX10_advance_14 ?_
        refine V.getI C fX10_54 dX10_advance_15 (by assumption) rfl ?_
        rw [h9]
        refine V.iconst C (nI 1) c_1 dX10_advance_18 ?_
        refine V.iadd C dX10_advance_19 ?_
        rw [nI_add]
        refine V.putI C fX10_54 dX10_advance_20 (by assumption) rfl ?_
        refine V.goto C 0 dX10_advance_23 rfl ?_
        refine V.lvs (lv' := [(0, Rf G 123)]) rfl ?_
        exact ih (q + 1) _ (by omega) (by omega) (by rw [← hr]; unfold skipT; rw [← runE_step (f := fun q => decide (ch q = 32)) z_.1 (decide_eq_true z_.2)]) (sF_F _ _ _ _) (hF1.sF _ (by decide))
  exact loop1 (n + 1) p σ (by omega) hp rfl h9 (FM.refl _ _ _)
