/-! Text.split: the tokens. -/
def kdT (ch : Nat → Nat) (n a : Nat) : Nat := if isLo (ch a) then kwT ch a (tEnd ch n a - a) else ksC (ch a)
theorem scan_ext {ch : Nat → Nat} {i : Nat} {t : Nat × Nat} {r : List (Nat × Nat)} (h : ScanR ch i (t :: r)) (he : extT ch i = true) : t.1 + t.2 = i ∧ ScanR ch (i + 1) ((t.1, t.2 + 1) :: r) := by
  obtain ⟨h1, h2, h3, h4, h5, h6, h7, h8⟩ := h
  have he2 : 0 < i ∧ isRun (ksT ch i) = true ∧ ksT ch (i - 1) = ksT ch i := by
    unfold extT at he; simp only [Bool.and_eq_true, decide_eq_true_eq] at he; exact ⟨he.1.1, he.1.2, he.2⟩
  have hs : ksT ch (i - 1) ≠ 32 := by
    rw [he2.2.2]; intro q; have := he2.2.1; unfold isRun at this; rw [q] at this; simp at this
  have e : t.1 + t.2 = i := by
    rcases Nat.lt_or_ge (t.1 + t.2) i with q | q
    · exact absurd (h7 (i - 1) (by omega) (by omega)) hs
    · omega
  refine ⟨e, by show 1 ≤ t.2 + 1; omega, by show t.1 + (t.2 + 1) ≤ i + 1; omega, h3, h4, fun q hq1 hq2 => ?_, fun hq => ?_, fun q hq1 hq2 => ?_, h8⟩
  · have hq3 : q < t.1 + (t.2 + 1) := hq2
    by_cases eq : q = i
    · rw [eq]; exact he
    · exact h5 q hq1 (by omega)
  · have : t.1 + (t.2 + 1) < i + 1 := hq
    omega
  · have : t.1 + (t.2 + 1) ≤ q := hq1
    omega
theorem scan_sp {ch : Nat → Nat} {i : Nat} {rl : List (Nat × Nat)} (h : ScanR ch i rl) (hs : ksT ch i = 32) : ScanR ch (i + 1) rl := by
  have hne : extT ch i = false := by
    unfold extT isRun; rw [hs]; simp
  cases rl with
  | nil =>
    intro q hq
    rcases Nat.lt_or_ge q i with z | z
    · exact h q z
    · have : q = i := by omega
      rw [this]; exact hs
  | cons t r =>
    obtain ⟨h1, h2, h3, h4, h5, h6, h7, h8⟩ := h
    refine ⟨h1, by omega, h3, h4, h5, fun hq => ?_, fun q hq1 hq2 => ?_, h8⟩
    · rcases Nat.lt_or_ge (t.1 + t.2) i with z | z
      · exact h6 z
      · have : t.1 + t.2 = i := by omega
        rw [this]; exact hne
    · rcases Nat.lt_or_ge q i with z | z
      · exact h7 q hq1 z
      · have : q = i := by omega
        rw [this]; exact hs
theorem scan_new {ch : Nat → Nat} {i : Nat} {rl : List (Nat × Nat)} (h : ScanR ch i rl) (hs : ksT ch i ≠ 32) (he : extT ch i = false) : ScanR ch (i + 1) ((i, 1) :: rl) :=
  ⟨Nat.le_refl _, Nat.le_refl _, hs, he, fun q h1 h2 => by have a : i < q := h1; have b : q < i + 1 := h2; omega, fun hq => by have a : i + 1 < i + 1 := hq; omega, fun q h1 h2 => by have a : i + 1 ≤ q := h1; omega, h⟩
/-- the token rows so far -/
def RTl (σ : SS) (ch : Nat → Nat) : List (Nat × Nat) → Prop
  | [] => True
  | t :: r => σ.2.1 3 r.length = nI (ksT ch t.1) ∧ σ.2.1 4 r.length = nI t.1 ∧ σ.2.1 5 r.length = nI t.2 ∧ RTl σ ch r
theorem RTl.low {σ σ1 : SS} {ch : Nat → Nat} : ∀ {r : List (Nat × Nat)}, RTl σ ch r → (∀ j, j < r.length → σ1.2.1 3 j = σ.2.1 3 j ∧ σ1.2.1 4 j = σ.2.1 4 j ∧ σ1.2.1 5 j = σ.2.1 5 j) → RTl σ1 ch r
  | [], _, _ => trivial
  | t :: r, h, hj => by
    obtain ⟨h1, h2, h3, h4⟩ := h
    have hl := hj r.length (by simp)
    exact ⟨hl.1.trans h1, hl.2.1.trans h2, hl.2.2.trans h3, RTl.low h4 (fun j q => hj j (by simp; omega))⟩
theorem ScanR.len {ch : Nat → Nat} : ∀ {rl : List (Nat × Nat)} {i : Nat}, ScanR ch i rl → rl.length ≤ i
  | [], i, _ => Nat.zero_le _
  | t :: r, i, h => by
    have := ScanR.len h.2.2.2.2.2.2.2
    have h1 := h.1
    have h2 := h.2.1
    simp; omega
/-- the text's tokens in its cells: starts ts -/
def RTk (σ : SS) (n : Nat) (ch : Nat → Nat) (ts : List Nat) : Prop := σ.1 1 5 = nI ts.length ∧ ts.length ≤ 200 ∧ TokL ch n 0 ts ∧ ∀ (j a : Nat), ts[j]? = some a → a < n ∧ σ.2.1 3 j = nI (kdT ch n a) ∧ σ.2.1 4 j = nI a ∧ σ.2.1 5 j = nI (tEnd ch n a - a) ∧ tEnd ch n a ≤ n ∧ a < tEnd ch n a
/-- rows by their numbers -/
theorem RTl.get {σ : SS} {ch : Nat → Nat} : ∀ {rl : List (Nat × Nat)}, RTl σ ch rl → ∀ (j : Nat) (t : Nat × Nat), rl.reverse[j]? = some t → σ.2.1 3 j = nI (ksT ch t.1) ∧ σ.2.1 4 j = nI t.1 ∧ σ.2.1 5 j = nI t.2
  | [], _, j, t, h => by simp at h
  | t0 :: r, h, j, t, hj => by
    obtain ⟨h1, h2, h3, h4⟩ := h
    rw [List.reverse_cons] at hj
    by_cases q : j < r.length
    · rw [List.getElem?_append_left (by simpa using q)] at hj
      exact RTl.get h4 j t hj
    · rw [List.getElem?_append_right (by simpa using q)] at hj
      have hz : j - r.reverse.length < 1 := (List.getElem?_eq_some_iff.mp hj).1
      have e : j = r.length := by simp at hz; omega
      subst e
      simp at hj
      subst hj
      exact ⟨h1, h2, h3⟩
theorem ScanR.get {ch : Nat → Nat} {n : Nat} (hc : ∀ i, i < n → ch i < 256) : ∀ {rl : List (Nat × Nat)} {i : Nat}, i ≤ n → ScanR ch i rl → (i < n → extT ch i = false) → ∀ (j : Nat) (t : Nat × Nat), rl.reverse[j]? = some t → t.1 < n ∧ tEnd ch n t.1 = t.1 + t.2 ∧ t.1 + t.2 ≤ n ∧ 1 ≤ t.2
  | [], i, _, _, _, j, t, h => by simp at h
  | t0 :: r, i, hi, h, he, j, t, hj => by
    obtain ⟨h1, h2, h3, h4, h5, h6, h7, h8⟩ := h
    rw [List.reverse_cons] at hj
    by_cases q : j < r.length
    · rw [List.getElem?_append_left (by simpa using q)] at hj
      exact ScanR.get hc (by omega) h8 (fun _ => h4) j t hj
    · rw [List.getElem?_append_right (by simpa using q)] at hj
      have hz : j - r.reverse.length < 1 := (List.getElem?_eq_some_iff.mp hj).1
      have e : j = r.length := by simp at hz; omega
      subst e
      simp at hj
      subst hj
      refine ⟨by omega, tEnd_ext hc h1 (by omega) h5 (fun hl => ?_), by omega, h1⟩
      rcases Nat.lt_or_ge (t0.1 + t0.2) i with z | z
      · exact h6 z
      · have : t0.1 + t0.2 = i := by omega
        rw [this] at hl ⊢; exact he hl
theorem ksT_prev {ch : Nat → Nat} {i : Nat} (hc : ch i < 256) : extT ch i = (isRun (ksT ch i) && decide (ksT ch i = (if i = 0 then 32 else ksT ch (i - 1)))) := by
  unfold extT
  by_cases h0 : i = 0
  · subst h0
    simp only [if_true]
    cases hr : isRun (ksT ch 0) with
    | false => simp
    | true =>
      have : ¬ ksT ch 0 = 32 := by intro q; unfold isRun at hr; rw [q] at hr; simp at hr
      simp [this]
  · rw [if_neg h0]
    have : decide (0 < i) = true := by simp; omega
    rw [this]
    by_cases q : ksT ch (i - 1) = ksT ch i
    · simp [q]
    · have q2 : ¬ ksT ch i = ksT ch (i - 1) := fun e => q e.symm
      simp [q, q2]
set_option maxRecDepth 100000 in
set_option maxHeartbeats 4000000 in
theorem ct_Tx_split (G : Gl) (σ : SS) (n : Nat) (ch : Nat → Nat) (hT : RT σ n ch) : CV G mX8_split [Rf G 1] σ (fun σ1 => ∃ ts, RTk σ1 n ch ts ∧ RT σ1 n ch ∧ Fr 1 6 σ σ1 ∧ σ1.1 1 6 = nI 0) := by
  refine Ctr.of oX8_split (Nat.le_of_ble_eq_true rfl) ?_
  intro X C R hnm hz0
  have C : Cx G X cX8_split 5 RX8 7 152 0 0 := C
  have R : Cr G X none 0 0 _ := R
  show V G X 5 0 0 0 [(0, Rf G 1)] [] (wld G σ)
  have kk_1 := sk_1
  have kk_2 := sk_2
  have kk_3 := sk_3
  have kk_4 := sk_4
  have kk_5 := sk_5
  have hn2 := hT.2.1
  have words : ∀ ts : List Nat, ts.length ≤ 200 → TokL ch n 0 ts → (∀ (j a : Nat), ts[j]? = some a → a < n ∧ a < tEnd ch n a ∧ tEnd ch n a ≤ n) → ∀ (mw k : Nat) (σ2 : SS), ts.length < k + mw → k ≤ ts.length → σ2.1 1 5 = nI ts.length → (∀ (j a : Nat), ts[j]? = some a → σ2.2.1 4 j = nI a ∧ σ2.2.1 5 j = nI (tEnd ch n a - a)) → (∀ j, j < k → ∀ a, ts[j]? = some a → σ2.2.1 3 j = nI (kdT ch n a)) → (∀ j, k ≤ j → ∀ a, ts[j]? = some a → σ2.2.1 3 j = nI (ksT ch a)) → Fr 1 6 σ σ2 → σ2.1 1 1 = σ.1 1 1 → σ2.2.1 2 = σ.2.1 2 → σ2.1 1 6 = nI 0 → V G X 5 0 0 145 [(0, Rf G 1), (2, .int (nI k))] [] (wld G σ2) := by
    intro ts hlen_ htok_ hpos_ mw
    induction mw with
    | zero =>
      intro k σ2 hm hk
      exact absurd hm (by omega)
    | succ mw ihw =>
      intro k σ2 hm hk h5_ hst_ hk0_ hk1_ hF_ h1_ h2_ h6_
      have hT2 := RT.same hT h1_ h2_
      refine V.iload_n C 2 rfl rfl dX8_split_145 ?_
      refine V.aload_n C 0 rfl rfl dX8_split_146 ?_
      refine V.getI C fX8_33 dX8_split_147 (by assumption) rfl ?_
      rw [h5_]
      refine V.icmp_ge C 193 dX8_split_150 rfl (fun hb_150 => ?_) (fun hb_150 => ?_)
      · have hk8 : k = ts.length := by have := (nI_leI (by omega) (by omega)).mp hb_150; omega
        exact V.vretS C R dX8_split_193 (by
  refine ⟨ts, ⟨h5_, hlen_, htok_, fun j a hj => ?_⟩, RT.same hT h1_ h2_, hF_, h6_⟩
  have hl_ := (List.getElem?_eq_some_iff.mp hj).1
  obtain ⟨ga_, gb_, gc_⟩ := hpos_ j a hj
  exact ⟨ga_, hk0_ j (by omega) a hj, (hst_ j a hj).1, (hst_ j a hj).2, gc_, gb_⟩)
      · have hk8 : k < ts.length := Nat.lt_of_not_le (fun q => hb_150 (nI_le q (by omega)))
        obtain ⟨a0_, ha0_⟩ : ∃ a, ts[k]? = some a := ⟨_, List.getElem?_eq_getElem hk8⟩
        obtain ⟨ga_, gb_, gc_⟩ := hpos_ k a0_ ha0_
        have hca_ := (hT.2.2 a0_ ga_).2
        have hks_ := ksC_lt hca_
        refine V.aload_n C 0 rfl rfl dX8_split_153 ?_
        refine V.getR C fX8_15 dX8_split_154 (by assumption) rfl ?_
        refine V.iload_n C 2 rfl rfl dX8_split_157 ?_
        refine V.ialdN C dX8_split_158 (by assumption) (by omega) ?_
        rw [hk1_ k (Nat.le_refl _) a0_ ha0_]
        refine V.sipush C (nI 256) s_256 dX8_split_159 ?_
        refine V.icmp_ne C 187 dX8_split_162 rfl (fun hb_162 => ?_) (fun hb_162 => ?_)
        · have z_ : isLo (ch a0_) = false := by
            cases hq : isLo (ch a0_) with
            | false => rfl
            | true => exact absurd (congrArg nI (ksC_lo hq)) hb_162
          refine V.iinc C (nI (k + 1)) dX8_split_187 rfl (nI_1 k) (by decide) ?_
          refine V.goto C 145 dX8_split_190 rfl ?_
          refine V.lvs (lv' := [(0, Rf G 1), (2, .int (nI (k + 1)))]) rfl ?_
          refine ihw (k + 1) σ2 (by omega) (by omega) h5_ hst_ (fun j hj a ha => ?_) (fun j hj a ha => hk1_ j (by omega) a ha) hF_ h1_ h2_ h6_
          rcases Nat.lt_or_ge j k with q_ | q_
          · exact hk0_ j q_ a ha
          · have e_ : j = k := by omega
            subst e_
            rw [ha0_] at ha; cases ha
            rw [hk1_ j (Nat.le_refl _) a0_ ha0_]
            unfold kdT; rw [if_neg (by rw [z_]; decide)]; rfl
        · have z_ : isLo (ch a0_) = true := ksC_256 hca_ (nI_pe (by omega) (by decide) hb_162)
          refine V.aload_n C 0 rfl rfl dX8_split_165 ?_
          refine V.getR C fX8_15 dX8_split_166 (by assumption) rfl ?_
          refine V.iload_n C 2 rfl rfl dX8_split_169 ?_
          refine V.aload_n C 0 rfl rfl dX8_split_170 ?_
          refine V.aload_n C 0 rfl rfl dX8_split_171 ?_
          refine V.getR C fX8_19 dX8_split_172 (by assumption) rfl ?_
          refine V.iload_n C 2 rfl rfl dX8_split_175 ?_
          refine V.ialdN C dX8_split_176 (by assumption) (by omega) ?_
          rw [(hst_ k a0_ ha0_).1]
          refine V.aload_n C 0 rfl rfl dX8_split_177 ?_
          refine V.getR C fX8_22 dX8_split_178 (by assumption) rfl ?_
          refine V.iload_n C 2 rfl rfl dX8_split_181 ?_
          refine V.ialdN C dX8_split_182 (by assumption) (by omega) ?_
          rw [(hst_ k a0_ ha0_).2]
          refine V.cVi C lX8_43 oX8_kindOfWord dX8_split_183 (ct_Tx_kindOfWord G σ2 n a0_ (tEnd ch n a0_ - a0_) ch hT2 (by omega) (by omega)) (by assumption) rfl rfl (Nat.le_of_ble_eq_true rfl) ⟨Nat.le_of_ble_eq_true rfl, Nat.le_of_ble_eq_true rfl⟩ ⟨Nat.le_of_ble_eq_true rfl, Nat.le_of_ble_eq_true rfl⟩ (fun rr_183 σ183 pp_183 => ?_)
          obtain ⟨ee_183, ff_183⟩ := pp_183
          rw [ee_183, ff_183]
          refine V.iastN C dX8_split_186 (by assumption) (by omega) ?_
          refine V.iinc C (nI (k + 1)) dX8_split_187 rfl (nI_1 k) (by decide) ?_
          refine V.goto C 145 dX8_split_190 rfl ?_
          refine V.lvs (lv' := [(0, Rf G 1), (2, .int (nI (k + 1)))]) rfl ?_
          refine ihw (k + 1) _ (by omega) (by omega) h5_ (fun j a ha => ?_) (fun j hj a ha => ?_) (fun j hj a ha => ?_) (hF_.sA _ (by omega) (by omega)) h1_ ?_ h6_
          · rw [sA_ne _ _ (by omega), sA_ne _ _ (by omega)]; exact hst_ j a ha
          · rw [sA_A]
            rcases Nat.lt_or_ge j k with q_ | q_
            · rw [up_ne _ _ (by omega)]; exact hk0_ j q_ a ha
            · have e_ : j = k := by omega
              subst e_
              rw [ha0_] at ha; cases ha
              rw [up_eq]; unfold kdT; rw [if_pos z_]
          · rw [sA_A, up_ne _ _ (by omega)]; exact hk1_ j (by omega) a ha
          · rw [sA_ne _ _ (by omega)]; exact h2_
  have loop : ∀ (m i : Nat) (rl : List (Nat × Nat)) (σ1 : SS), n < i + m → i ≤ n → ScanR ch i rl → RTl σ1 ch rl → σ1.1 1 5 = nI rl.length → Fr 1 6 σ σ1 → σ1.1 1 1 = σ.1 1 1 → σ1.2.1 2 = σ.2.1 2 → σ1.1 1 6 = nI 0 → V G X 5 0 0 15 [(0, Rf G 1), (1, .int (nI (if i = 0 then 32 else ksT ch (i - 1)))), (2, .int (nI i))] [] (wld G σ1) := by
    intro m
    induction m with
    | zero =>
      intro i rl σ1 hm hi hsc_ hrt_ h5_ hF_ h1_ h2_ h6_
      exact absurd hm (by omega)
    | succ m ih =>
      intro i rl σ1 hm hi hsc_ hrt_ h5_ hF_ h1_ h2_ h6_
      refine V.iload_n C 2 rfl rfl dX8_split_15 ?_
      refine V.aload_n C 0 rfl rfl dX8_split_16 ?_
      refine V.getI C fX8_25 dX8_split_17 (by assumption) rfl ?_
      rw [h1_, hT.1]
      refine V.icmp_ge C 143 dX8_split_20 rfl (fun hb_20 => ?_) (fun hb_20 => ?_)
      · have hi8 : i = n := by have := (nI_leI (by omega) (by omega)).mp hb_20; omega
        refine V.iconst C (nI 0) c_0 dX8_split_143 ?_
        refine V.istore_n C 2 dX8_split_144 rfl (by decide) ?_
        refine V.lvs (lv' := [(0, Rf G 1), (2, .int (nI 0))]) rfl ?_
        subst hi8
        have hc_ : ∀ j, j < i → ch j < 256 := fun j hj => (hT.2.2 j hj).2
        have hend_ : i < i → extT ch i = false := fun h => absurd h (by omega)
        have hlm_ : (rl.reverse.map (·.1)).length = rl.length := by simp
        have hlr_ := hsc_.len
        have hget_ : ∀ (j a : Nat), (rl.reverse.map (·.1))[j]? = some a → ∃ t, rl.reverse[j]? = some t ∧ t.1 = a := fun j a h => by
          rw [List.getElem?_map] at h
          cases hq : rl.reverse[j]? with
          | none => rw [hq] at h; cases h
          | some t => rw [hq] at h; exact ⟨t, rfl, Option.some.inj h⟩
        refine words (rl.reverse.map (·.1)) (by omega) ?_ (fun j a h => ?_) (rl.length + 1) 0 σ1 (by omega) (by omega) (by rw [hlm_]; exact h5_) (fun j a h => ?_) (fun j hj => absurd hj (by omega)) (fun j _ a h => ?_) hF_ h1_ h2_ h6_
        · have := ScanR.tok hc_ rl i [] (Nat.le_refl _) hsc_ hend_ (fun p hp hsp => skipT_eq hp (Nat.le_refl _) hsp (fun h => absurd h (by omega)))
          rwa [List.append_nil] at this
        · obtain ⟨t, ht, e_⟩ := hget_ j a h
          obtain ⟨g1_, g2_, g3_, g4_⟩ := hsc_.get hc_ (Nat.le_refl _) hend_ j t ht
          rw [e_] at g1_ g2_ g3_
          exact ⟨g1_, by omega, by omega⟩
        · obtain ⟨t, ht, e_⟩ := hget_ j a h
          obtain ⟨g1_, g2_, g3_, g4_⟩ := hsc_.get hc_ (Nat.le_refl _) hend_ j t ht
          obtain ⟨k1_, k2_, k3_⟩ := hrt_.get j t ht
          rw [e_] at g1_ g2_ g3_ k2_
          exact ⟨k2_, by rw [k3_, g2_]; congr 1; omega⟩
        · obtain ⟨t, ht, e_⟩ := hget_ j a h
          obtain ⟨k1_, k2_, k3_⟩ := hrt_.get j t ht
          rw [e_] at k1_; exact k1_
      · have hi8 : i < n := Nat.lt_of_not_le (fun q => hb_20 (nI_le q (by omega)))
        have hks_ := ksC_lt (hT.2.2 i hi8).2
        have hks2_ : ksT ch i < 258 := hks_
        have hpr_ : (if i = 0 then 32 else ksT ch (i - 1)) < 258 := by
          split
          · omega
          · exact ksC_lt (hT.2.2 (i - 1) (by omega)).2
        have hext_ := ksT_prev (ch := ch) (i := i) (hT.2.2 i hi8).2
        have hlr_ := hsc_.len
        refine V.aload_n C 0 rfl rfl dX8_split_23 ?_
        refine V.getR C fX8_9 dX8_split_24 (by assumption) rfl ?_
        refine V.iload_n C 2 rfl rfl dX8_split_27 ?_
        refine V.caldN C dX8_split_28 (by assumption) (by omega) ?_
        rw [h2_, (hT.2.2 i hi8).1]
        refine V.cSi C lX8_39 oX8_kindOfSign dX8_split_29 (ct_Tx_kindOfSign G σ1 (ch i) (hT.2.2 i hi8).2) rfl rfl (Nat.le_of_ble_eq_true rfl) ⟨Nat.le_of_ble_eq_true rfl, Nat.le_of_ble_eq_true rfl⟩ ⟨Nat.le_of_ble_eq_true rfl, Nat.le_of_ble_eq_true rfl⟩ (fun rr_29 σ29 pp_29 => ?_)
        obtain ⟨ee_29, ff_29⟩ := pp_29
        rw [ee_29, ff_29]
        show V _ _ _ _ _ _ _ (.int (nI (ksT ch i)) :: _) _
        refine V.istore_n C 3 dX8_split_32 rfl (by decide) ?_
        refine V.iload_n C 3 rfl rfl dX8_split_33 ?_
        refine V.sipush C (nI 256) s_256 dX8_split_34 ?_
        refine V.icmp_eq C 47 dX8_split_37 rfl (fun hb_37 => ?_) (fun hb_37 => ?_)
        · have zr_ : isRun (ksT ch i) = true := by have := nI_pe (by omega) (by decide) hb_37; unfold isRun; rw [this]; rfl
          refine V.iconst C (nI 1) c_1 dX8_split_47 ?_
          refine V.goto C 52 dX8_split_48 rfl ?_
          refine V.istore C dX8_split_52 (by decide) ?_
          refine V.iload C rfl dX8_split_54 ?_
          refine V.if_eq C 89 dX8_split_56 rfl (fun hb_56 => ?_) (fun hb_56 => ?_)
          · exact absurd hb_56 (by decide)
          · refine V.iload_n C 3 rfl rfl dX8_split_59 ?_
            refine V.iload_n C 1 rfl rfl dX8_split_60 ?_
            refine V.icmp_ne C 89 dX8_split_61 rfl (fun hb_61 => ?_) (fun hb_61 => ?_)
            · have ze_ : extT ch i = false := by rw [hext_, show decide (ksT ch i = (if i = 0 then 32 else ksT ch (i - 1))) = false by simp only [decide_eq_false_iff_not]; exact fun e => hb_61 (by rw [e])]; simp
              refine V.iload_n C 3 rfl rfl dX8_split_89 ?_
              refine V.bipush C (nI 32) b_32 dX8_split_90 ?_
              refine V.icmp_eq C 135 dX8_split_92 rfl (fun hb_92 => ?_) (fun hb_92 => ?_)
              · have zs_ : ksT ch i = 32 := nI_pe (by omega) (by decide) hb_92
                refine V.iload_n C 3 rfl rfl dX8_split_135 ?_
                refine V.istore_n C 1 dX8_split_136 rfl (by decide) ?_
                refine V.iinc C (nI (i + 1)) dX8_split_137 rfl (nI_1 i) (by decide) ?_
                refine V.goto C 15 dX8_split_140 rfl ?_
                have ep_ : nI (ksT ch i) = nI (if (i + 1) = 0 then 32 else ksT ch ((i + 1) - 1)) := by rw [if_neg (by omega), show i + 1 - 1 = i by omega]
                refine V.lvs (lv' := [(0, Rf G 1), (1, .int (nI (if (i + 1) = 0 then 32 else ksT ch ((i + 1) - 1)))), (2, .int (nI (i + 1)))]) (by rw [← ep_]; rfl) ?_
                exact ih (i + 1) rl σ1 (by omega) (by omega) (scan_sp hsc_ zs_) hrt_ h5_ hF_ h1_ h2_ h6_
              · have zs_ : ¬ ksT ch i = 32 := fun e => hb_92 (by rw [e])
                refine V.aload_n C 0 rfl rfl dX8_split_95 ?_
                refine V.getR C fX8_15 dX8_split_96 (by assumption) rfl ?_
                refine V.aload_n C 0 rfl rfl dX8_split_99 ?_
                refine V.getI C fX8_33 dX8_split_100 (by assumption) rfl ?_
                rw [h5_]
                refine V.iload_n C 3 rfl rfl dX8_split_103 ?_
                refine V.iastN C dX8_split_104 (by assumption) (by omega) ?_
                refine V.aload_n C 0 rfl rfl dX8_split_105 ?_
                refine V.getR C fX8_19 dX8_split_106 (by assumption) rfl ?_
                refine V.aload_n C 0 rfl rfl dX8_split_109 ?_
                refine V.getI C fX8_33 dX8_split_110 (by assumption) rfl ?_
                rw [show (sA σ1 3 (va_up (σ1.2.1 3) rl.length (nI (ksT ch i)))).1 1 5 = nI rl.length from h5_]
                refine V.iload_n C 2 rfl rfl dX8_split_113 ?_
                refine V.iastN C dX8_split_114 (by assumption) (by omega) ?_
                refine V.aload_n C 0 rfl rfl dX8_split_115 ?_
                refine V.getR C fX8_22 dX8_split_116 (by assumption) rfl ?_
                refine V.aload_n C 0 rfl rfl dX8_split_119 ?_
                refine V.getI C fX8_33 dX8_split_120 (by assumption) rfl ?_
                rw [show (sA (sA σ1 3 (va_up (σ1.2.1 3) rl.length (nI (ksT ch i)))) 4 (va_up ((sA σ1 3 (va_up (σ1.2.1 3) rl.length (nI (ksT ch i)))).2.1 4) rl.length (nI i))).1 1 5 = nI rl.length from h5_]
                refine V.iconst C (nI 1) c_1 dX8_split_123 ?_
                refine V.iastN C dX8_split_124 (by assumption) (by omega) ?_
                refine V.aload_n C 0 rfl rfl dX8_split_125 ?_
                refine V.dup C rfl dX8_split_126 ?_
                refine V.getI C fX8_33 dX8_split_127 (by assumption) rfl ?_
                rw [show (sA (sA (sA σ1 3 (va_up (σ1.2.1 3) rl.length (nI (ksT ch i)))) 4 (va_up ((sA σ1 3 (va_up (σ1.2.1 3) rl.length (nI (ksT ch i)))).2.1 4) rl.length (nI i))) 5 (va_up ((sA (sA σ1 3 (va_up (σ1.2.1 3) rl.length (nI (ksT ch i)))) 4 (va_up ((sA σ1 3 (va_up (σ1.2.1 3) rl.length (nI (ksT ch i)))).2.1 4) rl.length (nI i))).2.1 5) rl.length (nI 1))).1 1 5 = nI rl.length from h5_]
                refine V.iconst C (nI 1) c_1 dX8_split_130 ?_
                refine V.iadd C dX8_split_131 ?_
                rw [show nI rl.length + nI 1 = nI (rl.length + 1) from nI_add _ 1]
                refine V.putI C fX8_33 dX8_split_132 (by assumption) rfl ?_
                refine V.iload_n C 3 rfl rfl dX8_split_135 ?_
                refine V.istore_n C 1 dX8_split_136 rfl (by decide) ?_
                refine V.iinc C (nI (i + 1)) dX8_split_137 rfl (nI_1 i) (by decide) ?_
                refine V.goto C 15 dX8_split_140 rfl ?_
                have ep_ : nI (ksT ch i) = nI (if (i + 1) = 0 then 32 else ksT ch ((i + 1) - 1)) := by rw [if_neg (by omega), show i + 1 - 1 = i by omega]
                refine V.lvs (lv' := [(0, Rf G 1), (1, .int (nI (if (i + 1) = 0 then 32 else ksT ch ((i + 1) - 1)))), (2, .int (nI (i + 1)))]) (by rw [← ep_]; rfl) ?_
                refine ih (i + 1) ((i, 1) :: rl) _ (by omega) (by omega) (scan_new hsc_ zs_ ze_) ⟨?_, ?_, ?_, ?_⟩ ?_ ((((hF_.sA _ (by omega) (by omega)).sA _ (by omega) (by omega)).sA _ (by omega) (by omega)).sF _ _ (by omega) (by omega)) ?_ ?_ ?_
                · show (sA (sA (sA σ1 3 _) 4 _) 5 _).2.1 3 rl.length = _
                  rw [sA_ne _ _ (by omega), sA_ne _ _ (by omega), sA_A, up_eq]
                · show (sA (sA (sA σ1 3 _) 4 _) 5 _).2.1 4 rl.length = _
                  rw [sA_ne _ _ (by omega), sA_A, up_eq]
                · show (sA (sA (sA σ1 3 _) 4 _) 5 _).2.1 5 rl.length = _
                  rw [sA_A, up_eq]
                · refine hrt_.low (fun j hj => ⟨?_, ?_, ?_⟩)
                  · show (sA (sA (sA σ1 3 _) 4 _) 5 _).2.1 3 j = _
                    rw [sA_ne _ _ (by omega), sA_ne _ _ (by omega), sA_A, up_ne _ _ (by omega)]
                  · show (sA (sA (sA σ1 3 _) 4 _) 5 _).2.1 4 j = _
                    rw [sA_ne _ _ (by omega), sA_A, up_ne _ _ (by omega), sA_ne _ _ (by omega)]
                  · show (sA (sA (sA σ1 3 _) 4 _) 5 _).2.1 5 j = _
                    rw [sA_A, up_ne _ _ (by omega), sA_ne _ _ (by omega), sA_ne _ _ (by omega)]
                · rw [sF_F]; rfl
                · rw [sF_ne _ _ (by omega)]; exact h1_
                · show (sA (sA (sA σ1 3 _) 4 _) 5 _).2.1 2 = _
                  rw [sA_ne _ _ (by omega), sA_ne _ _ (by omega), sA_ne _ _ (by omega)]; exact h2_
                · rw [sF_ne _ _ (by omega)]; exact h6_
            · have ze_ : extT ch i = true := by rw [hext_, zr_, show decide (ksT ch i = (if i = 0 then 32 else ksT ch (i - 1))) = true by simp only [decide_eq_true_eq]; exact nI_pe (by omega) (by omega) hb_61]; rfl
              refine V.aload_n C 0 rfl rfl dX8_split_64 ?_
              refine V.getI C fX8_33 dX8_split_65 (by assumption) rfl ?_
              rw [h5_]
              refine V.if_le C 89 dX8_split_68 rfl (fun hb_68 => ?_) (fun hb_68 => ?_)
              · exact absurd hb_68 (nI_nle (by
                  cases hq : rl with
                  | nil =>
                    rw [hq] at hsc_
                    have he2_ : 0 < i ∧ ksT ch (i - 1) = ksT ch i := by unfold extT at ze_; simp only [Bool.and_eq_true, decide_eq_true_eq] at ze_; exact ⟨ze_.1.1, ze_.2⟩
                    have h9_ := hsc_ (i - 1) (by omega)
                    rw [he2_.2] at h9_
                    unfold isRun at zr_; rw [h9_] at zr_; simp at zr_
                  | cons t r => simp) (by omega))
              · obtain ⟨t0_, r0_, hrl_⟩ : ∃ t r, rl = t :: r := by
                  cases hq : rl with
                  | nil => rw [hq] at hb_68; exact absurd (show nI 0 ≤ 0 from (by decide)) hb_68
                  | cons t r => exact ⟨t, r, rfl⟩
                subst hrl_
                obtain ⟨tt_, sc2_⟩ := scan_ext hsc_ ze_
                obtain ⟨l3_, l4_, l5_, l0_⟩ := hrt_
                have hln_ : (t0_ :: r0_).length = r0_.length + 1 := rfl
                refine V.aload_n C 0 rfl rfl dX8_split_71 ?_
                refine V.getR C fX8_22 dX8_split_72 (by assumption) rfl ?_
                refine V.aload_n C 0 rfl rfl dX8_split_75 ?_
                refine V.getI C fX8_33 dX8_split_76 (by assumption) rfl ?_
                rw [h5_]
                refine V.iconst C (nI 1) c_1 dX8_split_79 ?_
                refine V.isub C dX8_split_80 ?_
                rw [show nI (t0_ :: r0_).length - nI 1 = nI r0_.length by rw [nI_sub (by simp)]; simp]
                refine V.dup2 C rfl rfl dX8_split_81 ?_
                refine V.ialdN C dX8_split_82 (by assumption) (by omega) ?_
                rw [l5_]
                refine V.iconst C (nI 1) c_1 dX8_split_83 ?_
                refine V.iadd C dX8_split_84 ?_
                rw [show nI t0_.2 + nI 1 = nI (t0_.2 + 1) from nI_add _ 1]
                refine V.iastN C dX8_split_85 (by assumption) (by omega) ?_
                refine V.goto C 135 dX8_split_86 rfl ?_
                refine V.iload_n C 3 rfl rfl dX8_split_135 ?_
                refine V.istore_n C 1 dX8_split_136 rfl (by decide) ?_
                refine V.iinc C (nI (i + 1)) dX8_split_137 rfl (nI_1 i) (by decide) ?_
                refine V.goto C 15 dX8_split_140 rfl ?_
                have ep_ : nI (ksT ch i) = nI (if (i + 1) = 0 then 32 else ksT ch ((i + 1) - 1)) := by rw [if_neg (by omega), show i + 1 - 1 = i by omega]
                refine V.lvs (lv' := [(0, Rf G 1), (1, .int (nI (if (i + 1) = 0 then 32 else ksT ch ((i + 1) - 1)))), (2, .int (nI (i + 1)))]) (by rw [← ep_]; rfl) ?_
                refine ih (i + 1) ((t0_.1, t0_.2 + 1) :: r0_) _ (by omega) (by omega) sc2_ ⟨?_, ?_, ?_, ?_⟩ h5_ (hF_.sA _ (by omega) (by omega)) h1_ ?_ h6_
                · rw [sA_ne _ _ (by omega)]; exact l3_
                · rw [sA_ne _ _ (by omega)]; exact l4_
                · rw [sA_A, up_eq]
                · refine l0_.low (fun j hj => ⟨?_, ?_, ?_⟩)
                  · rw [sA_ne _ _ (by omega)]
                  · rw [sA_ne _ _ (by omega)]
                  · rw [sA_A, up_ne _ _ (by omega)]
                · rw [sA_ne _ _ (by omega)]; exact h2_
        · refine V.iload_n C 3 rfl rfl dX8_split_40 ?_
          refine V.sipush C (nI 257) s_257 dX8_split_41 ?_
          refine V.icmp_ne C 51 dX8_split_44 rfl (fun hb_44 => ?_) (fun hb_44 => ?_)
          · have zr_ : isRun (ksT ch i) = false := by
              have q1_ : ¬ ksT ch i = 256 := fun e => hb_37 (by rw [e])
              have q2_ : ¬ ksT ch i = 257 := fun e => hb_44 (by rw [e])
              unfold isRun; simp [q1_, q2_]
            refine V.iconst C (nI 0) c_0 dX8_split_51 ?_
            refine V.istore C dX8_split_52 (by decide) ?_
            refine V.iload C rfl dX8_split_54 ?_
            refine V.if_eq C 89 dX8_split_56 rfl (fun hb_56 => ?_) (fun hb_56 => ?_)
            · have ze_ : extT ch i = false := by rw [hext_, zr_]; rfl
              refine V.iload_n C 3 rfl rfl dX8_split_89 ?_
              refine V.bipush C (nI 32) b_32 dX8_split_90 ?_
              refine V.icmp_eq C 135 dX8_split_92 rfl (fun hb_92 => ?_) (fun hb_92 => ?_)
              · have zs_ : ksT ch i = 32 := nI_pe (by omega) (by decide) hb_92
                refine V.iload_n C 3 rfl rfl dX8_split_135 ?_
                refine V.istore_n C 1 dX8_split_136 rfl (by decide) ?_
                refine V.iinc C (nI (i + 1)) dX8_split_137 rfl (nI_1 i) (by decide) ?_
                refine V.goto C 15 dX8_split_140 rfl ?_
                have ep_ : nI (ksT ch i) = nI (if (i + 1) = 0 then 32 else ksT ch ((i + 1) - 1)) := by rw [if_neg (by omega), show i + 1 - 1 = i by omega]
                refine V.lvs (lv' := [(0, Rf G 1), (1, .int (nI (if (i + 1) = 0 then 32 else ksT ch ((i + 1) - 1)))), (2, .int (nI (i + 1)))]) (by rw [← ep_]; rfl) ?_
                exact ih (i + 1) rl σ1 (by omega) (by omega) (scan_sp hsc_ zs_) hrt_ h5_ hF_ h1_ h2_ h6_
              · have zs_ : ¬ ksT ch i = 32 := fun e => hb_92 (by rw [e])
                refine V.aload_n C 0 rfl rfl dX8_split_95 ?_
                refine V.getR C fX8_15 dX8_split_96 (by assumption) rfl ?_
                refine V.aload_n C 0 rfl rfl dX8_split_99 ?_
                refine V.getI C fX8_33 dX8_split_100 (by assumption) rfl ?_
                rw [h5_]
                refine V.iload_n C 3 rfl rfl dX8_split_103 ?_
                refine V.iastN C dX8_split_104 (by assumption) (by omega) ?_
                refine V.aload_n C 0 rfl rfl dX8_split_105 ?_
                refine V.getR C fX8_19 dX8_split_106 (by assumption) rfl ?_
                refine V.aload_n C 0 rfl rfl dX8_split_109 ?_
                refine V.getI C fX8_33 dX8_split_110 (by assumption) rfl ?_
                rw [show (sA σ1 3 (va_up (σ1.2.1 3) rl.length (nI (ksT ch i)))).1 1 5 = nI rl.length from h5_]
                refine V.iload_n C 2 rfl rfl dX8_split_113 ?_
                refine V.iastN C dX8_split_114 (by assumption) (by omega) ?_
                refine V.aload_n C 0 rfl rfl dX8_split_115 ?_
                refine V.getR C fX8_22 dX8_split_116 (by assumption) rfl ?_
                refine V.aload_n C 0 rfl rfl dX8_split_119 ?_
                refine V.getI C fX8_33 dX8_split_120 (by assumption) rfl ?_
                rw [show (sA (sA σ1 3 (va_up (σ1.2.1 3) rl.length (nI (ksT ch i)))) 4 (va_up ((sA σ1 3 (va_up (σ1.2.1 3) rl.length (nI (ksT ch i)))).2.1 4) rl.length (nI i))).1 1 5 = nI rl.length from h5_]
                refine V.iconst C (nI 1) c_1 dX8_split_123 ?_
                refine V.iastN C dX8_split_124 (by assumption) (by omega) ?_
                refine V.aload_n C 0 rfl rfl dX8_split_125 ?_
                refine V.dup C rfl dX8_split_126 ?_
                refine V.getI C fX8_33 dX8_split_127 (by assumption) rfl ?_
                rw [show (sA (sA (sA σ1 3 (va_up (σ1.2.1 3) rl.length (nI (ksT ch i)))) 4 (va_up ((sA σ1 3 (va_up (σ1.2.1 3) rl.length (nI (ksT ch i)))).2.1 4) rl.length (nI i))) 5 (va_up ((sA (sA σ1 3 (va_up (σ1.2.1 3) rl.length (nI (ksT ch i)))) 4 (va_up ((sA σ1 3 (va_up (σ1.2.1 3) rl.length (nI (ksT ch i)))).2.1 4) rl.length (nI i))).2.1 5) rl.length (nI 1))).1 1 5 = nI rl.length from h5_]
                refine V.iconst C (nI 1) c_1 dX8_split_130 ?_
                refine V.iadd C dX8_split_131 ?_
                rw [show nI rl.length + nI 1 = nI (rl.length + 1) from nI_add _ 1]
                refine V.putI C fX8_33 dX8_split_132 (by assumption) rfl ?_
                refine V.iload_n C 3 rfl rfl dX8_split_135 ?_
                refine V.istore_n C 1 dX8_split_136 rfl (by decide) ?_
                refine V.iinc C (nI (i + 1)) dX8_split_137 rfl (nI_1 i) (by decide) ?_
                refine V.goto C 15 dX8_split_140 rfl ?_
                have ep_ : nI (ksT ch i) = nI (if (i + 1) = 0 then 32 else ksT ch ((i + 1) - 1)) := by rw [if_neg (by omega), show i + 1 - 1 = i by omega]
                refine V.lvs (lv' := [(0, Rf G 1), (1, .int (nI (if (i + 1) = 0 then 32 else ksT ch ((i + 1) - 1)))), (2, .int (nI (i + 1)))]) (by rw [← ep_]; rfl) ?_
                refine ih (i + 1) ((i, 1) :: rl) _ (by omega) (by omega) (scan_new hsc_ zs_ ze_) ⟨?_, ?_, ?_, ?_⟩ ?_ ((((hF_.sA _ (by omega) (by omega)).sA _ (by omega) (by omega)).sA _ (by omega) (by omega)).sF _ _ (by omega) (by omega)) ?_ ?_ ?_
                · show (sA (sA (sA σ1 3 _) 4 _) 5 _).2.1 3 rl.length = _
                  rw [sA_ne _ _ (by omega), sA_ne _ _ (by omega), sA_A, up_eq]
                · show (sA (sA (sA σ1 3 _) 4 _) 5 _).2.1 4 rl.length = _
                  rw [sA_ne _ _ (by omega), sA_A, up_eq]
                · show (sA (sA (sA σ1 3 _) 4 _) 5 _).2.1 5 rl.length = _
                  rw [sA_A, up_eq]
                · refine hrt_.low (fun j hj => ⟨?_, ?_, ?_⟩)
                  · show (sA (sA (sA σ1 3 _) 4 _) 5 _).2.1 3 j = _
                    rw [sA_ne _ _ (by omega), sA_ne _ _ (by omega), sA_A, up_ne _ _ (by omega)]
                  · show (sA (sA (sA σ1 3 _) 4 _) 5 _).2.1 4 j = _
                    rw [sA_ne _ _ (by omega), sA_A, up_ne _ _ (by omega), sA_ne _ _ (by omega)]
                  · show (sA (sA (sA σ1 3 _) 4 _) 5 _).2.1 5 j = _
                    rw [sA_A, up_ne _ _ (by omega), sA_ne _ _ (by omega), sA_ne _ _ (by omega)]
                · rw [sF_F]; rfl
                · rw [sF_ne _ _ (by omega)]; exact h1_
                · show (sA (sA (sA σ1 3 _) 4 _) 5 _).2.1 2 = _
                  rw [sA_ne _ _ (by omega), sA_ne _ _ (by omega), sA_ne _ _ (by omega)]; exact h2_
                · rw [sF_ne _ _ (by omega)]; exact h6_
            · exact absurd rfl hb_56
          · have zr_ : isRun (ksT ch i) = true := by have := nI_pe (by omega) (by decide) hb_44; unfold isRun; rw [this]; rfl
            refine V.iconst C (nI 1) c_1 dX8_split_47 ?_
            refine V.goto C 52 dX8_split_48 rfl ?_
            refine V.istore C dX8_split_52 (by decide) ?_
            refine V.iload C rfl dX8_split_54 ?_
            refine V.if_eq C 89 dX8_split_56 rfl (fun hb_56 => ?_) (fun hb_56 => ?_)
            · exact absurd hb_56 (by decide)
            · refine V.iload_n C 3 rfl rfl dX8_split_59 ?_
              refine V.iload_n C 1 rfl rfl dX8_split_60 ?_
              refine V.icmp_ne C 89 dX8_split_61 rfl (fun hb_61 => ?_) (fun hb_61 => ?_)
              · have ze_ : extT ch i = false := by rw [hext_, show decide (ksT ch i = (if i = 0 then 32 else ksT ch (i - 1))) = false by simp only [decide_eq_false_iff_not]; exact fun e => hb_61 (by rw [e])]; simp
                refine V.iload_n C 3 rfl rfl dX8_split_89 ?_
                refine V.bipush C (nI 32) b_32 dX8_split_90 ?_
                refine V.icmp_eq C 135 dX8_split_92 rfl (fun hb_92 => ?_) (fun hb_92 => ?_)
                · have zs_ : ksT ch i = 32 := nI_pe (by omega) (by decide) hb_92
                  refine V.iload_n C 3 rfl rfl dX8_split_135 ?_
                  refine V.istore_n C 1 dX8_split_136 rfl (by decide) ?_
                  refine V.iinc C (nI (i + 1)) dX8_split_137 rfl (nI_1 i) (by decide) ?_
                  refine V.goto C 15 dX8_split_140 rfl ?_
                  have ep_ : nI (ksT ch i) = nI (if (i + 1) = 0 then 32 else ksT ch ((i + 1) - 1)) := by rw [if_neg (by omega), show i + 1 - 1 = i by omega]
                  refine V.lvs (lv' := [(0, Rf G 1), (1, .int (nI (if (i + 1) = 0 then 32 else ksT ch ((i + 1) - 1)))), (2, .int (nI (i + 1)))]) (by rw [← ep_]; rfl) ?_
                  exact ih (i + 1) rl σ1 (by omega) (by omega) (scan_sp hsc_ zs_) hrt_ h5_ hF_ h1_ h2_ h6_
                · have zs_ : ¬ ksT ch i = 32 := fun e => hb_92 (by rw [e])
                  refine V.aload_n C 0 rfl rfl dX8_split_95 ?_
                  refine V.getR C fX8_15 dX8_split_96 (by assumption) rfl ?_
                  refine V.aload_n C 0 rfl rfl dX8_split_99 ?_
                  refine V.getI C fX8_33 dX8_split_100 (by assumption) rfl ?_
                  rw [h5_]
                  refine V.iload_n C 3 rfl rfl dX8_split_103 ?_
                  refine V.iastN C dX8_split_104 (by assumption) (by omega) ?_
                  refine V.aload_n C 0 rfl rfl dX8_split_105 ?_
                  refine V.getR C fX8_19 dX8_split_106 (by assumption) rfl ?_
                  refine V.aload_n C 0 rfl rfl dX8_split_109 ?_
                  refine V.getI C fX8_33 dX8_split_110 (by assumption) rfl ?_
                  rw [show (sA σ1 3 (va_up (σ1.2.1 3) rl.length (nI (ksT ch i)))).1 1 5 = nI rl.length from h5_]
                  refine V.iload_n C 2 rfl rfl dX8_split_113 ?_
                  refine V.iastN C dX8_split_114 (by assumption) (by omega) ?_
                  refine V.aload_n C 0 rfl rfl dX8_split_115 ?_
                  refine V.getR C fX8_22 dX8_split_116 (by assumption) rfl ?_
                  refine V.aload_n C 0 rfl rfl dX8_split_119 ?_
                  refine V.getI C fX8_33 dX8_split_120 (by assumption) rfl ?_
                  rw [show (sA (sA σ1 3 (va_up (σ1.2.1 3) rl.length (nI (ksT ch i)))) 4 (va_up ((sA σ1 3 (va_up (σ1.2.1 3) rl.length (nI (ksT ch i)))).2.1 4) rl.length (nI i))).1 1 5 = nI rl.length from h5_]
                  refine V.iconst C (nI 1) c_1 dX8_split_123 ?_
                  refine V.iastN C dX8_split_124 (by assumption) (by omega) ?_
                  refine V.aload_n C 0 rfl rfl dX8_split_125 ?_
                  refine V.dup C rfl dX8_split_126 ?_
                  refine V.getI C fX8_33 dX8_split_127 (by assumption) rfl ?_
                  rw [show (sA (sA (sA σ1 3 (va_up (σ1.2.1 3) rl.length (nI (ksT ch i)))) 4 (va_up ((sA σ1 3 (va_up (σ1.2.1 3) rl.length (nI (ksT ch i)))).2.1 4) rl.length (nI i))) 5 (va_up ((sA (sA σ1 3 (va_up (σ1.2.1 3) rl.length (nI (ksT ch i)))) 4 (va_up ((sA σ1 3 (va_up (σ1.2.1 3) rl.length (nI (ksT ch i)))).2.1 4) rl.length (nI i))).2.1 5) rl.length (nI 1))).1 1 5 = nI rl.length from h5_]
                  refine V.iconst C (nI 1) c_1 dX8_split_130 ?_
                  refine V.iadd C dX8_split_131 ?_
                  rw [show nI rl.length + nI 1 = nI (rl.length + 1) from nI_add _ 1]
                  refine V.putI C fX8_33 dX8_split_132 (by assumption) rfl ?_
                  refine V.iload_n C 3 rfl rfl dX8_split_135 ?_
                  refine V.istore_n C 1 dX8_split_136 rfl (by decide) ?_
                  refine V.iinc C (nI (i + 1)) dX8_split_137 rfl (nI_1 i) (by decide) ?_
                  refine V.goto C 15 dX8_split_140 rfl ?_
                  have ep_ : nI (ksT ch i) = nI (if (i + 1) = 0 then 32 else ksT ch ((i + 1) - 1)) := by rw [if_neg (by omega), show i + 1 - 1 = i by omega]
                  refine V.lvs (lv' := [(0, Rf G 1), (1, .int (nI (if (i + 1) = 0 then 32 else ksT ch ((i + 1) - 1)))), (2, .int (nI (i + 1)))]) (by rw [← ep_]; rfl) ?_
                  refine ih (i + 1) ((i, 1) :: rl) _ (by omega) (by omega) (scan_new hsc_ zs_ ze_) ⟨?_, ?_, ?_, ?_⟩ ?_ ((((hF_.sA _ (by omega) (by omega)).sA _ (by omega) (by omega)).sA _ (by omega) (by omega)).sF _ _ (by omega) (by omega)) ?_ ?_ ?_
                  · show (sA (sA (sA σ1 3 _) 4 _) 5 _).2.1 3 rl.length = _
                    rw [sA_ne _ _ (by omega), sA_ne _ _ (by omega), sA_A, up_eq]
                  · show (sA (sA (sA σ1 3 _) 4 _) 5 _).2.1 4 rl.length = _
                    rw [sA_ne _ _ (by omega), sA_A, up_eq]
                  · show (sA (sA (sA σ1 3 _) 4 _) 5 _).2.1 5 rl.length = _
                    rw [sA_A, up_eq]
                  · refine hrt_.low (fun j hj => ⟨?_, ?_, ?_⟩)
                    · show (sA (sA (sA σ1 3 _) 4 _) 5 _).2.1 3 j = _
                      rw [sA_ne _ _ (by omega), sA_ne _ _ (by omega), sA_A, up_ne _ _ (by omega)]
                    · show (sA (sA (sA σ1 3 _) 4 _) 5 _).2.1 4 j = _
                      rw [sA_ne _ _ (by omega), sA_A, up_ne _ _ (by omega), sA_ne _ _ (by omega)]
                    · show (sA (sA (sA σ1 3 _) 4 _) 5 _).2.1 5 j = _
                      rw [sA_A, up_ne _ _ (by omega), sA_ne _ _ (by omega), sA_ne _ _ (by omega)]
                  · rw [sF_F]; rfl
                  · rw [sF_ne _ _ (by omega)]; exact h1_
                  · show (sA (sA (sA σ1 3 _) 4 _) 5 _).2.1 2 = _
                    rw [sA_ne _ _ (by omega), sA_ne _ _ (by omega), sA_ne _ _ (by omega)]; exact h2_
                  · rw [sF_ne _ _ (by omega)]; exact h6_
              · have ze_ : extT ch i = true := by rw [hext_, zr_, show decide (ksT ch i = (if i = 0 then 32 else ksT ch (i - 1))) = true by simp only [decide_eq_true_eq]; exact nI_pe (by omega) (by omega) hb_61]; rfl
                refine V.aload_n C 0 rfl rfl dX8_split_64 ?_
                refine V.getI C fX8_33 dX8_split_65 (by assumption) rfl ?_
                rw [h5_]
                refine V.if_le C 89 dX8_split_68 rfl (fun hb_68 => ?_) (fun hb_68 => ?_)
                · exact absurd hb_68 (nI_nle (by
                    cases hq : rl with
                    | nil =>
                      rw [hq] at hsc_
                      have he2_ : 0 < i ∧ ksT ch (i - 1) = ksT ch i := by unfold extT at ze_; simp only [Bool.and_eq_true, decide_eq_true_eq] at ze_; exact ⟨ze_.1.1, ze_.2⟩
                      have h9_ := hsc_ (i - 1) (by omega)
                      rw [he2_.2] at h9_
                      unfold isRun at zr_; rw [h9_] at zr_; simp at zr_
                    | cons t r => simp) (by omega))
                · obtain ⟨t0_, r0_, hrl_⟩ : ∃ t r, rl = t :: r := by
                    cases hq : rl with
                    | nil => rw [hq] at hb_68; exact absurd (show nI 0 ≤ 0 from (by decide)) hb_68
                    | cons t r => exact ⟨t, r, rfl⟩
                  subst hrl_
                  obtain ⟨tt_, sc2_⟩ := scan_ext hsc_ ze_
                  obtain ⟨l3_, l4_, l5_, l0_⟩ := hrt_
                  have hln_ : (t0_ :: r0_).length = r0_.length + 1 := rfl
                  refine V.aload_n C 0 rfl rfl dX8_split_71 ?_
                  refine V.getR C fX8_22 dX8_split_72 (by assumption) rfl ?_
                  refine V.aload_n C 0 rfl rfl dX8_split_75 ?_
                  refine V.getI C fX8_33 dX8_split_76 (by assumption) rfl ?_
                  rw [h5_]
                  refine V.iconst C (nI 1) c_1 dX8_split_79 ?_
                  refine V.isub C dX8_split_80 ?_
                  rw [show nI (t0_ :: r0_).length - nI 1 = nI r0_.length by rw [nI_sub (by simp)]; simp]
                  refine V.dup2 C rfl rfl dX8_split_81 ?_
                  refine V.ialdN C dX8_split_82 (by assumption) (by omega) ?_
                  rw [l5_]
                  refine V.iconst C (nI 1) c_1 dX8_split_83 ?_
                  refine V.iadd C dX8_split_84 ?_
                  rw [show nI t0_.2 + nI 1 = nI (t0_.2 + 1) from nI_add _ 1]
                  refine V.iastN C dX8_split_85 (by assumption) (by omega) ?_
                  refine V.goto C 135 dX8_split_86 rfl ?_
                  refine V.iload_n C 3 rfl rfl dX8_split_135 ?_
                  refine V.istore_n C 1 dX8_split_136 rfl (by decide) ?_
                  refine V.iinc C (nI (i + 1)) dX8_split_137 rfl (nI_1 i) (by decide) ?_
                  refine V.goto C 15 dX8_split_140 rfl ?_
                  have ep_ : nI (ksT ch i) = nI (if (i + 1) = 0 then 32 else ksT ch ((i + 1) - 1)) := by rw [if_neg (by omega), show i + 1 - 1 = i by omega]
                  refine V.lvs (lv' := [(0, Rf G 1), (1, .int (nI (if (i + 1) = 0 then 32 else ksT ch ((i + 1) - 1)))), (2, .int (nI (i + 1)))]) (by rw [← ep_]; rfl) ?_
                  refine ih (i + 1) ((t0_.1, t0_.2 + 1) :: r0_) _ (by omega) (by omega) sc2_ ⟨?_, ?_, ?_, ?_⟩ h5_ (hF_.sA _ (by omega) (by omega)) h1_ ?_ h6_
                  · rw [sA_ne _ _ (by omega)]; exact l3_
                  · rw [sA_ne _ _ (by omega)]; exact l4_
                  · rw [sA_A, up_eq]
                  · refine l0_.low (fun j hj => ⟨?_, ?_, ?_⟩)
                    · rw [sA_ne _ _ (by omega)]
                    · rw [sA_ne _ _ (by omega)]
                    · rw [sA_A, up_ne _ _ (by omega)]
                  · rw [sA_ne _ _ (by omega)]; exact h2_
  refine V.aload_n C 0 rfl rfl dX8_split_0 ?_
  refine V.iconst C (nI 0) c_0 dX8_split_1 ?_
  refine V.putI C fX8_33 dX8_split_2 (by assumption) rfl ?_
  refine V.aload_n C 0 rfl rfl dX8_split_5 ?_
  refine V.iconst C (nI 0) c_0 dX8_split_6 ?_
  refine V.putI C fX8_36 dX8_split_7 (by assumption) rfl ?_
  refine V.bipush C (nI 32) b_32 dX8_split_10 ?_
  refine V.istore_n C 1 dX8_split_12 rfl (by decide) ?_
  refine V.iconst C (nI 0) c_0 dX8_split_13 ?_
  refine V.istore_n C 2 dX8_split_14 rfl (by decide) ?_
  refine V.lvs (lv' := [(0, Rf G 1), (1, .int (nI 32)), (2, .int (nI 0))]) rfl ?_
  exact loop (n + 1) 0 [] _ (by omega) (by omega) (fun q hq => absurd hq (by omega)) trivial (by rw [sF_ne _ _ (by omega), sF_F]; rfl) (((Fr.refl 1 6 σ).sF _ _ (by omega) (by omega)).sF _ _ (by omega) (by omega)) (by rw [sF_ne _ _ (by omega), sF_ne _ _ (by omega)]) rfl (by rw [sF_F])
