/-! The grammar: what a text says, from a token's start on; an error is the start of the token at which it is found. -/
def pRange (ch : Nat → Nat) (n b h : Nat) : Except Nat (Nat × Nat × Nat) :=
  match numT ch n b with
  | none => .error b
  | some x => if x ≤ h then
      (if kKT ch n (nxT ch n b) = 58 then
        (match numT ch n (nxT ch n (nxT ch n b)) with
        | none => .error (nxT ch n (nxT ch n b))
        | some y => if y ≤ x then (if kKT ch n (nxT ch n (nxT ch n (nxT ch n b))) = 93 then .ok (x, y, nxT ch n (nxT ch n (nxT ch n (nxT ch n b)))) else .error (nxT ch n (nxT ch n (nxT ch n b)))) else .error (nxT ch n (nxT ch n b)))
      else .error (nxT ch n b))
    else .error b
def cstL (ch : Nat → Nat) (b pt m : Nat) : List Nat := (List.range m).map (fun j => (if ch (b + j) = 49 then 1 else 0) + 256 * pt)
def pPart (ch : Nat → Nat) (n : Nat) (w : Nat → Nat) (a pt : Nat) : Except Nat (List Nat × Nat) :=
  if kKT ch n a = 37 then (if cstT ch n (nxT ch n a) = 0 then .error (nxT ch n a) else .ok (cstL ch (nxT ch n a) pt (cstT ch n (nxT ch n a)), nxT ch n (nxT ch n a)))
  else if kKT ch n a = 258 ∧ ¬ w (ch a - 97) = 0 then
    (if kKT ch n (nxT ch n a) = 91 then (match pRange ch n (nxT ch n (nxT ch n a)) (w (ch a - 97) - 1) with
      | .error e => .error e
      | .ok t => .ok (rngB (ch a - 97) pt t.1 (t.1 + 1 - t.2.1), t.2.2))
    else .ok (rngB (ch a - 97) pt (w (ch a - 97) - 1) (w (ch a - 97) - 1 + 1 - 0), nxT ch n a))
  else .error a
def pTail (ch : Nat → Nat) (n : Nat) (w : Nat → Nat) : Nat → Nat → List Nat → Nat → Except Nat (List Nat × Nat)
  | 0, a, _, _ => .error a
  | f + 1, a, bs, pt => if kKT ch n a = 46 then (match pPart ch n w (nxT ch n a) (pt + 1) with
      | .error e => .error e
      | .ok t => pTail ch n w f t.2 (bs ++ t.1) (pt + 1)) else .ok (bs, a)
def pTerm (ch : Nat → Nat) (n : Nat) (w : Nat → Nat) (a : Nat) : Except Nat (List Nat × Nat) :=
  match pPart ch n w a 0 with
  | .error e => .error e
  | .ok t => pTail ch n w 201 t.2 t.1 0
def pStm (ch : Nat → Nat) (n : Nat) (w : Nat → Nat) (a : Nat) : Except Nat (Stm × Nat) :=
  match pTerm ch n w a with
  | .error e => .error e
  | .ok t => if t.1.length ≤ 16 ∧ kKT ch n t.2 = 61 then (match pTerm ch n w (nxT ch n t.2) with
      | .error e => .error e
      | .ok t2 => if t2.1.length = t.1.length ∧ kKT ch n t2.2 = 59 then .ok ((t.1.length, rowT t.1, rowT t2.1), nxT ch n t2.2) else .error t2.2)
    else .error t.2
def pDecl (ch : Nat → Nat) (n : Nat) (P : Prob) (b : Nat) : Except Nat (Prob × Nat) :=
  if kKT ch n b = 258 ∧ P.1 (ch b - 97) = 0 then (match numT ch n (nxT ch n b) with
    | none => .error (nxT ch n b)
    | some x => if 1 ≤ x ∧ x ≤ 16 then (if kKT ch n (nxT ch n (nxT ch n b)) = 59 then .ok ((va_up P.1 (ch b - 97) x, P.2.1, P.2.2), nxT ch n (nxT ch n (nxT ch n b))) else .error (nxT ch n (nxT ch n b))) else .error (nxT ch n b))
  else .error b
def pItem (ch : Nat → Nat) (n : Nat) (P : Prob) (a : Nat) : Except Nat (Prob × Nat) :=
  if kKT ch n a = 259 then pDecl ch n P (nxT ch n a)
  else if kKT ch n a = 260 then (if P.2.2.length < 3 then (match pStm ch n P.1 (nxT ch n a) with
      | .error e => .error e
      | .ok t => .ok ((P.1, P.2.1, P.2.2 ++ [t.1]), t.2)) else .error a)
  else (if P.2.1.length < 10 then (match pStm ch n P.1 a with
      | .error e => .error e
      | .ok t => .ok ((P.1, P.2.1 ++ [t.1], P.2.2), t.2)) else .error a)
def pAll (ch : Nat → Nat) (n : Nat) : Nat → Prob → Nat → Except Nat Prob
  | 0, _, a => .error a
  | f + 1, P, a => if kKT ch n a = 261 then .ok P else (match pItem ch n P a with
      | .error e => .error e
      | .ok t => pAll ch n f t.1 t.2)
theorem tEnd_gt {ch : Nat → Nat} {n a : Nat} (h : a < n) : a < tEnd ch n a ∧ tEnd ch n a ≤ n := by
  unfold tEnd
  have key : ∀ f : Nat → Bool, f a = true → a < runE f n a ∧ runE f n a ≤ n := fun f hf => by
    refine ⟨?_, runE_le (by omega)⟩
    obtain ⟨h1, _, h3⟩ := runE_spec f n a
    rcases Nat.lt_or_eq_of_le h1 with q | q
    · exact q
    · exact absurd ⟨by omega, by rw [← q]; exact hf⟩ h3
  split
  · exact key _ (by assumption)
  · split
    · exact key _ (by assumption)
    · omega
theorem nxT_gt {ch : Nat → Nat} {n a : Nat} (h : a < n) : a < nxT ch n a ∧ nxT ch n a ≤ n := by
  obtain ⟨h1, h2⟩ := tEnd_gt (ch := ch) h
  unfold nxT skipT
  have := (runE_spec (fun q => decide (ch q = 32)) n (tEnd ch n a)).1
  exact ⟨by omega, runE_le h2⟩
theorem kKT_lt {ch : Nat → Nat} {n a : Nat} (h : ¬ kKT ch n a = 261) : a < n := by
  rcases Nat.lt_or_ge a n with q | q
  · exact q
  · exact absurd (by unfold kKT; rw [if_neg (by omega)]) h
theorem numT_lt {ch : Nat → Nat} {n a x : Nat} (h : numT ch n a = some x) : kKT ch n a = 257 ∧ a < n := by
  unfold numT at h
  by_cases q : kKT ch n a = 257
  · exact ⟨q, kKT_lt (by rw [q]; decide)⟩
  · rw [if_neg q] at h; exact absurd h (by simp)
theorem cstT_lt {ch : Nat → Nat} {n a : Nat} (h : ¬ cstT ch n a = 0) : a < n ∧ kKT ch n a = 257 ∧ cstT ch n a = tEnd ch n a - a ∧ cstT ch n a ≤ 16 ∧ (∀ j, j < tEnd ch n a - a → ch (a + j) ≤ 49) := by
  unfold cstT at h ⊢
  split at h
  · rename_i q
    rw [if_pos q]
    exact ⟨kKT_lt (by rw [q.1]; decide), q.1, rfl, q.2.1, q.2.2⟩
  · exact absurd rfl h
theorem numT_100 {ch : Nat → Nat} {n a x : Nat} (hc : ∀ i, i < n → ch i < 256) (h : numT ch n a = some x) : x < 100 := by
  obtain ⟨hk, ha⟩ := numT_lt h
  have hd : isDg (ch a) = true := kdT_257 (hc a ha) (by unfold kKT at hk; rw [if_pos ha] at hk; exact hk)
  have hd1 : 48 ≤ ch a ∧ ch a ≤ 57 := by unfold isDg at hd; simpa using hd
  unfold numT at h
  rw [if_pos hk] at h
  split at h
  · injection h with h; omega
  · split at h
    · rename_i q2
      have hd2 := dg_run (n := n) (j := a + 1) hd (by omega) (by omega)
      have hd3 : 48 ≤ ch (a + 1) ∧ ch (a + 1) ≤ 57 := by unfold isDg at hd2; simpa using hd2
      injection h with h; omega
    · exact absurd h (by simp)
theorem oN_neg {v : Option Nat} (h : oN v < 0) (hb : ∀ x, v = some x → x < 100) : v = none := by
  cases v with
  | none => rfl
  | some x =>
    have := hb x rfl
    have h2 := (lt0_iff _).mp h
    rw [show oN (some x) = nI x from rfl, nI_toInt (by omega)] at h2; omega
theorem oN_nn {v : Option Nat} (h : ¬ oN v < 0) : ∃ x, v = some x := by
  cases v with
  | none => exact absurd (by decide : oN none < 0) h
  | some x => exact ⟨x, rfl⟩
/-- the text with its tokens and the token that is next -/
def TC (σ : SS) (n : Nat) (ch : Nat → Nat) (ts : List Nat) (k a : Nat) : Prop := RT σ n ch ∧ RTk σ n ch ts ∧ CurT σ n ts k a
theorem TC.fr {σ σ1 : SS} {n : Nat} {ch : Nat → Nat} {ts : List Nat} {k a x y : Nat} (h : TC σ n ch ts k a) (hF : Fr x y σ σ1) (hx : 6 ≤ x) : TC σ1 n ch ts k a := by
  refine ⟨h.1.fr hF (by omega), ?_, ?_⟩
  · have := h.2.1
    unfold RTk at this ⊢
    rw [hF.F (by omega), hF.A (by omega), hF.A (by omega), hF.A (by omega)]; exact this
  · have := h.2.2
    unfold CurT at this ⊢
    rw [hF.F (by omega)]; exact this
theorem TC.step {σ : SS} {n : Nat} {ch : Nat → Nat} {ts : List Nat} {k a : Nat} (h : TC σ n ch ts k a) (ha : a < n) : TC (sF σ 1 6 (nI (k + 1))) n ch ts (k + 1) (nxT ch n a) :=
  ⟨h.1.at _, h.2.1.at _, h.2.2.step h.2.1 ha⟩
theorem TC.ch {σ : SS} {n : Nat} {ch : Nat → Nat} {ts : List Nat} {k a : Nat} (h : TC σ n ch ts k a) : ∀ i, i < n → ch i < 256 := fun i hi => (h.1.2.2 i hi).2
theorem fr16 (σ : SS) (v : Int32) : Fr 1 2 σ (sF σ 1 6 v) := (Fr.refl 1 2 σ).sF _ _ (by omega) (by omega)
theorem tc_adv {σ σ1 : SS} {n : Nat} {ch : Nat → Nat} {ts : List Nat} {k a : Nat} (h : TC σ n ch ts k a) (ha : a < n) (p : σ1 = sF σ 1 6 (nI (k + 1)) ∧ CurT σ1 n ts (k + 1) (nxT ch n a)) : TC σ1 n ch ts (k + 1) (nxT ch n a) ∧ Fr 1 2 σ σ1 := by
  rw [p.1]; exact ⟨h.step ha, fr16 _ _⟩
theorem tc_pass {σ σ1 : SS} {n : Nat} {ch : Nat → Nat} {ts : List Nat} {k a c : Nat} {r : Int32} (h : TC σ n ch ts k a) (p : r = bI (decide (kKT ch n a = c)) ∧ (kKT ch n a = c → a < n ∧ σ1 = sF σ 1 6 (nI (k + 1)) ∧ CurT σ1 n ts (k + 1) (nxT ch n a)) ∧ (¬ kKT ch n a = c → σ1 = σ)) : r = bI (decide (kKT ch n a = c)) ∧ (kKT ch n a = c → a < n ∧ TC σ1 n ch ts (k + 1) (nxT ch n a)) ∧ (¬ kKT ch n a = c → TC σ1 n ch ts k a) ∧ Fr 1 2 σ σ1 := by
    refine ⟨p.1, fun q => ?_, fun q => ?_, ?_⟩
    · obtain ⟨z1, z2, z3⟩ := p.2.1 q
      rw [z2]; exact ⟨z1, h.step z1⟩
    · rw [p.2.2 q]; exact h
    · by_cases q : kKT ch n a = c
      · rw [(p.2.1 q).2.1]; exact fr16 _ _
      · rw [p.2.2 q]; exact Fr.refl _ _ _
set_option maxRecDepth 100000 in
set_option maxHeartbeats 4000000 in
theorem ct_Rd_range (G : Gl) (σ : SS) (n : Nat) (ch : Nat → Nat) (ts : List Nat) (k a h : Nat) (hC : TC σ n ch ts k a) (hh : σ.1 6 2 = nI h) (hh16 : h < 16) : CI G mX5_readRange [Rf G 6] σ (fun r σ1 => ((∃ x y b k1, pRange ch n a h = .ok (x, y, b) ∧ r = 1 ∧ y ≤ x ∧ x ≤ h ∧ σ1.1 6 2 = nI x ∧ σ1.1 6 3 = nI y ∧ TC σ1 n ch ts k1 b) ∨ (∃ e k1, pRange ch n a h = .error e ∧ r = 0 ∧ TC σ1 n ch ts k1 e)) ∧ Fr 1 7 σ σ1) := by
  refine Ctr.of oX5_readRange (Nat.le_of_ble_eq_true rfl) ?_
  intro X C R hnm hz0
  have C : Cx G X cX5_readRange 3 RX5 1 22 0 0 := C
  have R : Cr G X (some .boolean) 0 0 _ := R
  show V G X 3 0 0 0 [(0, Rf G 6)] [] (wld G σ)
  have kk_1 := sk_1
  have kk_6 := sk_6
  have kk_7 := sk_7
  refine V.aload_n C 0 rfl rfl dX5_readRange_0 ?_
  refine V.getR C fX5_18 dX5_readRange_1 (by assumption) rfl ?_
  refine V.cVi C lX5_60 oX8_number dX5_readRange_4 (ct_Tx_number G σ n ch ts k a hC.1 hC.2.1 hC.2.2) (by assumption) rfl rfl (Nat.le_of_ble_eq_true rfl) ⟨Nat.le_of_ble_eq_true rfl, Nat.le_of_ble_eq_true rfl⟩ ⟨Nat.le_of_ble_eq_true rfl, Nat.le_of_ble_eq_true rfl⟩ (fun rr_4 σ4 pp_4 => ?_)
  obtain ⟨ee_4, ff_4⟩ := pp_4
  rw [ee_4, ff_4]
  refine V.istore_n C 1 dX5_readRange_7 rfl (by decide) ?_
  refine V.iload_n C 1 rfl rfl dX5_readRange_8 ?_
  refine V.if_lt C 20 dX5_readRange_9 rfl (fun hb_9 => ?_) (fun hb_9 => ?_)
  · have no_ := oN_neg hb_9 (fun x hx => numT_100 hC.ch hx)
    refine V.iconst C (nI 0) c_0 dX5_readRange_20 ?_
    exact V.zretS C R dX5_readRange_21 (by first | exact Or.inl rfl | exact Or.inr rfl | exact bI01 _) ⟨Or.inr ⟨a, k, by unfold pRange; rw [no_], rfl, hC⟩, Fr.refl _ _ _⟩
  · obtain ⟨x, hx_⟩ := oN_nn hb_9
    have x100_ := numT_100 hC.ch hx_
    have lt_ := (numT_lt hx_).2
    rw [hx_, show oN (some x) = nI x from rfl]
    refine V.iload_n C 1 rfl rfl dX5_readRange_12 ?_
    refine V.aload_n C 0 rfl rfl dX5_readRange_13 ?_
    refine V.getI C fX5_101 dX5_readRange_14 (by assumption) rfl ?_
    rw [hh]
    refine V.icmp_le C 22 dX5_readRange_17 rfl (fun hb_17 => ?_) (fun hb_17 => ?_)
    · have le_ := (nI_leI (by omega) (by omega)).mp hb_17
      refine V.aload_n C 0 rfl rfl dX5_readRange_22 ?_
      refine V.iload_n C 1 rfl rfl dX5_readRange_23 ?_
      refine V.putI C fX5_101 dX5_readRange_24 (by assumption) rfl ?_
      refine V.aload_n C 0 rfl rfl dX5_readRange_27 ?_
      refine V.getR C fX5_18 dX5_readRange_28 (by assumption) rfl ?_
      refine V.cVv C lX5_57 oX8_advance dX5_readRange_31 (ct_Tx_advance G _ n ch ts k a (hC.fr ((Fr.refl 6 7 σ).sF 2 (nI x) (by omega) (by omega)) (by omega)).1 (hC.fr ((Fr.refl 6 7 σ).sF 2 (nI x) (by omega) (by omega)) (by omega)).2.1 (hC.fr ((Fr.refl 6 7 σ).sF 2 (nI x) (by omega) (by omega)) (by omega)).2.2 lt_) (by assumption) rfl rfl (Nat.le_of_ble_eq_true rfl) ⟨Nat.le_of_ble_eq_true rfl, Nat.le_of_ble_eq_true rfl⟩ ⟨Nat.le_of_ble_eq_true rfl, Nat.le_of_ble_eq_true rfl⟩ (fun σ31 pp_31 => ?_)
      have pp_31 := tc_adv (hC.fr ((Fr.refl 6 7 σ).sF 2 (nI x) (by omega) (by omega)) (by omega)) lt_ pp_31
      have F31_ : Fr 1 7 σ σ31 := (((Fr.refl 1 7 σ).sF _ _ (by omega) (by omega)).trans (pp_31.2.mono (by omega) (by omega)))
      refine V.aload_n C 0 rfl rfl dX5_readRange_34 ?_
      refine V.getR C fX5_18 dX5_readRange_35 (by assumption) rfl ?_
      refine V.bipush C (nI 58) b_58 dX5_readRange_38 ?_
      refine V.cVi C lX5_36 oX8_pass dX5_readRange_40 (ct_Tx_pass G σ31 n ch ts (k + 1) (nxT ch n a) (pp_31.1).1 (pp_31.1).2.1 (pp_31.1).2.2 58 (by decide)) (by assumption) rfl rfl (Nat.le_of_ble_eq_true rfl) ⟨Nat.le_of_ble_eq_true rfl, Nat.le_of_ble_eq_true rfl⟩ ⟨Nat.le_of_ble_eq_true rfl, Nat.le_of_ble_eq_true rfl⟩ (fun rr_40 σ40 pp_40 => ?_)
      obtain ⟨ee_40, y_40, n_40, f_40⟩ := tc_pass (pp_31.1) pp_40
      rw [ee_40]
      refine V.if_ne C 48 dX5_readRange_43 rfl (fun hb_43 => ?_) (fun hb_43 => ?_)
      · have z43_ : kKT ch n (nxT ch n a) = 58 := of_decide_eq_true (bI_ne0 hb_43)
        obtain ⟨lt1_, tc_⟩ := y_40 z43_
        have hx40_ : σ40.1 6 2 = nI x := by rw [f_40.F (by omega), pp_31.2.F (by omega)]; exact sF_F _ _ _ _
        refine V.aload_n C 0 rfl rfl dX5_readRange_48 ?_
        refine V.getR C fX5_18 dX5_readRange_49 (by assumption) rfl ?_
        refine V.cVi C lX5_60 oX8_number dX5_readRange_52 (ct_Tx_number G σ40 n ch ts (k + 2) _ tc_.1 tc_.2.1 tc_.2.2) (by assumption) rfl rfl (Nat.le_of_ble_eq_true rfl) ⟨Nat.le_of_ble_eq_true rfl, Nat.le_of_ble_eq_true rfl⟩ ⟨Nat.le_of_ble_eq_true rfl, Nat.le_of_ble_eq_true rfl⟩ (fun rr_52 σ52 pp_52 => ?_)
        obtain ⟨ee_52, ff_52⟩ := pp_52
        rw [ee_52, ff_52]
        refine V.istore_n C 2 dX5_readRange_55 rfl (by decide) ?_
        refine V.iload_n C 2 rfl rfl dX5_readRange_56 ?_
        refine V.if_lt C 68 dX5_readRange_57 rfl (fun hb_57 => ?_) (fun hb_57 => ?_)
        · have no_ := oN_neg hb_57 (fun x hx => numT_100 hC.ch hx)
          refine V.iconst C (nI 0) c_0 dX5_readRange_68 ?_
          exact V.zretS C R dX5_readRange_69 (by first | exact Or.inl rfl | exact Or.inr rfl | exact bI01 _) ⟨Or.inr ⟨_, k + 2, by unfold pRange; rw [hx_]; simp only [if_pos le_, if_pos z43_, no_], rfl, tc_⟩, F31_.trans (f_40.mono (by omega) (by omega))⟩
        · obtain ⟨y, hy_⟩ := oN_nn hb_57
          have y100_ := numT_100 hC.ch hy_
          have lt2_ := (numT_lt hy_).2
          rw [hy_, show oN (some y) = nI y from rfl]
          refine V.iload_n C 2 rfl rfl dX5_readRange_60 ?_
          refine V.aload_n C 0 rfl rfl dX5_readRange_61 ?_
          refine V.getI C fX5_101 dX5_readRange_62 (by assumption) rfl ?_
          rw [show σ40.1 6 2 = nI x from hx40_]
          refine V.icmp_le C 70 dX5_readRange_65 rfl (fun hb_65 => ?_) (fun hb_65 => ?_)
          · have le2_ := (nI_leI (by omega) (by omega)).mp hb_65
            refine V.aload_n C 0 rfl rfl dX5_readRange_70 ?_
            refine V.iload_n C 2 rfl rfl dX5_readRange_71 ?_
            refine V.putI C fX5_105 dX5_readRange_72 (by assumption) rfl ?_
            refine V.aload_n C 0 rfl rfl dX5_readRange_75 ?_
            refine V.getR C fX5_18 dX5_readRange_76 (by assumption) rfl ?_
            refine V.cVv C lX5_57 oX8_advance dX5_readRange_79 (ct_Tx_advance G _ n ch ts (k + 2) _ (tc_.fr ((Fr.refl 6 7 σ40).sF 3 (nI y) (by omega) (by omega)) (by omega)).1 (tc_.fr ((Fr.refl 6 7 σ40).sF 3 (nI y) (by omega) (by omega)) (by omega)).2.1 (tc_.fr ((Fr.refl 6 7 σ40).sF 3 (nI y) (by omega) (by omega)) (by omega)).2.2 lt2_) (by assumption) rfl rfl (Nat.le_of_ble_eq_true rfl) ⟨Nat.le_of_ble_eq_true rfl, Nat.le_of_ble_eq_true rfl⟩ ⟨Nat.le_of_ble_eq_true rfl, Nat.le_of_ble_eq_true rfl⟩ (fun σ79 pp_79 => ?_)
            have pp_79 := tc_adv (tc_.fr ((Fr.refl 6 7 σ40).sF 3 (nI y) (by omega) (by omega)) (by omega)) lt2_ pp_79
            refine V.aload_n C 0 rfl rfl dX5_readRange_82 ?_
            refine V.getR C fX5_18 dX5_readRange_83 (by assumption) rfl ?_
            refine V.bipush C (nI 93) b_93 dX5_readRange_86 ?_
            refine V.cVi C lX5_36 oX8_pass dX5_readRange_88 (ct_Tx_pass G σ79 n ch ts (k + 3) _ (pp_79.1).1 (pp_79.1).2.1 (pp_79.1).2.2 93 (by decide)) (by assumption) rfl rfl (Nat.le_of_ble_eq_true rfl) ⟨Nat.le_of_ble_eq_true rfl, Nat.le_of_ble_eq_true rfl⟩ ⟨Nat.le_of_ble_eq_true rfl, Nat.le_of_ble_eq_true rfl⟩ (fun rr_88 σ88 pp_88 => ?_)
            obtain ⟨ee_88, y_88, n_88, f_88⟩ := tc_pass (pp_79.1) pp_88
            rw [ee_88]
            exact V.zretS C R dX5_readRange_91 (by first | exact Or.inl rfl | exact Or.inr rfl | exact bI01 _) (by
              have F88_ : Fr 1 7 σ σ88 := ((F31_.trans (f_40.mono (by omega) (by omega))).sF _ _ (by omega) (by omega)).trans ((pp_79.2.mono (by omega) (by omega)).trans (f_88.mono (by omega) (by omega)))
              have e2_ : σ88.1 6 2 = nI x := by rw [f_88.F (by omega), pp_79.2.F (by omega), sF_ne _ _ (by omega)]; exact hx40_
              have e3_ : σ88.1 6 3 = nI y := by rw [f_88.F (by omega), pp_79.2.F (by omega)]; exact sF_F _ _ _ _
              by_cases z_ : kKT ch n (nxT ch n (nxT ch n (nxT ch n a))) = 93
              · exact ⟨Or.inl ⟨x, y, _, k + 4, by unfold pRange; rw [hx_]; simp only [if_pos le_, if_pos z43_, hy_, if_pos le2_, if_pos z_], by rw [decide_eq_true z_]; rfl, le2_, le_, e2_, e3_, (y_88 z_).2⟩, F88_⟩
              · exact ⟨Or.inr ⟨_, k + 3, by unfold pRange; rw [hx_]; simp only [if_pos le_, if_pos z43_, hy_, if_pos le2_, if_neg z_], by rw [decide_eq_false z_]; rfl, n_88 z_⟩, F88_⟩)
          · have le2_ : ¬ y ≤ x := fun q => hb_65 (nI_le q (by omega))
            refine V.iconst C (nI 0) c_0 dX5_readRange_68 ?_
            exact V.zretS C R dX5_readRange_69 (by first | exact Or.inl rfl | exact Or.inr rfl | exact bI01 _) ⟨Or.inr ⟨_, k + 2, by unfold pRange; rw [hx_]; simp only [if_pos le_, if_pos z43_, hy_, if_neg le2_], rfl, tc_⟩, F31_.trans (f_40.mono (by omega) (by omega))⟩
      · have z43_ : ¬ kKT ch n (nxT ch n a) = 58 := of_decide_eq_false (bI_eq0 hb_43)
        refine V.iconst C (nI 0) c_0 dX5_readRange_46 ?_
        exact V.zretS C R dX5_readRange_47 (by first | exact Or.inl rfl | exact Or.inr rfl | exact bI01 _) ⟨Or.inr ⟨nxT ch n a, k + 1, by unfold pRange; rw [hx_]; simp only [if_pos le_, if_neg z43_], rfl, n_40 z43_⟩, F31_.trans (f_40.mono (by omega) (by omega))⟩
    · have le_ : ¬ x ≤ h := fun q => hb_17 (nI_le q (by omega))
      refine V.iconst C (nI 0) c_0 dX5_readRange_20 ?_
      exact V.zretS C R dX5_readRange_21 (by first | exact Or.inl rfl | exact Or.inr rfl | exact bI01 _) ⟨Or.inr ⟨a, k, by unfold pRange; rw [hx_]; simp only [if_neg le_], rfl, hC⟩, Fr.refl _ _ _⟩
theorem cn_cst {b pt : Nat} (hb : b < 2) : cn (b + 256 * pt) = 128 + b := by
  have e : (b + 256 * pt) % 256 = b := by omega
  unfold cn isV; rw [e, decide_eq_false (by omega)]; rfl
theorem cstL_len (ch : Nat → Nat) (b pt m : Nat) : (cstL ch b pt m).length = m := by unfold cstL; rw [List.length_map, List.length_range]
theorem cstL_succ (ch : Nat → Nat) (b pt m : Nat) : cstL ch b pt (m + 1) = cstL ch b pt m ++ [(if ch (b + m) = 49 then 1 else 0) + 256 * pt] := by
  unfold cstL; rw [List.range_succ, List.map_append]; rfl
theorem cstL_last {ch : Nat → Nat} {bs : List Nat} {b pt m : Nat} (h : 0 < m) : 0 < (bs ++ cstL ch b pt m).length ∧ (bs ++ cstL ch b pt m).getD ((bs ++ cstL ch b pt m).length - 1) 0 / 256 = pt := by
  obtain ⟨m, rfl⟩ : ∃ j, m = j + 1 := ⟨m - 1, by omega⟩
  rw [cstL_succ, ← List.append_assoc]
  refine ⟨by simp; omega, ?_⟩
  rw [last_app]
  split <;> omega
theorem cst16 (ch : Nat → Nat) (n a : Nat) : cstT ch n a ≤ 16 := by unfold cstT; split <;> omega
set_option maxRecDepth 100000 in
set_option maxHeartbeats 4000000 in
theorem ct_Rd_const (G : Gl) (σ : SS) (n : Nat) (ch : Nat → Nat) (ts : List Nat) (k a pt : Nat) (bs : List Nat) (hC : TC σ n ch ts k a) (hR : RTm σ bs false) (hl : bs.length < 2 ^ 28) (hnew : newP bs pt) : CI G mX5_readConstant [Rf G 6] σ (fun r σ1 => (¬ cstT ch n a = 0 → r = 1 ∧ RTm σ1 (bs ++ cstL ch a pt (cstT ch n a)) false ∧ TC σ1 n ch ts (k + 1) (nxT ch n a)) ∧ (cstT ch n a = 0 → r = 0 ∧ TC σ1 n ch ts k a) ∧ Fr 1 9 σ σ1) := by
  refine Ctr.of oX5_readConstant (Nat.le_of_ble_eq_true rfl) ?_
  intro X C R hnm hz0
  have C : Cx G X cX5_readConstant 3 RX5 1 22 0 0 := C
  have R : Cr G X (some .boolean) 0 0 _ := R
  show V G X 3 0 0 0 [(0, Rf G 6)] [] (wld G σ)
  have kk_1 := sk_1
  have kk_6 := sk_6
  have kk_7 := sk_7
  have loop : ∀ (m i : Nat) (σ2 : SS), ¬ cstT ch n a = 0 → a < n → cstT ch n a = tEnd ch n a - a → cstT ch n a ≤ 16 → cstT ch n a < i + m → i ≤ cstT ch n a → RTm σ2 (bs ++ cstL ch a pt i) (decide (i = 0)) → TC σ2 n ch ts k a → Fr 1 9 σ σ2 → V G X 3 0 0 23 [(0, Rf G 6), (1, .int (nI (cstT ch n a))), (2, .int (nI i))] [] (wld G σ2) := by
    intro m
    induction m with
    | zero =>
      intro i σ2 z_ lt_ ce_ c16_ hm hi hR2 hC2 hF2
      exact absurd hm (by omega)
    | succ m ih =>
      intro i σ2 z_ lt_ ce_ c16_ hm hi hR2 hC2 hF2
      refine V.iload_n C 2 rfl rfl dX5_readConstant_23 ?_
      refine V.iload_n C 1 rfl rfl dX5_readConstant_24 ?_
      refine V.icmp_ge C 53 dX5_readConstant_25 rfl (fun hb_25 => ?_) (fun hb_25 => ?_)
      · have zi_ : i = cstT ch n a := by have := (nI_leI (by omega) (by omega)).mp hb_25; omega
        refine V.aload_n C 0 rfl rfl dX5_readConstant_53 ?_
        refine V.getR C fX5_18 dX5_readConstant_54 (by assumption) rfl ?_
        refine V.cVv C lX5_57 oX8_advance dX5_readConstant_57 (ct_Tx_advance G σ2 n ch ts k a (hC2).1 (hC2).2.1 (hC2).2.2 lt_) (by assumption) rfl rfl (Nat.le_of_ble_eq_true rfl) ⟨Nat.le_of_ble_eq_true rfl, Nat.le_of_ble_eq_true rfl⟩ ⟨Nat.le_of_ble_eq_true rfl, Nat.le_of_ble_eq_true rfl⟩ (fun σ57 pp_57 => ?_)
        have pp_57 := tc_adv (hC2) lt_ pp_57
        refine V.iconst C (nI 1) c_1 dX5_readConstant_60 ?_
        exact V.zretS C R dX5_readConstant_61 (by first | exact Or.inl rfl | exact Or.inr rfl | exact bI01 _) ⟨fun _ => ⟨rfl, by
          subst zi_
          exact RTm.fr (by rw [show false = decide (cstT ch n a = 0) from (decide_eq_false z_).symm]; exact hR2) pp_57.2 (by omega), pp_57.1⟩, fun q => absurd q z_, hF2.trans (pp_57.2.mono (by omega) (by omega))⟩
      · have zi_ : i < cstT ch n a := Nat.lt_of_not_le (fun q => hb_25 (nI_le q (by omega)))
        have b2_ : (if ch (a + i) = 49 then 1 else 0) < 2 := by split <;> omega
        have hop_ : (bs ++ cstL ch a pt i).length < 16 → decide (i = 0) = begB ((bs ++ cstL ch a pt i) ++ [(if ch (a + i) = 49 then 1 else 0) + 256 * pt]) (bs ++ cstL ch a pt i).length := fun _ => by
          rcases Nat.eq_zero_or_pos i with q | q
          · subst q; rw [show cstL ch a pt 0 = [] from rfl, List.append_nil]; exact hop_t (by omega) hnew
          · rw [decide_eq_false (by omega)]; exact hop_f (by omega) (cstL_last q).1 (cstL_last q).2
        refine V.aload_n C 0 rfl rfl dX5_readConstant_28 ?_
        refine V.getR C fX5_12 dX5_readConstant_29 (by assumption) rfl ?_
        refine V.sipush C (nI 128) s_128 dX5_readConstant_32 ?_
        refine V.aload_n C 0 rfl rfl dX5_readConstant_35 ?_
        refine V.getR C fX5_18 dX5_readConstant_36 (by assumption) rfl ?_
        refine V.iload_n C 2 rfl rfl dX5_readConstant_39 ?_
        refine V.cVi C lX5_124 oX8_constantBit dX5_readConstant_40 (ct_Tx_cBit G σ2 n ch ts k a hC2.1 hC2.2.1 hC2.2.2 i lt_ (by omega)) (by assumption) rfl rfl (Nat.le_of_ble_eq_true rfl) ⟨Nat.le_of_ble_eq_true rfl, Nat.le_of_ble_eq_true rfl⟩ ⟨Nat.le_of_ble_eq_true rfl, Nat.le_of_ble_eq_true rfl⟩ (fun rr_40 σ40 pp_40 => ?_)
        obtain ⟨ee_40, ff_40⟩ := pp_40
        rw [ee_40, ff_40]
        refine V.iadd C dX5_readConstant_43 ?_
        rw [nI_add, ← cn_cst (pt := pt) b2_]
        refine V.cVv C lX5_127 oX7_add dX5_readConstant_44 (ct_Te_add G σ2 (bs ++ cstL ch a pt i) ((if ch (a + i) = 49 then 1 else 0) + 256 * pt) (decide (i = 0)) hR2 (by rw [List.length_append, cstL_len]; omega) hop_) (by assumption) rfl rfl (Nat.le_of_ble_eq_true rfl) ⟨Nat.le_of_ble_eq_true rfl, Nat.le_of_ble_eq_true rfl⟩ ⟨Nat.le_of_ble_eq_true rfl, Nat.le_of_ble_eq_true rfl⟩ (fun σ44 pp_44 => ?_)
        refine V.iinc C (nI (i + 1)) dX5_readConstant_47 rfl (nI_1 i) (by decide) ?_
        refine V.goto C 23 dX5_readConstant_50 rfl ?_
        refine V.lvs (lv' := [(0, Rf G 6), (1, .int (nI (cstT ch n a))), (2, .int (nI (i + 1)))]) rfl ?_
        exact ih (i + 1) σ44 z_ lt_ ce_ c16_ (by omega) (by omega) (by rw [cstL_succ, ← List.append_assoc, decide_eq_false (by omega)]; exact pp_44.1) (hC2.fr pp_44.2 (by omega)) (hF2.trans (pp_44.2.mono (by omega) (by omega)))
  refine V.aload_n C 0 rfl rfl dX5_readConstant_0 ?_
  refine V.getR C fX5_18 dX5_readConstant_1 (by assumption) rfl ?_
  refine V.cVi C lX5_118 oX8_constantBits dX5_readConstant_4 (ct_Tx_cBits G σ n ch ts k a hC.1 hC.2.1 hC.2.2) (by assumption) rfl rfl (Nat.le_of_ble_eq_true rfl) ⟨Nat.le_of_ble_eq_true rfl, Nat.le_of_ble_eq_true rfl⟩ ⟨Nat.le_of_ble_eq_true rfl, Nat.le_of_ble_eq_true rfl⟩ (fun rr_4 σ4 pp_4 => ?_)
  obtain ⟨ee_4, ff_4⟩ := pp_4
  rw [ee_4, ff_4]
  refine V.istore_n C 1 dX5_readConstant_7 rfl (by decide) ?_
  refine V.iload_n C 1 rfl rfl dX5_readConstant_8 ?_
  refine V.if_ne C 14 dX5_readConstant_9 rfl (fun hb_9 => ?_) (fun hb_9 => ?_)
  · have z_ : ¬ cstT ch n a = 0 := fun q => hb_9 (by rw [q]; rfl)
    obtain ⟨lt_, k7_, ce_, c16_, dd_⟩ := cstT_lt z_
    refine V.aload_n C 0 rfl rfl dX5_readConstant_14 ?_
    refine V.getR C fX5_12 dX5_readConstant_15 (by assumption) rfl ?_
    refine V.cVv C lX5_121 oX7_beginPart dX5_readConstant_18 (ct_Te_begin G σ bs hR) (by assumption) rfl rfl (Nat.le_of_ble_eq_true rfl) ⟨Nat.le_of_ble_eq_true rfl, Nat.le_of_ble_eq_true rfl⟩ ⟨Nat.le_of_ble_eq_true rfl, Nat.le_of_ble_eq_true rfl⟩ (fun σ18 pp_18 => ?_)
    refine V.iconst C (nI 0) c_0 dX5_readConstant_21 ?_
    refine V.istore_n C 2 dX5_readConstant_22 rfl (by decide) ?_
    refine V.lvs (lv' := [(0, Rf G 6), (1, .int (nI (cstT ch n a))), (2, .int (nI 0))]) rfl ?_
    exact loop (cstT ch n a + 1) 0 σ18 z_ lt_ ce_ c16_ (by omega) (by omega) (by rw [show cstL ch a pt 0 = [] from rfl, List.append_nil]; exact pp_18.1) (hC.fr pp_18.2 (by omega)) (pp_18.2.mono (by omega) (by omega))
  · have z_ : cstT ch n a = 0 := nI_pe (by have := cst16 ch n a; omega) (by decide) (show _ = nI 0 from hb_9)
    refine V.iconst C (nI 0) c_0 dX5_readConstant_12 ?_
    exact V.zretS C R dX5_readConstant_13 (by first | exact Or.inl rfl | exact Or.inr rfl | exact bI01 _) ⟨fun q => absurd z_ q, fun _ => ⟨rfl, hC⟩, Fr.refl _ _ _⟩
theorem nI_ne_m9 {a : Nat} (h : a < 2 ^ 30) : ¬ nI a = (-9) := fun q => by
  have h1 := congrArg Int32.toInt q
  rw [nI_toInt (by omega)] at h1
  rw [show (-9 : Int32).toInt = -9 by decide] at h1; omega
set_option maxRecDepth 100000 in
set_option maxHeartbeats 4000000 in
theorem ct_Rd_part (G : Gl) (σ : SS) (n : Nat) (ch : Nat → Nat) (ts : List Nat) (k a pt p : Nat) (bs : List Nat) (P : Prob) (hC : TC σ n ch ts k a) (hR : RTm σ bs false) (hl : bs.length < 2 ^ 28) (hnew : newP bs pt) (hA : PbA p) (hP : RP σ p P) (hp9 : 9 ≤ p) (hw : ∀ v, v < 8 → P.1 v ≤ 16) : CI G mX5_readPart [Rf G 6, Rf G p] σ (fun r σ1 => ((∃ l b k1, pPart ch n P.1 a pt = .ok (l, b) ∧ r = 1 ∧ RTm σ1 (bs ++ l) false ∧ TC σ1 n ch ts k1 b) ∨ (∃ e k1, pPart ch n P.1 a pt = .error e ∧ r = 0 ∧ TC σ1 n ch ts k1 e)) ∧ Fr 1 9 σ σ1) := by
  refine Ctr.of oX5_readPart (Nat.le_of_ble_eq_true rfl) ?_
  intro X C R hnm hz0
  have C : Cx G X cX5_readPart 3 RX5 2 44 0 0 := C
  have R : Cr G X (some .boolean) 0 0 _ := R
  show V G X 3 0 0 0 [(0, Rf G 6), (1, Rf G p)] [] (wld G σ)
  have kk_1 := sk_1
  have kk_6 := sk_6
  have kk_7 := sk_7
  have kk_p := hA.1
  refine V.aload_n C 0 rfl rfl dX5_readPart_0 ?_
  refine V.getR C fX5_18 dX5_readPart_1 (by assumption) rfl ?_
  refine V.bipush C (nI 37) b_37 dX5_readPart_4 ?_
  refine V.cVi C lX5_36 oX8_pass dX5_readPart_6 (ct_Tx_pass G σ n ch ts k a (hC).1 (hC).2.1 (hC).2.2 37 (by decide)) (by assumption) rfl rfl (Nat.le_of_ble_eq_true rfl) ⟨Nat.le_of_ble_eq_true rfl, Nat.le_of_ble_eq_true rfl⟩ ⟨Nat.le_of_ble_eq_true rfl, Nat.le_of_ble_eq_true rfl⟩ (fun rr_6 σ6 pp_6 => ?_)
  obtain ⟨ee_6, y_6, n_6, f_6⟩ := tc_pass (hC) pp_6
  rw [ee_6]
  refine V.if_eq C 17 dX5_readPart_9 rfl (fun hb_9 => ?_) (fun hb_9 => ?_)
  · have z9_ : ¬ kKT ch n a = 37 := of_decide_eq_false (bI_eq0 hb_9)
    have tc_ := n_6 z9_
    have hP6 : RP σ6 p P := hP.fr f_6 (by omega)
    have hR6 := hR.fr f_6 (by omega)
    refine V.aload_n C 0 rfl rfl dX5_readPart_17 ?_
    refine V.getR C fX5_18 dX5_readPart_18 (by assumption) rfl ?_
    refine V.cVi C lX5_50 oX8_name dX5_readPart_21 (ct_Tx_name G σ6 n ch ts k a tc_.1 tc_.2.1 tc_.2.2) (by assumption) rfl rfl (Nat.le_of_ble_eq_true rfl) ⟨Nat.le_of_ble_eq_true rfl, Nat.le_of_ble_eq_true rfl⟩ ⟨Nat.le_of_ble_eq_true rfl, Nat.le_of_ble_eq_true rfl⟩ (fun rr_21 σ21 pp_21 => ?_)
    obtain ⟨ee_21, ff_21⟩ := pp_21
    rw [ee_21, ff_21]
    have v8_ : kKT ch n a = 258 → a < n ∧ 97 ≤ ch a ∧ ch a < 105 := fun q => by
      have lt := kKT_lt (ch := ch) (n := n) (a := a) (by rw [q]; decide)
      exact ⟨lt, kdT_258 (hC.ch a lt) (by unfold kKT at q; rw [if_pos lt] at q; exact q)⟩
    refine V.istore_n C 2 dX5_readPart_24 rfl (by decide) ?_
    refine V.iload_n C 2 rfl rfl dX5_readPart_25 ?_
    refine V.bipush C ((-9)) b_m9 dX5_readPart_26 ?_
    refine V.icmp_eq C 39 dX5_readPart_28 rfl (fun hb_28 => ?_) (fun hb_28 => ?_)
    · have nn_ : ¬ kKT ch n a = 258 := fun q => by
        rw [if_pos q] at hb_28
        have := v8_ q
        exact absurd hb_28 (nI_ne_m9 (by omega))
      refine V.iconst C (nI 0) c_0 dX5_readPart_39 ?_
      exact V.zretS C R dX5_readPart_40 (by first | exact Or.inl rfl | exact Or.inr rfl | exact bI01 _) ⟨Or.inr ⟨a, k, by unfold pPart; rw [if_neg z9_, if_neg (fun q => nn_ q.1)], rfl, tc_⟩, f_6.mono (by omega) (by omega)⟩
    · have nn_ : kKT ch n a = 258 := Decidable.byContradiction (fun q => hb_28 (by rw [if_neg q]; rfl))
      obtain ⟨lt_, c97_, c105_⟩ := v8_ nn_
      obtain ⟨v, hv_⟩ : ∃ v, ch a - 97 = v := ⟨_, rfl⟩
      have v8 : v < 8 := by omega
      rw [if_pos nn_, hv_, show oN (some v) = nI v from rfl]
      refine V.aload_n C 1 rfl rfl dX5_readPart_31 ?_
      refine V.iload_n C 2 rfl rfl dX5_readPart_32 ?_
      refine V.cVi C lX5_53 oX4_widthOf dX5_readPart_33 (ct_Pb_widthOf G σ6 p v P hA hP6 v8) (by assumption) rfl rfl (Nat.le_of_ble_eq_true rfl) ⟨Nat.le_of_ble_eq_true rfl, Nat.le_of_ble_eq_true rfl⟩ ⟨Nat.le_of_ble_eq_true rfl, Nat.le_of_ble_eq_true rfl⟩ (fun rr_33 σ33 pp_33 => ?_)
      obtain ⟨ee_33, ff_33⟩ := pp_33
      rw [ee_33, ff_33]
      refine V.if_ne C 41 dX5_readPart_36 rfl (fun hb_36 => ?_) (fun hb_36 => ?_)
      · have w0_ : ¬ P.1 v = 0 := fun q => hb_36 (by rw [q]; rfl)
        have w16_ := hw v v8
        refine V.aload_n C 0 rfl rfl dX5_readPart_41 ?_
        refine V.getR C fX5_18 dX5_readPart_42 (by assumption) rfl ?_
        refine V.cVv C lX5_57 oX8_advance dX5_readPart_45 (ct_Tx_advance G σ6 n ch ts k a (tc_).1 (tc_).2.1 (tc_).2.2 lt_) (by assumption) rfl rfl (Nat.le_of_ble_eq_true rfl) ⟨Nat.le_of_ble_eq_true rfl, Nat.le_of_ble_eq_true rfl⟩ ⟨Nat.le_of_ble_eq_true rfl, Nat.le_of_ble_eq_true rfl⟩ (fun σ45 pp_45 => ?_)
        have pp_45 := tc_adv (tc_) lt_ pp_45
        have hP45 : RP σ45 p P := hP6.fr pp_45.2 (by omega)
        have hR45 := hR6.fr pp_45.2 (by omega)
        have F45_ : Fr 1 9 σ σ45 := (f_6.mono (by omega) (by omega)).trans (pp_45.2.mono (by omega) (by omega))
        refine V.aload_n C 0 rfl rfl dX5_readPart_48 ?_
        refine V.aload_n C 1 rfl rfl dX5_readPart_49 ?_
        refine V.iload_n C 2 rfl rfl dX5_readPart_50 ?_
        refine V.cVi C lX5_53 oX4_widthOf dX5_readPart_51 (ct_Pb_widthOf G σ45 p v P hA hP45 v8) (by assumption) rfl rfl (Nat.le_of_ble_eq_true rfl) ⟨Nat.le_of_ble_eq_true rfl, Nat.le_of_ble_eq_true rfl⟩ ⟨Nat.le_of_ble_eq_true rfl, Nat.le_of_ble_eq_true rfl⟩ (fun rr_51 σ51 pp_51 => ?_)
        obtain ⟨ee_51, ff_51⟩ := pp_51
        rw [ee_51, ff_51]
        refine V.iconst C (nI 1) c_1 dX5_readPart_54 ?_
        refine V.isub C dX5_readPart_55 ?_
        rw [nI_sub (by omega)]
        refine V.putI C fX5_101 dX5_readPart_56 (by assumption) rfl ?_
        refine V.aload_n C 0 rfl rfl dX5_readPart_59 ?_
        refine V.iconst C (nI 0) c_0 dX5_readPart_60 ?_
        refine V.putI C fX5_105 dX5_readPart_61 (by assumption) rfl ?_
        have F61_ : Fr 6 7 σ45 (sF (sF σ45 6 2 (nI (P.1 v - 1))) 6 3 (nI 0)) := ((Fr.refl 6 7 σ45).sF _ _ (by omega) (by omega)).sF _ _ (by omega) (by omega)
        refine V.aload_n C 0 rfl rfl dX5_readPart_64 ?_
        refine V.getR C fX5_18 dX5_readPart_65 (by assumption) rfl ?_
        refine V.bipush C (nI 91) b_91 dX5_readPart_68 ?_
        refine V.cVi C lX5_36 oX8_pass dX5_readPart_70 (ct_Tx_pass G _ n ch ts (k + 1) (nxT ch n a) (pp_45.1.fr F61_ (by omega)).1 (pp_45.1.fr F61_ (by omega)).2.1 (pp_45.1.fr F61_ (by omega)).2.2 91 (by decide)) (by assumption) rfl rfl (Nat.le_of_ble_eq_true rfl) ⟨Nat.le_of_ble_eq_true rfl, Nat.le_of_ble_eq_true rfl⟩ ⟨Nat.le_of_ble_eq_true rfl, Nat.le_of_ble_eq_true rfl⟩ (fun rr_70 σ70 pp_70 => ?_)
        obtain ⟨ee_70, y_70, n_70, f_70⟩ := tc_pass (pp_45.1.fr F61_ (by omega)) pp_70
        rw [ee_70]
        have h70_ : σ70.1 6 2 = nI (P.1 v - 1) := by rw [f_70.F (by omega), sF_ne _ _ (by omega), sF_F]
        have l70_ : σ70.1 6 3 = nI 0 := by rw [f_70.F (by omega), sF_F]
        have hR70 := (hR45.fr F61_ (by omega)).fr f_70 (by omega)
        have F70_ : Fr 1 9 σ σ70 := F45_.trans ((F61_.mono (by omega) (by omega)).trans (f_70.mono (by omega) (by omega)))
        refine V.if_eq C 85 dX5_readPart_73 rfl (fun hb_73 => ?_) (fun hb_73 => ?_)
        · have z73_ : ¬ kKT ch n (nxT ch n a) = 91 := of_decide_eq_false (bI_eq0 hb_73)
          have tc70_ := n_70 z73_
          refine V.aload_n C 0 rfl rfl dX5_readPart_85 ?_
          refine V.getR C fX5_12 dX5_readPart_86 (by assumption) rfl ?_
          refine V.iload_n C 2 rfl rfl dX5_readPart_89 ?_
          refine V.aload_n C 0 rfl rfl dX5_readPart_90 ?_
          refine V.getI C fX5_101 dX5_readPart_91 (by assumption) rfl ?_
          rw [h70_]
          refine V.cSNi C lX5_111 oX9_nodeOf dX5_readPart_94 (ct_nodeOf G σ70 v (P.1 v - 1)) rfl rfl (Nat.le_of_ble_eq_true rfl) ⟨Nat.le_of_ble_eq_true rfl, Nat.le_of_ble_eq_true rfl⟩ ⟨Nat.le_of_ble_eq_true rfl, Nat.le_of_ble_eq_true rfl⟩ (fun rr_94 σ94 pp_94 => ?_)
          obtain ⟨ee_94, ff_94⟩ := pp_94
          rw [ee_94, ff_94]
          refine V.iload_n C 2 rfl rfl dX5_readPart_97 ?_
          refine V.aload_n C 0 rfl rfl dX5_readPart_98 ?_
          refine V.getI C fX5_105 dX5_readPart_99 (by assumption) rfl ?_
          rw [l70_]
          refine V.cSNi C lX5_111 oX9_nodeOf dX5_readPart_102 (ct_nodeOf G σ70 v (0)) rfl rfl (Nat.le_of_ble_eq_true rfl) ⟨Nat.le_of_ble_eq_true rfl, Nat.le_of_ble_eq_true rfl⟩ ⟨Nat.le_of_ble_eq_true rfl, Nat.le_of_ble_eq_true rfl⟩ (fun rr_102 σ102 pp_102 => ?_)
          obtain ⟨ee_102, ff_102⟩ := pp_102
          rw [ee_102, ff_102, Nat.mul_comm v 16]
          refine V.cVv C lX5_115 oX7_addRange dX5_readPart_105 (ct_Te_range G σ70 bs v pt (P.1 v - 1) (0) hR70 v8 (by omega) (by omega) hl hnew) (by assumption) rfl rfl (Nat.le_of_ble_eq_true rfl) ⟨Nat.le_of_ble_eq_true rfl, Nat.le_of_ble_eq_true rfl⟩ ⟨Nat.le_of_ble_eq_true rfl, Nat.le_of_ble_eq_true rfl⟩ (fun σ105 pp_105 => ?_)
          refine V.iconst C (nI 1) c_1 dX5_readPart_108 ?_
          exact V.zretS C R dX5_readPart_109 (by first | exact Or.inl rfl | exact Or.inr rfl | exact bI01 _) ⟨Or.inl ⟨_, _, k + 1, by unfold pPart; rw [if_neg z9_, if_pos ⟨nn_, by rw [hv_]; exact w0_⟩, if_neg z73_, hv_], rfl, pp_105.1, tc70_.fr pp_105.2 (by omega)⟩, F70_.trans (pp_105.2.mono (by omega) (by omega))⟩
        · have z73_ : kKT ch n (nxT ch n a) = 91 := of_decide_eq_true (bI_ne0 hb_73)
          obtain ⟨lt70_, tc70_⟩ := y_70 z73_
          refine V.aload_n C 0 rfl rfl dX5_readPart_76 ?_
          refine V.cVi C lX5_108 oX5_readRange dX5_readPart_77 (ct_Rd_range G σ70 n ch ts (k + 2) _ (P.1 v - 1) tc70_ h70_ (by omega)) (by assumption) rfl rfl (Nat.le_of_ble_eq_true rfl) ⟨Nat.le_of_ble_eq_true rfl, Nat.le_of_ble_eq_true rfl⟩ ⟨Nat.le_of_ble_eq_true rfl, Nat.le_of_ble_eq_true rfl⟩ (fun rr_77 σ77 pp_77 => ?_)
          refine V.if_ne C 85 dX5_readPart_80 rfl (fun hb_80 => ?_) (fun hb_80 => ?_)
          · obtain ⟨x, y, b, k1, pe_, _, yx_, xh_, h77_, l77_, tc77_⟩ : ∃ x y b k1, pRange ch n (nxT ch n (nxT ch n a)) (P.1 v - 1) = .ok (x, y, b) ∧ rr_77 = 1 ∧ y ≤ x ∧ x ≤ P.1 v - 1 ∧ σ77.1 6 2 = nI x ∧ σ77.1 6 3 = nI y ∧ TC σ77 n ch ts k1 b := by
              rcases pp_77.1 with q | q
              · exact q
              · obtain ⟨e, k1, _, q2, _⟩ := q
                exact absurd q2 hb_80
            have hR77 := hR70.fr pp_77.2 (by omega)
            refine V.aload_n C 0 rfl rfl dX5_readPart_85 ?_
            refine V.getR C fX5_12 dX5_readPart_86 (by assumption) rfl ?_
            refine V.iload_n C 2 rfl rfl dX5_readPart_89 ?_
            refine V.aload_n C 0 rfl rfl dX5_readPart_90 ?_
            refine V.getI C fX5_101 dX5_readPart_91 (by assumption) rfl ?_
            rw [h77_]
            refine V.cSNi C lX5_111 oX9_nodeOf dX5_readPart_94 (ct_nodeOf G σ77 v (x)) rfl rfl (Nat.le_of_ble_eq_true rfl) ⟨Nat.le_of_ble_eq_true rfl, Nat.le_of_ble_eq_true rfl⟩ ⟨Nat.le_of_ble_eq_true rfl, Nat.le_of_ble_eq_true rfl⟩ (fun rr_94 σ94 pp_94 => ?_)
            obtain ⟨ee_94, ff_94⟩ := pp_94
            rw [ee_94, ff_94]
            refine V.iload_n C 2 rfl rfl dX5_readPart_97 ?_
            refine V.aload_n C 0 rfl rfl dX5_readPart_98 ?_
            refine V.getI C fX5_105 dX5_readPart_99 (by assumption) rfl ?_
            rw [l77_]
            refine V.cSNi C lX5_111 oX9_nodeOf dX5_readPart_102 (ct_nodeOf G σ77 v (y)) rfl rfl (Nat.le_of_ble_eq_true rfl) ⟨Nat.le_of_ble_eq_true rfl, Nat.le_of_ble_eq_true rfl⟩ ⟨Nat.le_of_ble_eq_true rfl, Nat.le_of_ble_eq_true rfl⟩ (fun rr_102 σ102 pp_102 => ?_)
            obtain ⟨ee_102, ff_102⟩ := pp_102
            rw [ee_102, ff_102, Nat.mul_comm v 16]
            refine V.cVv C lX5_115 oX7_addRange dX5_readPart_105 (ct_Te_range G σ77 bs v pt (x) (y) hR77 v8 (by omega) (by omega) hl hnew) (by assumption) rfl rfl (Nat.le_of_ble_eq_true rfl) ⟨Nat.le_of_ble_eq_true rfl, Nat.le_of_ble_eq_true rfl⟩ ⟨Nat.le_of_ble_eq_true rfl, Nat.le_of_ble_eq_true rfl⟩ (fun σ105 pp_105 => ?_)
            refine V.iconst C (nI 1) c_1 dX5_readPart_108 ?_
            exact V.zretS C R dX5_readPart_109 (by first | exact Or.inl rfl | exact Or.inr rfl | exact bI01 _) ⟨Or.inl ⟨_, _, k1, by unfold pPart; rw [if_neg z9_, if_pos ⟨nn_, by rw [hv_]; exact w0_⟩, if_pos z73_, hv_, pe_], rfl, pp_105.1, tc77_.fr pp_105.2 (by omega)⟩, (F70_.trans (pp_77.2.mono (by omega) (by omega))).trans (pp_105.2.mono (by omega) (by omega))⟩
          · obtain ⟨e, k1, pe_, _, tc77_⟩ : ∃ e k1, pRange ch n (nxT ch n (nxT ch n a)) (P.1 v - 1) = .error e ∧ rr_77 = 0 ∧ TC σ77 n ch ts k1 e := by
              rcases pp_77.1 with q | q
              · obtain ⟨x, y, b, k1, _, q2, _⟩ := q
                rw [hb_80] at q2; exact absurd q2 (by decide)
              · exact q
            refine V.iconst C (nI 0) c_0 dX5_readPart_83 ?_
            exact V.zretS C R dX5_readPart_84 (by first | exact Or.inl rfl | exact Or.inr rfl | exact bI01 _) ⟨Or.inr ⟨e, k1, by unfold pPart; rw [if_neg z9_, if_pos ⟨nn_, by rw [hv_]; exact w0_⟩, if_pos z73_, hv_, pe_], rfl, tc77_⟩, F70_.trans (pp_77.2.mono (by omega) (by omega))⟩
      · have w0_ : P.1 v = 0 := nI_pe (by have := hw v v8; omega) (by decide) (show _ = nI 0 from hb_36)
        refine V.iconst C (nI 0) c_0 dX5_readPart_39 ?_
        exact V.zretS C R dX5_readPart_40 (by first | exact Or.inl rfl | exact Or.inr rfl | exact bI01 _) ⟨Or.inr ⟨a, k, by unfold pPart; rw [if_neg z9_, if_neg (fun q => q.2 (by rw [hv_]; exact w0_))], rfl, tc_⟩, f_6.mono (by omega) (by omega)⟩
  · have z9_ : kKT ch n a = 37 := of_decide_eq_true (bI_ne0 hb_9)
    obtain ⟨lt_, tc_⟩ := y_6 z9_
    refine V.aload_n C 0 rfl rfl dX5_readPart_12 ?_
    refine V.cVi C lX5_98 oX5_readConstant dX5_readPart_13 (ct_Rd_const G σ6 n ch ts (k + 1) (nxT ch n a) pt bs tc_ (hR.fr f_6 (by omega)) hl hnew) (by assumption) rfl rfl (Nat.le_of_ble_eq_true rfl) ⟨Nat.le_of_ble_eq_true rfl, Nat.le_of_ble_eq_true rfl⟩ ⟨Nat.le_of_ble_eq_true rfl, Nat.le_of_ble_eq_true rfl⟩ (fun rr_13 σ13 pp_13 => ?_)
    exact V.zretS C R dX5_readPart_16 (by
      by_cases q : cstT ch n (nxT ch n a) = 0
      · exact Or.inl (pp_13.2.1 q).1
      · exact Or.inr (pp_13.1 q).1) (by
      refine ⟨?_, (f_6.mono (by omega) (by omega)).trans pp_13.2.2⟩
      by_cases q : cstT ch n (nxT ch n a) = 0
      · exact Or.inr ⟨nxT ch n a, k + 1, by unfold pPart; rw [if_pos z9_, if_pos q], (pp_13.2.1 q).1, (pp_13.2.1 q).2⟩
      · exact Or.inl ⟨_, _, k + 2, by unfold pPart; rw [if_pos z9_, if_neg q], (pp_13.1 q).1, (pp_13.1 q).2.1, (pp_13.1 q).2.2⟩)
