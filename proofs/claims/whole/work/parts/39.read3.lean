/-! Reader.readStatement, readDeclaration, read. -/
/-- a frame that leaves out two ranges -/
def Fr2 (a b c d : Nat) (σ σ1 : SS) : Prop := (∀ k, ¬ (a ≤ k ∧ k < b) → ¬ (c ≤ k ∧ k < d) → σ1.1 k = σ.1 k ∧ σ1.2.1 k = σ.2.1 k ∧ σ1.2.2.1 k = σ.2.2.1 k) ∧ σ1.2.2.2 = σ.2.2.2
section
variable {a b c d x y o cap p : Nat} {σ σ1 σ2 : SS}
theorem Fr2.refl (a b c d : Nat) (σ : SS) : Fr2 a b c d σ σ := ⟨fun _ _ _ => ⟨rfl, rfl, rfl⟩, rfl⟩
theorem Fr2.trans (h1 : Fr2 a b c d σ σ1) (h2 : Fr2 a b c d σ1 σ2) : Fr2 a b c d σ σ2 :=
  ⟨fun k hk hk2 => ⟨(h2.1 k hk hk2).1.trans (h1.1 k hk hk2).1, (h2.1 k hk hk2).2.1.trans (h1.1 k hk hk2).2.1, (h2.1 k hk hk2).2.2.trans (h1.1 k hk hk2).2.2⟩, h2.2.trans h1.2⟩
theorem Fr2.ofL (h : Fr x y σ σ1) (h1 : a ≤ x) (h2 : y ≤ b) : Fr2 a b c d σ σ1 := ⟨fun k hk _ => h.1 k (by omega), h.2⟩
theorem Fr2.ofR (h : Fr x y σ σ1) (h1 : c ≤ x) (h2 : y ≤ d) : Fr2 a b c d σ σ1 := ⟨fun k _ hk => h.1 k (by omega), h.2⟩
theorem Fr2.monoR (h : Fr2 a b x y σ σ1) (h1 : c ≤ x) (h2 : y ≤ d) : Fr2 a b c d σ σ1 := ⟨fun k hk hk2 => h.1 k hk (by omega), h.2⟩
theorem RS.same {l : List Stm} (h : RS σ o cap l) (h0 : σ1.1 o = σ.1 o) (h1 : σ1.2.1 (o + 1) = σ.2.1 (o + 1)) (h2 : σ1.2.1 (o + 2) = σ.2.1 (o + 2)) (h3 : σ1.2.1 (o + 3) = σ.2.1 (o + 3)) : RS σ1 o cap l := by
  unfold RS stAt at h ⊢
  rw [h0, h1, h2, h3]; exact h
theorem RS.fr2 {l : List Stm} (h : RS σ o cap l) (hF : Fr2 a b c d σ σ1) (h1 : o + 4 ≤ a ∨ b ≤ o) (h2 : o + 4 ≤ c ∨ d ≤ o) : RS σ1 o cap l :=
  h.same (hF.1 o (by omega) (by omega)).1 (hF.1 _ (by omega) (by omega)).2.1 (hF.1 _ (by omega) (by omega)).2.1 (hF.1 _ (by omega) (by omega)).2.1
theorem RS.put {l : List Stm} {s : Nat} (h : RS σ o cap l) (hF : Fr (o + 2) (o + 4) σ σ1) (h2 : ∀ j, (j < (l.length * 2 + s) * 16 ∨ (l.length * 2 + s) * 16 + 16 ≤ j) → σ1.2.1 (o + 2) j = σ.2.1 (o + 2) j) (h3 : ∀ j, j ≠ l.length * 2 + s → σ1.2.1 (o + 3) j = σ.2.1 (o + 3) j) (hok : okL l) : RS σ1 o cap l := by
  refine ⟨by rw [hF.F (by omega)]; exact h.1, by rw [hF.F (by omega)]; exact h.2.1, h.2.2.1, fun i t ht => ?_⟩
  have hi := h.lt ht
  obtain ⟨a1, a2, a3, a4, a5⟩ := h.2.2.2 i t ht
  have h16 := (hok i t ht).2.1
  exact ⟨by rw [hF.A (by omega)]; exact a1, fun k hk => by rw [h2 _ (by omega)]; exact a2 k hk, fun k hk => by rw [h2 _ (by omega)]; exact a3 k hk, by rw [h3 _ (by omega)]; exact a4, by rw [h3 _ (by omega)]; exact a5⟩
theorem RS.fin {l : List Stm} {bs cs : List Nat} (h : RS σ o cap l) (hc : l.length < cap) (h1 : rowAt σ o (l.length * 2 + 0) bs) (h2 : rowAt σ o (l.length * 2 + 1) cs) (he : cs.length = bs.length) : RS (sF (sA σ (o + 1) (va_up (σ.2.1 (o + 1)) l.length (nI bs.length))) o 1 (nI (l.length + 1))) o cap (l ++ [(bs.length, rowT bs, rowT cs)]) := by
  refine ⟨by rw [sF_ne _ _ (by omega)]; exact h.1, by rw [sF_F, List.length_append]; rfl, by rw [List.length_append]; exact hc, fun i t ht => ?_⟩
  have e1 : (sF (sA σ (o + 1) (va_up (σ.2.1 (o + 1)) l.length (nI bs.length))) o 1 (nI (l.length + 1))).2.1 (o + 1) = va_up (σ.2.1 (o + 1)) l.length (nI bs.length) := sA_A _ _ _
  have e2 : (sF (sA σ (o + 1) (va_up (σ.2.1 (o + 1)) l.length (nI bs.length))) o 1 (nI (l.length + 1))).2.1 (o + 2) = σ.2.1 (o + 2) := sA_ne _ _ (by omega)
  have e3 : (sF (sA σ (o + 1) (va_up (σ.2.1 (o + 1)) l.length (nI bs.length))) o 1 (nI (l.length + 1))).2.1 (o + 3) = σ.2.1 (o + 3) := sA_ne _ _ (by omega)
  unfold stAt
  rw [e1, e2, e3]
  rw [List.getElem?_append] at ht
  split at ht
  · rename_i q
    have := h.2.2.2 i t ht
    unfold stAt at this
    rw [up_ne _ _ (by omega)]; exact this
  · have q0 : i - l.length = 0 := by
      rcases Nat.eq_zero_or_pos (i - l.length) with q | q
      · exact q
      · rw [List.getElem?_eq_none (by simp; omega)] at ht; cases ht
    rw [q0] at ht
    cases ht
    have e : i = l.length := by omega
    subst e
    refine ⟨up_eq _ _ _, h1.1, fun k hk => h2.1 k (by rw [he]; exact hk), h1.2, ?_⟩
    have := h2.2
    rw [he] at this; exact this
theorem wfP.okL1 {P : Prob} (h : wfP P) : okL P.2.1 := fun i s hs => ⟨(h.2.2.2.1 i s hs).1, (h.2.2.2.1 i s hs).2.1, fun k hk => ⟨(h.2.2.2.1 i s hs).2.2.1.1 k hk, (h.2.2.2.1 i s hs).2.2.2.1 k hk⟩⟩
theorem wfP.okL2 {P : Prob} (h : wfP P) : okL P.2.2 := fun i s hs => ⟨(h.2.2.2.2 i s hs).1, (h.2.2.2.2 i s hs).2.1, fun k hk => ⟨(h.2.2.2.2 i s hs).2.2.1.1 k hk, (h.2.2.2.2 i s hs).2.2.2.1 k hk⟩⟩
end
theorem kKT_le {ch : Nat → Nat} {n : Nat} (hc : ∀ i, i < n → ch i < 256) (a : Nat) : kKT ch n a ≤ 261 := by
  unfold kKT; split
  · rename_i q; have := kdT_lt (n := n) (hc a q); omega
  · omega
set_option maxRecDepth 100000 in
set_option maxHeartbeats 4000000 in
theorem ct_Rd_stm (G : Gl) (σ : SS) (n : Nat) (ch : Nat → Nat) (ts : List Nat) (k a : Nat) (P : Prob) (hC : TC σ n ch ts k a) (hP : RP σ 19 P) (hw : wfP P) (hn259 : ¬ kKT ch n a = 259) : CI G mX5_readStatement [Rf G 6, Rf G 19] σ (fun r σ1 => ((∃ P1 b k1, pItem ch n P a = .ok (P1, b) ∧ r = 1 ∧ RP σ1 19 P1 ∧ TC σ1 n ch ts k1 b) ∨ (∃ e k1, pItem ch n P a = .error e ∧ r = 0 ∧ (∃ P1, RP σ1 19 P1) ∧ TC σ1 n ch ts k1 e)) ∧ Fr2 1 9 19 29 σ σ1) := by
  refine Ctr.of oX5_readStatement (Nat.le_of_ble_eq_true rfl) ?_
  intro X C R hnm hz0
  have C : Cx G X cX5_readStatement 5 RX5 4 89 0 0 := C
  have R : Cr G X (some .boolean) 0 0 _ := R
  show V G X 5 0 0 0 [(0, Rf G 6), (1, Rf G 19)] [] (wld G σ)
  have kk_1 := sk_1
  have kk_6 := sk_6
  have kk_7 := sk_7
  have hA := PbA_of (p := 19) (by decide)
  have kk_p := hA.1
  have kk_21 := hA.2.2.1.1
  have kk_25 := hA.2.2.2.1
  have tail : ∀ (neg : Int32) (o cap : Nat) (l : List Stm) (F : List Stm → Prob) (k1 a1 : Nat) (σ1 : SS), StA o cap → 19 ≤ o → o + 4 ≤ 29 → RS σ1 o cap l → l.length < cap → okL l → RP σ1 19 P → F l = P → (∀ l1 σ2, Fr2 1 9 o (o + 4) σ1 σ2 → RS σ2 o cap l1 → RP σ2 19 (F l1)) → TC σ1 n ch ts k1 a1 → Fr2 1 9 19 29 σ σ1 → (pItem ch n P a = match pStm ch n P.1 a1 with | .error e => .error e | .ok t => .ok (F (l ++ [t.1]), t.2)) → V G X 5 0 0 55 [(0, Rf G 6), (1, Rf G 19), (2, .int neg), (3, Rf G o)] [] (wld G σ1) := by
    intro neg o cap l F k1 a1 σ1 hS ho1 ho2 hS1 hlc hok hP1 hFl hre hC1 hF1 hit
    have kk_o := hS.1
    refine V.aload_n C 0 rfl rfl dX5_readStatement_55 ?_
    refine V.aload_n C 1 rfl rfl dX5_readStatement_56 ?_
    refine V.cVi C lX5_80 oX5_readTerm dX5_readStatement_57 (ct_Rd_term G σ1 n ch ts k1 a1 19 P hC1 hA hP1 (by omega) hw.1) (by assumption) rfl rfl (Nat.le_of_ble_eq_true rfl) ⟨Nat.le_of_ble_eq_true rfl, Nat.le_of_ble_eq_true rfl⟩ ⟨Nat.le_of_ble_eq_true rfl, Nat.le_of_ble_eq_true rfl⟩ (fun rr_57 σ57 pp_57 => ?_)
    refine V.if_eq C 87 dX5_readStatement_60 rfl (fun hb_60 => ?_) (fun hb_60 => ?_)
    · obtain ⟨e_, k2_, pe_, tc_⟩ : ∃ e k2, pTerm ch n P.1 a1 = .error e ∧ TC σ57 n ch ts k2 e := by
        rcases pp_57.1 with ⟨bs, b, k2, _, h1, _⟩ | ⟨e, k2, h1, _, h2⟩
        · rw [h1] at hb_60; exact absurd hb_60 (by decide)
        · exact ⟨e, k2, h1, h2⟩
      refine V.iconst C (nI 0) c_0 dX5_readStatement_87 ?_
      exact V.zretS C R dX5_readStatement_88 (by first | exact Or.inl rfl | exact Or.inr rfl | exact bI01 _) ⟨Or.inr ⟨_, _, by rw [hit]; unfold pStm; rw [pe_], rfl, ⟨P, hP1.fr pp_57.2 (by omega)⟩, tc_⟩, hF1.trans (Fr2.ofL pp_57.2 (by omega) (by omega))⟩
    · obtain ⟨bs_, b_, k2_, pe_, hR_, tc_⟩ : ∃ bs b k2, pTerm ch n P.1 a1 = .ok (bs, b) ∧ RTm σ57 bs false ∧ TC σ57 n ch ts k2 b := by
        rcases pp_57.1 with ⟨bs, b, k2, h1, _, h2, h3⟩ | ⟨e, k2, _, h1, _⟩
        · exact ⟨bs, b, k2, h1, h2, h3⟩
        · exact absurd h1 hb_60
      have lb_ := hR_.2.1
      refine V.aload_n C 0 rfl rfl dX5_readStatement_63 ?_
      refine V.getR C fX5_12 dX5_readStatement_64 (by assumption) rfl ?_
      refine V.cVi C lX5_83 oX7_bitCount dX5_readStatement_67 (ct_Te_bitCount G σ57 bs_ false hR_) (by assumption) rfl rfl (Nat.le_of_ble_eq_true rfl) ⟨Nat.le_of_ble_eq_true rfl, Nat.le_of_ble_eq_true rfl⟩ ⟨Nat.le_of_ble_eq_true rfl, Nat.le_of_ble_eq_true rfl⟩ (fun rr_67 σ67 pp_67 => ?_)
      obtain ⟨ee_67, ff_67⟩ := pp_67
      rw [ee_67, ff_67]
      refine V.bipush C (nI 16) b_16 dX5_readStatement_70 ?_
      refine V.icmp_gt C 87 dX5_readStatement_72 rfl (fun hb_72 => ?_) (fun hb_72 => ?_)
      · have le16_ : ¬ bs_.length ≤ 16 := fun q => absurd hb_72 (fun z => absurd ((nI_ltI (by decide) (by omega)).mp z) (by omega))
        refine V.iconst C (nI 0) c_0 dX5_readStatement_87 ?_
        exact V.zretS C R dX5_readStatement_88 (by first | exact Or.inl rfl | exact Or.inr rfl | exact bI01 _) ⟨Or.inr ⟨_, _, by rw [hit]; unfold pStm; rw [pe_]; simp only [if_neg (fun q : bs_.length ≤ 16 ∧ _ => le16_ q.1)], rfl, ⟨P, hP1.fr pp_57.2 (by omega)⟩, tc_⟩, hF1.trans (Fr2.ofL pp_57.2 (by omega) (by omega))⟩
      · have le16_ : bs_.length ≤ 16 := Nat.le_of_not_lt (fun q => hb_72 (nI_lt q (by omega)))
        refine V.aload_n C 0 rfl rfl dX5_readStatement_75 ?_
        refine V.getR C fX5_18 dX5_readStatement_76 (by assumption) rfl ?_
        refine V.bipush C (nI 61) b_61 dX5_readStatement_79 ?_
        refine V.cVi C lX5_36 oX8_pass dX5_readStatement_81 (ct_Tx_pass G σ57 n ch ts k2_ b_ (tc_).1 (tc_).2.1 (tc_).2.2 61 (by decide)) (by assumption) rfl rfl (Nat.le_of_ble_eq_true rfl) ⟨Nat.le_of_ble_eq_true rfl, Nat.le_of_ble_eq_true rfl⟩ ⟨Nat.le_of_ble_eq_true rfl, Nat.le_of_ble_eq_true rfl⟩ (fun rr_81 σ81 pp_81 => ?_)
        obtain ⟨ee_81, y_81, n_81, f_81⟩ := tc_pass (tc_) pp_81
        rw [ee_81]
        refine V.if_ne C 89 dX5_readStatement_84 rfl (fun hb_84 => ?_) (fun hb_84 => ?_)
        · have z84_ : kKT ch n b_ = 61 := of_decide_eq_true (bI_ne0 hb_84)
          obtain ⟨lt_, tc81_⟩ := y_81 z84_
          have F81_ : Fr 1 9 σ1 σ81 := pp_57.2.trans (f_81.mono (by omega) (by omega))
          have hR81 := hR_.fr f_81 (by omega)
          have RS81 := hS1.fr F81_ (by omega)
          refine V.aload_n C 0 rfl rfl dX5_readStatement_89 ?_
          refine V.getR C fX5_12 dX5_readStatement_90 (by assumption) rfl ?_
          refine V.cVi C lX5_83 oX7_bitCount dX5_readStatement_93 (ct_Te_bitCount G σ81 bs_ false hR81) (by assumption) rfl rfl (Nat.le_of_ble_eq_true rfl) ⟨Nat.le_of_ble_eq_true rfl, Nat.le_of_ble_eq_true rfl⟩ ⟨Nat.le_of_ble_eq_true rfl, Nat.le_of_ble_eq_true rfl⟩ (fun rr_93 σ93 pp_93 => ?_)
          obtain ⟨ee_93, ff_93⟩ := pp_93
          rw [ee_93, ff_93]
          refine V.istore C dX5_readStatement_96 (by decide) ?_
          refine V.aload_n C 3 rfl rfl dX5_readStatement_98 ?_
          refine V.iconst C (nI 0) c_0 dX5_readStatement_99 ?_
          refine V.aload_n C 0 rfl rfl dX5_readStatement_100 ?_
          refine V.getR C fX5_12 dX5_readStatement_101 (by assumption) rfl ?_
          refine V.cVv C lX5_86 oX6_putTerm dX5_readStatement_104 (ct_St_putTerm G σ81 o cap l.length 0 bs_ hS RS81.1 RS81.2.1 hlc (by decide) hR81 le16_ (by omega)) (by assumption) rfl rfl (Nat.le_of_ble_eq_true rfl) ⟨Nat.le_of_ble_eq_true rfl, Nat.le_of_ble_eq_true rfl⟩ ⟨Nat.le_of_ble_eq_true rfl, Nat.le_of_ble_eq_true rfl⟩ (fun σ104 pp_104 => ?_)
          obtain ⟨row_, F104_, h1_, h2_⟩ := pp_104
          have RS104 := RS81.put F104_ h1_ h2_ hok
          have G104_ : Fr2 1 9 o (o + 4) σ1 σ104 := (Fr2.ofL F81_ (by omega) (by omega)).trans (Fr2.ofR F104_ (by omega) (by omega))
          have hP104 : RP σ104 19 P := by rw [← hFl]; exact hre l σ104 G104_ RS104
          have tc104_ := tc81_.fr F104_ (by omega)
          refine V.aload_n C 0 rfl rfl dX5_readStatement_107 ?_
          refine V.aload_n C 1 rfl rfl dX5_readStatement_108 ?_
          refine V.cVi C lX5_80 oX5_readTerm dX5_readStatement_109 (ct_Rd_term G σ104 n ch ts (k2_ + 1) _ 19 P tc104_ hA hP104 (by omega) hw.1) (by assumption) rfl rfl (Nat.le_of_ble_eq_true rfl) ⟨Nat.le_of_ble_eq_true rfl, Nat.le_of_ble_eq_true rfl⟩ ⟨Nat.le_of_ble_eq_true rfl, Nat.le_of_ble_eq_true rfl⟩ (fun rr_109 σ109 pp_109 => ?_)
          have G109_ : Fr2 1 9 o (o + 4) σ1 σ109 := G104_.trans (Fr2.ofL pp_109.2 (by omega) (by omega))
          refine V.if_eq C 139 dX5_readStatement_112 rfl (fun hb_112 => ?_) (fun hb_112 => ?_)
          · obtain ⟨e_, k3_, pc_, tc109_⟩ : ∃ e k2, pTerm ch n P.1 (nxT ch n b_) = .error e ∧ TC σ109 n ch ts k2 e := by
              rcases pp_109.1 with ⟨bs, b, k2, _, h1, _⟩ | ⟨e, k2, h1, _, h2⟩
              · rw [h1] at hb_112; exact absurd hb_112 (by decide)
              · exact ⟨e, k2, h1, h2⟩
            refine V.iconst C (nI 0) c_0 dX5_readStatement_139 ?_
            exact V.zretS C R dX5_readStatement_140 (by first | exact Or.inl rfl | exact Or.inr rfl | exact bI01 _) ⟨Or.inr ⟨_, _, by rw [hit]; unfold pStm; rw [pe_]; simp only [if_pos (show bs_.length ≤ 16 ∧ kKT ch n b_ = 61 from ⟨le16_, z84_⟩), pc_], rfl, ⟨P, hP104.fr pp_109.2 (by omega)⟩, tc109_⟩, hF1.trans (G109_.monoR (by omega) (by omega))⟩
          · obtain ⟨cs_, c_, k3_, pc_, hRc_, tc109_⟩ : ∃ bs b k2, pTerm ch n P.1 (nxT ch n b_) = .ok (bs, b) ∧ RTm σ109 bs false ∧ TC σ109 n ch ts k2 b := by
              rcases pp_109.1 with ⟨bs, b, k2, h1, _, h2, h3⟩ | ⟨e, k2, _, h1, _⟩
              · exact ⟨bs, b, k2, h1, h2, h3⟩
              · exact absurd h1 hb_112
            have lc_ := hRc_.2.1
            refine V.aload_n C 0 rfl rfl dX5_readStatement_115 ?_
            refine V.getR C fX5_12 dX5_readStatement_116 (by assumption) rfl ?_
            refine V.cVi C lX5_83 oX7_bitCount dX5_readStatement_119 (ct_Te_bitCount G σ109 cs_ false hRc_) (by assumption) rfl rfl (Nat.le_of_ble_eq_true rfl) ⟨Nat.le_of_ble_eq_true rfl, Nat.le_of_ble_eq_true rfl⟩ ⟨Nat.le_of_ble_eq_true rfl, Nat.le_of_ble_eq_true rfl⟩ (fun rr_119 σ119 pp_119 => ?_)
            obtain ⟨ee_119, ff_119⟩ := pp_119
            rw [ee_119, ff_119]
            refine V.iload C rfl dX5_readStatement_122 ?_
            refine V.icmp_ne C 139 dX5_readStatement_124 rfl (fun hb_124 => ?_) (fun hb_124 => ?_)
            · have ne_ : ¬ cs_.length = bs_.length := fun q => hb_124 (by rw [q])
              refine V.iconst C (nI 0) c_0 dX5_readStatement_139 ?_
              exact V.zretS C R dX5_readStatement_140 (by first | exact Or.inl rfl | exact Or.inr rfl | exact bI01 _) ⟨Or.inr ⟨_, _, by rw [hit]; unfold pStm; rw [pe_]; simp only [if_pos (show bs_.length ≤ 16 ∧ kKT ch n b_ = 61 from ⟨le16_, z84_⟩), pc_, if_neg (fun q : cs_.length = bs_.length ∧ _ => ne_ q.1)], rfl, ⟨P, hP104.fr pp_109.2 (by omega)⟩, tc109_⟩, hF1.trans (G109_.monoR (by omega) (by omega))⟩
            · have ne_ : cs_.length = bs_.length := nI_pe (by omega) (by omega) hb_124
              refine V.aload_n C 0 rfl rfl dX5_readStatement_127 ?_
              refine V.getR C fX5_18 dX5_readStatement_128 (by assumption) rfl ?_
              refine V.bipush C (nI 59) b_59 dX5_readStatement_131 ?_
              refine V.cVi C lX5_36 oX8_pass dX5_readStatement_133 (ct_Tx_pass G σ109 n ch ts k3_ c_ (tc109_).1 (tc109_).2.1 (tc109_).2.2 59 (by decide)) (by assumption) rfl rfl (Nat.le_of_ble_eq_true rfl) ⟨Nat.le_of_ble_eq_true rfl, Nat.le_of_ble_eq_true rfl⟩ ⟨Nat.le_of_ble_eq_true rfl, Nat.le_of_ble_eq_true rfl⟩ (fun rr_133 σ133 pp_133 => ?_)
              obtain ⟨ee_133, y_133, n_133, f_133⟩ := tc_pass (tc109_) pp_133
              rw [ee_133]
              refine V.if_ne C 141 dX5_readStatement_136 rfl (fun hb_136 => ?_) (fun hb_136 => ?_)
              · have z136_ : kKT ch n c_ = 59 := of_decide_eq_true (bI_ne0 hb_136)
                obtain ⟨lt2_, tc133_⟩ := y_133 z136_
                have F133_ : Fr 1 9 σ104 σ133 := pp_109.2.trans (f_133.mono (by omega) (by omega))
                have RS133 := RS104.fr F133_ (by omega)
                refine V.aload_n C 3 rfl rfl dX5_readStatement_141 ?_
                refine V.iconst C (nI 1) c_1 dX5_readStatement_142 ?_
                refine V.aload_n C 0 rfl rfl dX5_readStatement_143 ?_
                refine V.getR C fX5_12 dX5_readStatement_144 (by assumption) rfl ?_
                refine V.cVv C lX5_86 oX6_putTerm dX5_readStatement_147 (ct_St_putTerm G σ133 o cap l.length 1 cs_ hS RS133.1 RS133.2.1 hlc (by decide) (hRc_.fr f_133 (by omega)) (by omega) (by omega)) (by assumption) rfl rfl (Nat.le_of_ble_eq_true rfl) ⟨Nat.le_of_ble_eq_true rfl, Nat.le_of_ble_eq_true rfl⟩ ⟨Nat.le_of_ble_eq_true rfl, Nat.le_of_ble_eq_true rfl⟩ (fun σ147 pp_147 => ?_)
                obtain ⟨rowc_, F147_, j1_, j2_⟩ := pp_147
                have RS147 := RS133.put F147_ j1_ j2_ hok
                have row147_ : rowAt σ147 o (l.length * 2 + 0) bs_ := by
                  unfold rowAt at row_ ⊢
                  refine ⟨fun k hk => ?_, ?_⟩
                  · rw [j1_ _ (by omega), F133_.A (by omega)]; exact row_.1 k hk
                  · rw [j2_ _ (by omega), F133_.A (by omega)]; exact row_.2
                refine V.aload_n C 3 rfl rfl dX5_readStatement_150 ?_
                refine V.iload C rfl dX5_readStatement_151 ?_
                refine V.cVv C lX5_90 oX6_finish dX5_readStatement_153 (ct_St_finish G σ147 o cap l.length bs_.length hS RS147.1 RS147.2.1 hlc) (by assumption) rfl rfl (Nat.le_of_ble_eq_true rfl) ⟨Nat.le_of_ble_eq_true rfl, Nat.le_of_ble_eq_true rfl⟩ ⟨Nat.le_of_ble_eq_true rfl, Nat.le_of_ble_eq_true rfl⟩ (fun σ153 pp_153 => ?_)
                refine V.iconst C (nI 1) c_1 dX5_readStatement_156 ?_
                exact V.zretS C R dX5_readStatement_157 (by first | exact Or.inl rfl | exact Or.inr rfl | exact bI01 _) (by
                  have RSe_ := RS147.fin hlc row147_ rowc_ ne_
                  rw [← pp_153] at RSe_
                  have Ge_ : Fr2 1 9 o (o + 4) σ1 σ153 := by
                    rw [pp_153]
                    exact (G109_.trans ((Fr2.ofL f_133 (by omega) (by omega)).trans (Fr2.ofR F147_ (by omega) (by omega)))).trans (Fr2.ofR (((Fr.refl o (o + 4) σ147).sA _ (by omega) (by omega)).sF _ _ (by omega) (by omega)) (by omega) (by omega))
                  refine ⟨Or.inl ⟨_, nxT ch n c_, k3_ + 1, ?_, rfl, hre _ σ153 Ge_ RSe_, ?_⟩, hF1.trans (Ge_.monoR (by omega) (by omega))⟩
                  · rw [hit]; unfold pStm; rw [pe_]; simp only [if_pos (show bs_.length ≤ 16 ∧ kKT ch n b_ = 61 from ⟨le16_, z84_⟩), pc_, if_pos (show cs_.length = bs_.length ∧ kKT ch n c_ = 59 from ⟨ne_, z136_⟩)]
                  · exact (tc133_.fr F147_ (by omega)).fr (by rw [pp_153]; exact ((Fr.refl o (o + 4) σ147).sA _ (by omega) (by omega)).sF _ _ (by omega) (by omega)) (by omega))
              · have z136_ : ¬ kKT ch n c_ = 59 := of_decide_eq_false (bI_eq0 hb_136)
                refine V.iconst C (nI 0) c_0 dX5_readStatement_139 ?_
                exact V.zretS C R dX5_readStatement_140 (by first | exact Or.inl rfl | exact Or.inr rfl | exact bI01 _) ⟨Or.inr ⟨_, _, by rw [hit]; unfold pStm; rw [pe_]; simp only [if_pos (show bs_.length ≤ 16 ∧ kKT ch n b_ = 61 from ⟨le16_, z84_⟩), pc_, if_neg (fun q : _ ∧ kKT ch n c_ = 59 => z136_ q.2)], rfl, ⟨P, (hP104.fr pp_109.2 (by omega)).fr f_133 (by omega)⟩, n_133 z136_⟩, hF1.trans ((G109_.trans (Fr2.ofL f_133 (by omega) (by omega))).monoR (by omega) (by omega))⟩
        · have z84_ : ¬ kKT ch n b_ = 61 := of_decide_eq_false (bI_eq0 hb_84)
          refine V.iconst C (nI 0) c_0 dX5_readStatement_87 ?_
          exact V.zretS C R dX5_readStatement_88 (by first | exact Or.inl rfl | exact Or.inr rfl | exact bI01 _) ⟨Or.inr ⟨_, _, by rw [hit]; unfold pStm; rw [pe_]; simp only [if_neg (fun q : _ ∧ kKT ch n b_ = 61 => z84_ q.2)], rfl, ⟨P, (hP1.fr pp_57.2 (by omega)).fr f_81 (by omega)⟩, n_81 z84_⟩, hF1.trans (Fr2.ofL (pp_57.2.trans (f_81.mono (by omega) (by omega))) (by omega) (by omega))⟩
  refine V.aload_n C 0 rfl rfl dX5_readStatement_0 ?_
  refine V.getR C fX5_18 dX5_readStatement_1 (by assumption) rfl ?_
  refine V.cVi C lX5_32 oX8_kind dX5_readStatement_4 (ct_Tx_kind G σ n ch ts k a hC.1 hC.2.1 hC.2.2) (by assumption) rfl rfl (Nat.le_of_ble_eq_true rfl) ⟨Nat.le_of_ble_eq_true rfl, Nat.le_of_ble_eq_true rfl⟩ ⟨Nat.le_of_ble_eq_true rfl, Nat.le_of_ble_eq_true rfl⟩ (fun rr_4 σ4 pp_4 => ?_)
  obtain ⟨ee_4, ff_4⟩ := pp_4
  rw [ee_4, ff_4]
  refine V.sipush C (nI 260) s_260 dX5_readStatement_7 ?_
  refine V.icmp_ne C 17 dX5_readStatement_10 rfl (fun hb_10 => ?_) (fun hb_10 => ?_)
  · have z_ : ¬ kKT ch n a = 260 := fun q => hb_10 (by rw [q])
    refine V.iconst C (nI 0) c_0 dX5_readStatement_17 ?_
    refine V.istore_n C 2 dX5_readStatement_18 rfl (by decide) ?_
    refine V.iload_n C 2 rfl rfl dX5_readStatement_19 ?_
    refine V.if_eq C 30 dX5_readStatement_20 rfl (fun hb_20 => ?_) (fun hb_20 => ?_)
    · refine V.aload_n C 1 rfl rfl dX5_readStatement_30 ?_
      refine V.getR C fX5_71 dX5_readStatement_31 (by assumption) rfl ?_
      refine V.astore_n C 3 dX5_readStatement_34 rfl (by decide) ?_
      refine V.aload_n C 3 rfl rfl dX5_readStatement_35 ?_
      refine V.cVi C lX5_74 oX6_isFull dX5_readStatement_36 (ct_St_isFull G σ 21 10 hA.2.2.1) (by assumption) rfl rfl (Nat.le_of_ble_eq_true rfl) ⟨Nat.le_of_ble_eq_true rfl, Nat.le_of_ble_eq_true rfl⟩ ⟨Nat.le_of_ble_eq_true rfl, Nat.le_of_ble_eq_true rfl⟩ (fun rr_36 σ36 pp_36 => ?_)
      obtain ⟨ee_36, ff_36⟩ := pp_36
      rw [ee_36, ff_36, hP.2.1.1, hP.2.1.2.1]
      refine V.if_eq C 44 dX5_readStatement_39 rfl (fun hb_39 => ?_) (fun hb_39 => ?_)
      · have z39_ : P.2.1.length < 10 := by
          have h1 := of_decide_eq_false (bI_eq0 hb_39)
          exact (nI_ltI (by have := hP.2.1.2.2.1; omega) (by decide)).mp (Decidable.not_not.mp h1)
        refine V.iload_n C 2 rfl rfl dX5_readStatement_44 ?_
        refine V.if_eq C 55 dX5_readStatement_45 rfl (fun hb_45 => ?_) (fun hb_45 => ?_)
        · refine V.lvs (lv' := [(0, Rf G 6), (1, Rf G 19), (2, .int 0), (3, Rf G 21)]) rfl ?_
          exact tail 0 21 10 P.2.1 (fun l1 => (P.1, l1, P.2.2)) k a σ hA.2.2.1 (by omega) (by omega) hP.2.1 z39_ hw.okL1 hP rfl (fun l1 σ2 hF2 hR2 => ⟨fun v hv => by rw [(hF2.1 20 (by omega) (by omega)).2.1]; exact hP.1 v hv, hR2, hP.2.2.fr2 hF2 (by omega) (by omega)⟩) hC (Fr2.refl _ _ _ _ _) (by unfold pItem; rw [if_neg hn259, if_neg z_, if_pos z39_] <;> rfl)
        · exact absurd rfl hb_45
      · have z39_ : ¬ P.2.1.length < 10 := fun q => (of_decide_eq_true (bI_ne0 hb_39)) (nI_lt q (by decide))
        refine V.iconst C (nI 0) c_0 dX5_readStatement_42 ?_
        exact V.zretS C R dX5_readStatement_43 (by first | exact Or.inl rfl | exact Or.inr rfl | exact bI01 _) ⟨Or.inr ⟨a, k, by unfold pItem; rw [if_neg hn259, if_neg z_, if_neg z39_], rfl, ⟨P, hP⟩, hC⟩, Fr2.refl _ _ _ _ _⟩
    · exact absurd rfl hb_20
  · have z_ : kKT ch n a = 260 := nI_pe (by have := kKT_le hC.ch a; omega) (by decide) (hb_10)
    refine V.iconst C (nI 1) c_1 dX5_readStatement_13 ?_
    refine V.goto C 18 dX5_readStatement_14 rfl ?_
    refine V.istore_n C 2 dX5_readStatement_18 rfl (by decide) ?_
    refine V.iload_n C 2 rfl rfl dX5_readStatement_19 ?_
    refine V.if_eq C 30 dX5_readStatement_20 rfl (fun hb_20 => ?_) (fun hb_20 => ?_)
    · exact absurd hb_20 (by decide)
    · refine V.aload_n C 1 rfl rfl dX5_readStatement_23 ?_
      refine V.getR C fX5_67 dX5_readStatement_24 (by assumption) rfl ?_
      refine V.goto C 34 dX5_readStatement_27 rfl ?_
      refine V.astore_n C 3 dX5_readStatement_34 rfl (by decide) ?_
      refine V.aload_n C 3 rfl rfl dX5_readStatement_35 ?_
      refine V.cVi C lX5_74 oX6_isFull dX5_readStatement_36 (ct_St_isFull G σ 25 3 hA.2.2.2) (by assumption) rfl rfl (Nat.le_of_ble_eq_true rfl) ⟨Nat.le_of_ble_eq_true rfl, Nat.le_of_ble_eq_true rfl⟩ ⟨Nat.le_of_ble_eq_true rfl, Nat.le_of_ble_eq_true rfl⟩ (fun rr_36 σ36 pp_36 => ?_)
      obtain ⟨ee_36, ff_36⟩ := pp_36
      rw [ee_36, ff_36, hP.2.2.1, hP.2.2.2.1]
      refine V.if_eq C 44 dX5_readStatement_39 rfl (fun hb_39 => ?_) (fun hb_39 => ?_)
      · have z39_ : P.2.2.length < 3 := by
          have h1 := of_decide_eq_false (bI_eq0 hb_39)
          exact (nI_ltI (by have := hP.2.2.2.2.1; omega) (by decide)).mp (Decidable.not_not.mp h1)
        refine V.iload_n C 2 rfl rfl dX5_readStatement_44 ?_
        refine V.if_eq C 55 dX5_readStatement_45 rfl (fun hb_45 => ?_) (fun hb_45 => ?_)
        · exact absurd hb_45 (by decide)
        · have lt_ : a < n := kKT_lt (by rw [z_]; decide)
          refine V.aload_n C 0 rfl rfl dX5_readStatement_48 ?_
          refine V.getR C fX5_18 dX5_readStatement_49 (by assumption) rfl ?_
          refine V.cVv C lX5_57 oX8_advance dX5_readStatement_52 (ct_Tx_advance G σ n ch ts k a (hC).1 (hC).2.1 (hC).2.2 lt_) (by assumption) rfl rfl (Nat.le_of_ble_eq_true rfl) ⟨Nat.le_of_ble_eq_true rfl, Nat.le_of_ble_eq_true rfl⟩ ⟨Nat.le_of_ble_eq_true rfl, Nat.le_of_ble_eq_true rfl⟩ (fun σ52 pp_52 => ?_)
          have pp_52 := tc_adv (hC) lt_ pp_52
          refine V.lvs (lv' := [(0, Rf G 6), (1, Rf G 19), (2, .int 1), (3, Rf G 25)]) rfl ?_
          exact tail 1 25 3 P.2.2 (fun l1 => (P.1, P.2.1, l1)) (k + 1) _ σ52 hA.2.2.2 (by omega) (by omega) (hP.2.2.fr pp_52.2 (by omega)) z39_ hw.okL2 (hP.fr pp_52.2 (by omega)) rfl (fun l1 σ2 hF2 hR2 => ⟨fun v hv => by rw [(hF2.1 20 (by omega) (by omega)).2.1, pp_52.2.A (by omega)]; exact hP.1 v hv, (hP.2.1.fr pp_52.2 (by omega)).fr2 hF2 (by omega) (by omega), hR2⟩) pp_52.1 (Fr2.ofL pp_52.2 (by omega) (by omega)) (by unfold pItem; rw [if_neg hn259, if_pos z_, if_pos z39_] <;> rfl)
      · have z39_ : ¬ P.2.2.length < 3 := fun q => (of_decide_eq_true (bI_ne0 hb_39)) (nI_lt q (by decide))
        refine V.iconst C (nI 0) c_0 dX5_readStatement_42 ?_
        exact V.zretS C R dX5_readStatement_43 (by first | exact Or.inl rfl | exact Or.inr rfl | exact bI01 _) ⟨Or.inr ⟨a, k, by unfold pItem; rw [if_neg hn259, if_pos z_, if_neg z39_], rfl, ⟨P, hP⟩, hC⟩, Fr2.refl _ _ _ _ _⟩
set_option maxRecDepth 100000 in
set_option maxHeartbeats 4000000 in
theorem ct_Rd_decl (G : Gl) (σ : SS) (n : Nat) (ch : Nat → Nat) (ts : List Nat) (k a : Nat) (P : Prob) (hC : TC σ n ch ts k a) (hP : RP σ 19 P) (hw : wfP P) : CI G mX5_readDeclaration [Rf G 6, Rf G 19] σ (fun r σ1 => ((∃ P1 b k1, pDecl ch n P a = .ok (P1, b) ∧ r = 1 ∧ RP σ1 19 P1 ∧ TC σ1 n ch ts k1 b) ∨ (∃ e k1, pDecl ch n P a = .error e ∧ r = 0 ∧ (∃ P1, RP σ1 19 P1) ∧ TC σ1 n ch ts k1 e)) ∧ Fr2 1 9 19 29 σ σ1) := by
  refine Ctr.of oX5_readDeclaration (Nat.le_of_ble_eq_true rfl) ?_
  intro X C R hnm hz0
  have C : Cx G X cX5_readDeclaration 4 RX5 2 42 0 0 := C
  have R : Cr G X (some .boolean) 0 0 _ := R
  show V G X 4 0 0 0 [(0, Rf G 6), (1, Rf G 19)] [] (wld G σ)
  have kk_1 := sk_1
  have kk_6 := sk_6
  have kk_7 := sk_7
  have hA := PbA_of (p := 19) (by decide)
  have kk_p := hA.1
  refine V.aload_n C 0 rfl rfl dX5_readDeclaration_0 ?_
  refine V.getR C fX5_18 dX5_readDeclaration_1 (by assumption) rfl ?_
  refine V.cVi C lX5_50 oX8_name dX5_readDeclaration_4 (ct_Tx_name G σ n ch ts k a hC.1 hC.2.1 hC.2.2) (by assumption) rfl rfl (Nat.le_of_ble_eq_true rfl) ⟨Nat.le_of_ble_eq_true rfl, Nat.le_of_ble_eq_true rfl⟩ ⟨Nat.le_of_ble_eq_true rfl, Nat.le_of_ble_eq_true rfl⟩ (fun rr_4 σ4 pp_4 => ?_)
  obtain ⟨ee_4, ff_4⟩ := pp_4
  rw [ee_4, ff_4]
  refine V.istore_n C 2 dX5_readDeclaration_7 rfl (by decide) ?_
  refine V.iload_n C 2 rfl rfl dX5_readDeclaration_8 ?_
  refine V.bipush C ((-9)) b_m9 dX5_readDeclaration_9 ?_
  refine V.icmp_eq C 22 dX5_readDeclaration_11 rfl (fun hb_11 => ?_) (fun hb_11 => ?_)
  · have nn_ : ¬ kKT ch n a = 258 := fun q => by
      rw [if_pos q] at hb_11
      have := name_lt hC.ch q
      exact absurd hb_11 (nI_ne_m9 (by omega))
    refine V.iconst C (nI 0) c_0 dX5_readDeclaration_22 ?_
    exact V.zretS C R dX5_readDeclaration_23 (by first | exact Or.inl rfl | exact Or.inr rfl | exact bI01 _) ⟨Or.inr ⟨a, k, by unfold pDecl; rw [if_neg (fun q => nn_ q.1)], rfl, ⟨P, hP⟩, hC⟩, Fr2.refl _ _ _ _ _⟩
  · have nn_ : kKT ch n a = 258 := Decidable.byContradiction (fun q => hb_11 (by rw [if_neg q]; rfl))
    obtain ⟨lt_, c97_, c105_⟩ := name_lt hC.ch nn_
    obtain ⟨v, hv_⟩ : ∃ v, ch a - 97 = v := ⟨_, rfl⟩
    have v8 : v < 8 := by omega
    rw [if_pos nn_, hv_, show oN (some v) = nI v from rfl]
    refine V.aload_n C 1 rfl rfl dX5_readDeclaration_14 ?_
    refine V.iload_n C 2 rfl rfl dX5_readDeclaration_15 ?_
    refine V.cVi C lX5_53 oX4_widthOf dX5_readDeclaration_16 (ct_Pb_widthOf G σ 19 v P hA hP v8) (by assumption) rfl rfl (Nat.le_of_ble_eq_true rfl) ⟨Nat.le_of_ble_eq_true rfl, Nat.le_of_ble_eq_true rfl⟩ ⟨Nat.le_of_ble_eq_true rfl, Nat.le_of_ble_eq_true rfl⟩ (fun rr_16 σ16 pp_16 => ?_)
    obtain ⟨ee_16, ff_16⟩ := pp_16
    rw [ee_16, ff_16]
    refine V.if_eq C 24 dX5_readDeclaration_19 rfl (fun hb_19 => ?_) (fun hb_19 => ?_)
    · have w0_ : P.1 v = 0 := nI_pe (by have := hw.1 v v8; omega) (by decide) (show _ = nI 0 from hb_19)
      refine V.aload_n C 0 rfl rfl dX5_readDeclaration_24 ?_
      refine V.getR C fX5_18 dX5_readDeclaration_25 (by assumption) rfl ?_
      refine V.cVv C lX5_57 oX8_advance dX5_readDeclaration_28 (ct_Tx_advance G σ n ch ts k a (hC).1 (hC).2.1 (hC).2.2 lt_) (by assumption) rfl rfl (Nat.le_of_ble_eq_true rfl) ⟨Nat.le_of_ble_eq_true rfl, Nat.le_of_ble_eq_true rfl⟩ ⟨Nat.le_of_ble_eq_true rfl, Nat.le_of_ble_eq_true rfl⟩ (fun σ28 pp_28 => ?_)
      have pp_28 := tc_adv (hC) lt_ pp_28
      refine V.aload_n C 0 rfl rfl dX5_readDeclaration_31 ?_
      refine V.getR C fX5_18 dX5_readDeclaration_32 (by assumption) rfl ?_
      refine V.cVi C lX5_60 oX8_number dX5_readDeclaration_35 (ct_Tx_number G σ28 n ch ts (k + 1) _ pp_28.1.1 pp_28.1.2.1 pp_28.1.2.2) (by assumption) rfl rfl (Nat.le_of_ble_eq_true rfl) ⟨Nat.le_of_ble_eq_true rfl, Nat.le_of_ble_eq_true rfl⟩ ⟨Nat.le_of_ble_eq_true rfl, Nat.le_of_ble_eq_true rfl⟩ (fun rr_35 σ35 pp_35 => ?_)
      obtain ⟨ee_35, ff_35⟩ := pp_35
      rw [ee_35, ff_35]
      refine V.istore_n C 3 dX5_readDeclaration_38 rfl (by decide) ?_
      refine V.iload_n C 3 rfl rfl dX5_readDeclaration_39 ?_
      refine V.iconst C (nI 1) c_1 dX5_readDeclaration_40 ?_
      refine V.icmp_lt C 50 dX5_readDeclaration_41 rfl (fun hb_41 => ?_) (fun hb_41 => ?_)
      · have pd_ : pDecl ch n P a = .error (nxT ch n a) := by
          unfold pDecl
          rw [if_pos ⟨nn_, by rw [hv_]; exact w0_⟩]
          cases hq : numT ch n (nxT ch n a) with
          | none => rfl
          | some x =>
            rw [hq] at hb_41
            have x100 := numT_100 hC.ch hq
            have := (nI_ltI (by omega) (by decide)).mp (show nI x < nI 1 from hb_41)
            simp only [if_neg (show ¬ (1 ≤ x ∧ x ≤ 16) by omega)]
        refine V.iconst C (nI 0) c_0 dX5_readDeclaration_50 ?_
        exact V.zretS C R dX5_readDeclaration_51 (by first | exact Or.inl rfl | exact Or.inr rfl | exact bI01 _) ⟨Or.inr ⟨_, k + 1, pd_, rfl, ⟨P, hP.fr pp_28.2 (by omega)⟩, pp_28.1⟩, Fr2.ofL pp_28.2 (by omega) (by omega)⟩
      · obtain ⟨x, hx_⟩ : ∃ x, numT ch n (nxT ch n a) = some x := by
          cases hq : numT ch n (nxT ch n a) with
          | none => exact absurd (by rw [hq]; decide) hb_41
          | some x => exact ⟨x, rfl⟩
        have x100_ := numT_100 hC.ch hx_
        have lt2_ := (numT_lt hx_).2
        rw [hx_, show oN (some x) = nI x from rfl] at hb_41
        have x1_ : 1 ≤ x := Nat.le_of_not_lt (fun q => hb_41 (nI_lt q (by decide)))
        rw [hx_, show oN (some x) = nI x from rfl]
        refine V.iload_n C 3 rfl rfl dX5_readDeclaration_44 ?_
        refine V.bipush C (nI 16) b_16 dX5_readDeclaration_45 ?_
        refine V.icmp_le C 52 dX5_readDeclaration_47 rfl (fun hb_47 => ?_) (fun hb_47 => ?_)
        · have x16_ := (nI_leI (by omega) (by decide)).mp hb_47
          refine V.aload_n C 0 rfl rfl dX5_readDeclaration_52 ?_
          refine V.getR C fX5_18 dX5_readDeclaration_53 (by assumption) rfl ?_
          refine V.cVv C lX5_57 oX8_advance dX5_readDeclaration_56 (ct_Tx_advance G σ28 n ch ts (k + 1) _ (pp_28.1).1 (pp_28.1).2.1 (pp_28.1).2.2 lt2_) (by assumption) rfl rfl (Nat.le_of_ble_eq_true rfl) ⟨Nat.le_of_ble_eq_true rfl, Nat.le_of_ble_eq_true rfl⟩ ⟨Nat.le_of_ble_eq_true rfl, Nat.le_of_ble_eq_true rfl⟩ (fun σ56 pp_56 => ?_)
          have pp_56 := tc_adv (pp_28.1) lt2_ pp_56
          have hP56 : RP σ56 19 P := (hP.fr pp_28.2 (by omega)).fr pp_56.2 (by omega)
          refine V.aload_n C 1 rfl rfl dX5_readDeclaration_59 ?_
          refine V.iload_n C 2 rfl rfl dX5_readDeclaration_60 ?_
          refine V.iload_n C 3 rfl rfl dX5_readDeclaration_61 ?_
          refine V.cVv C lX5_63 oX4_declare dX5_readDeclaration_62 (ct_Pb_declare G σ56 19 v x P hA hP56 v8) (by assumption) rfl rfl (Nat.le_of_ble_eq_true rfl) ⟨Nat.le_of_ble_eq_true rfl, Nat.le_of_ble_eq_true rfl⟩ ⟨Nat.le_of_ble_eq_true rfl, Nat.le_of_ble_eq_true rfl⟩ (fun σ62 pp_62 => ?_)
          refine V.aload_n C 0 rfl rfl dX5_readDeclaration_65 ?_
          refine V.getR C fX5_18 dX5_readDeclaration_66 (by assumption) rfl ?_
          refine V.bipush C (nI 59) b_59 dX5_readDeclaration_69 ?_
          refine V.cVi C lX5_36 oX8_pass dX5_readDeclaration_71 (ct_Tx_pass G σ62 n ch ts (k + 2) _ (pp_56.1.fr pp_62.2 (by omega)).1 (pp_56.1.fr pp_62.2 (by omega)).2.1 (pp_56.1.fr pp_62.2 (by omega)).2.2 59 (by decide)) (by assumption) rfl rfl (Nat.le_of_ble_eq_true rfl) ⟨Nat.le_of_ble_eq_true rfl, Nat.le_of_ble_eq_true rfl⟩ ⟨Nat.le_of_ble_eq_true rfl, Nat.le_of_ble_eq_true rfl⟩ (fun rr_71 σ71 pp_71 => ?_)
          obtain ⟨ee_71, y_71, n_71, f_71⟩ := tc_pass (pp_56.1.fr pp_62.2 (by omega)) pp_71
          rw [ee_71]
          exact V.zretS C R dX5_readDeclaration_74 (by first | exact Or.inl rfl | exact Or.inr rfl | exact bI01 _) (by
            have Fe_ : Fr2 1 9 19 29 σ σ71 := (Fr2.ofL pp_28.2 (by omega) (by omega)).trans ((Fr2.ofL pp_56.2 (by omega) (by omega)).trans ((Fr2.ofR pp_62.2 (by omega) (by omega)).trans (Fr2.ofL f_71 (by omega) (by omega))))
            have pd_ : pDecl ch n P a = (if kKT ch n (nxT ch n (nxT ch n a)) = 59 then .ok ((va_up P.1 v x, P.2.1, P.2.2), nxT ch n (nxT ch n (nxT ch n a))) else .error (nxT ch n (nxT ch n a))) := by
              unfold pDecl
              rw [if_pos ⟨nn_, by rw [hv_]; exact w0_⟩, hx_]
              simp only [if_pos (show 1 ≤ x ∧ x ≤ 16 from ⟨x1_, x16_⟩), hv_]
            by_cases z_ : kKT ch n (nxT ch n (nxT ch n a)) = 59
            · exact ⟨Or.inl ⟨_, _, k + 3, by rw [pd_, if_pos z_], by rw [decide_eq_true z_]; rfl, pp_62.1.fr f_71 (by omega), (y_71 z_).2⟩, Fe_⟩
            · exact ⟨Or.inr ⟨_, k + 2, by rw [pd_, if_neg z_], by rw [decide_eq_false z_]; rfl, ⟨_, pp_62.1.fr f_71 (by omega)⟩, n_71 z_⟩, Fe_⟩)
        · have x16_ : ¬ x ≤ 16 := fun q => hb_47 (nI_le q (by decide))
          have pd_ : pDecl ch n P a = .error (nxT ch n a) := by
            unfold pDecl
            rw [if_pos ⟨nn_, by rw [hv_]; exact w0_⟩, hx_]
            simp only [if_neg (show ¬ (1 ≤ x ∧ x ≤ 16) by omega)]
          refine V.iconst C (nI 0) c_0 dX5_readDeclaration_50 ?_
          exact V.zretS C R dX5_readDeclaration_51 (by first | exact Or.inl rfl | exact Or.inr rfl | exact bI01 _) ⟨Or.inr ⟨_, k + 1, pd_, rfl, ⟨P, hP.fr pp_28.2 (by omega)⟩, pp_28.1⟩, Fr2.ofL pp_28.2 (by omega) (by omega)⟩
    · have w0_ : ¬ P.1 v = 0 := fun q => hb_19 (by rw [q]; rfl)
      refine V.iconst C (nI 0) c_0 dX5_readDeclaration_22 ?_
      exact V.zretS C R dX5_readDeclaration_23 (by first | exact Or.inl rfl | exact Or.inr rfl | exact bI01 _) ⟨Or.inr ⟨a, k, by unfold pDecl; rw [if_neg (fun q => w0_ (by rw [← hv_]; exact q.2))], rfl, ⟨P, hP⟩, hC⟩, Fr2.refl _ _ _ _ _⟩
def pb0 : Prob := (fun _ => 0, [], [])
theorem wf0 : wfP pb0 := ⟨fun _ _ => Nat.zero_le _, Nat.zero_le _, Nat.zero_le _, fun i s hs => by simp [pb0] at hs, fun i s hs => by simp [pb0] at hs⟩
/-- what a text of n signs says -/
def pText (ch : Nat → Nat) (n : Nat) : Except Nat Prob := pAll ch n 201 pb0 (skipT ch n 0)
set_option maxRecDepth 100000 in
set_option maxHeartbeats 4000000 in
theorem ct_Rd_read (G : Gl) (σ : SS) (n : Nat) (ch : Nat → Nat) (P0 : Prob) (hT : RT σ n ch) (hP : RP σ 19 P0) : CI G mX5_read [Rf G 6, Rf G 19] σ (fun r σ1 => ((∃ P1, pText ch n = .ok P1 ∧ r = -9 ∧ RP σ1 19 P1) ∨ (∃ e, pText ch n = .error e ∧ r = nI e ∧ e ≤ n ∧ (∃ P1, RP σ1 19 P1))) ∧ RT σ1 n ch ∧ Fr2 1 9 19 29 σ σ1) := by
  refine Ctr.of oX5_read (Nat.le_of_ble_eq_true rfl) ?_
  intro X C R hnm hz0
  have C : Cx G X cX5_read 4 RX5 8 176 0 0 := C
  have R : Cr G X (some .int) 0 0 _ := R
  show V G X 4 0 0 0 [(0, Rf G 6), (1, Rf G 19)] [] (wld G σ)
  have kk_1 := sk_1
  have kk_6 := sk_6
  have kk_7 := sk_7
  have hA := PbA_of (p := 19) (by decide)
  have kk_p := hA.1
  have bad : ∀ (ts : List Nat) (i e k1 : Nat) (σ1 : SS), (∃ P1, RP σ1 19 P1) → TC σ1 n ch ts k1 e → Fr2 1 9 19 29 σ σ1 → pText ch n = .error e → V G X 4 0 0 15 [(0, Rf G 6), (1, Rf G 19), (2, .int 0), (3, .int (nI i))] [] (wld G σ1) := by
    intro ts i e k1 σ1 hP1 hC1 hF1 he
    refine V.iload_n C 3 rfl rfl dX5_read_15 ?_
    refine V.sipush C (nI 200) s_200 dX5_read_16 ?_
    refine V.icmp_ge C 72 dX5_read_19 rfl (fun hb_19 => ?_) (fun hb_19 => ?_)
    · refine V.iload_n C 2 rfl rfl dX5_read_72 ?_
      refine V.if_eq C 81 dX5_read_73 rfl (fun hb_73 => ?_) (fun hb_73 => ?_)
      · refine V.aload_n C 0 rfl rfl dX5_read_81 ?_
        refine V.getR C fX5_18 dX5_read_82 (by assumption) rfl ?_
        refine V.cVi C lX5_47 oX8_start dX5_read_85 (ct_Tx_start G σ1 n ch ts k1 e hC1.1 hC1.2.1 hC1.2.2) (by assumption) rfl rfl (Nat.le_of_ble_eq_true rfl) ⟨Nat.le_of_ble_eq_true rfl, Nat.le_of_ble_eq_true rfl⟩ ⟨Nat.le_of_ble_eq_true rfl, Nat.le_of_ble_eq_true rfl⟩ (fun rr_85 σ85 pp_85 => ?_)
        obtain ⟨ee_85, ff_85⟩ := pp_85
        rw [ee_85, ff_85]
        exact V.iretS C R dX5_read_88 ⟨Or.inr ⟨e, he, rfl, (hC1.2.2.lt hC1.2.1).2.2, hP1⟩, hC1.1, hF1⟩
      · exact absurd rfl hb_73
    · refine V.iload_n C 2 rfl rfl dX5_read_22 ?_
      refine V.if_eq C 72 dX5_read_23 rfl (fun hb_23 => ?_) (fun hb_23 => ?_)
      · refine V.iload_n C 2 rfl rfl dX5_read_72 ?_
        refine V.if_eq C 81 dX5_read_73 rfl (fun hb_73 => ?_) (fun hb_73 => ?_)
        · refine V.aload_n C 0 rfl rfl dX5_read_81 ?_
          refine V.getR C fX5_18 dX5_read_82 (by assumption) rfl ?_
          refine V.cVi C lX5_47 oX8_start dX5_read_85 (ct_Tx_start G σ1 n ch ts k1 e hC1.1 hC1.2.1 hC1.2.2) (by assumption) rfl rfl (Nat.le_of_ble_eq_true rfl) ⟨Nat.le_of_ble_eq_true rfl, Nat.le_of_ble_eq_true rfl⟩ ⟨Nat.le_of_ble_eq_true rfl, Nat.le_of_ble_eq_true rfl⟩ (fun rr_85 σ85 pp_85 => ?_)
          obtain ⟨ee_85, ff_85⟩ := pp_85
          rw [ee_85, ff_85]
          exact V.iretS C R dX5_read_88 ⟨Or.inr ⟨e, he, rfl, (hC1.2.2.lt hC1.2.1).2.2, hP1⟩, hC1.1, hF1⟩
        · exact absurd rfl hb_73
      · exact absurd rfl hb_23
  have loop : ∀ (ts : List Nat) (m i a1 k1 : Nat) (P : Prob) (σ1 : SS), 200 < i + m → i ≤ a1 ∧ i ≤ 200 → wfP P → RP σ1 19 P → TC σ1 n ch ts k1 a1 → Fr2 1 9 19 29 σ σ1 → pText ch n = pAll ch n (201 - i) P a1 → V G X 4 0 0 15 [(0, Rf G 6), (1, Rf G 19), (2, .int 1), (3, .int (nI i))] [] (wld G σ1) := by
    intro ts m
    induction m with
    | zero =>
      intro i a1 k1 P σ1 hm hi hwf hP1 hC1 hF1 he
      exact absurd hm (by omega)
    | succ m ih =>
      intro i a1 k1 P σ1 hm hi hwf hP1 hC1 hF1 he
      refine V.iload_n C 3 rfl rfl dX5_read_15 ?_
      refine V.sipush C (nI 200) s_200 dX5_read_16 ?_
      refine V.icmp_ge C 72 dX5_read_19 rfl (fun hb_19 => ?_) (fun hb_19 => ?_)
      · have zi_ : i = 200 := by have := (nI_leI (by decide) (by omega)).mp hb_19; omega
        have n200_ := hC1.1.2.1
        have end_ : kKT ch n a1 = 261 := by unfold kKT; rw [if_neg (by omega)]
        refine V.iload_n C 2 rfl rfl dX5_read_72 ?_
        refine V.if_eq C 81 dX5_read_73 rfl (fun hb_73 => ?_) (fun hb_73 => ?_)
        · exact absurd hb_73 (by decide)
        · refine V.bipush C ((-9)) b_m9 dX5_read_76 ?_
          refine V.goto C 88 dX5_read_78 rfl ?_
          exact V.iretS C R dX5_read_88 (by
            refine ⟨Or.inl ⟨P, ?_, rfl, hP1⟩, hC1.1, hF1⟩
            rw [he, show 201 - i = (200 - i) + 1 by omega]
            unfold pAll
            rw [if_pos end_])
      · have zi_ : i < 200 := Nat.lt_of_not_le (fun q => hb_19 (nI_le q (by omega)))
        refine V.iload_n C 2 rfl rfl dX5_read_22 ?_
        refine V.if_eq C 72 dX5_read_23 rfl (fun hb_23 => ?_) (fun hb_23 => ?_)
        · exact absurd hb_23 (by decide)
        · refine V.aload_n C 0 rfl rfl dX5_read_26 ?_
          refine V.getR C fX5_18 dX5_read_27 (by assumption) rfl ?_
          refine V.cVi C lX5_32 oX8_kind dX5_read_30 (ct_Tx_kind G σ1 n ch ts k1 a1 hC1.1 hC1.2.1 hC1.2.2) (by assumption) rfl rfl (Nat.le_of_ble_eq_true rfl) ⟨Nat.le_of_ble_eq_true rfl, Nat.le_of_ble_eq_true rfl⟩ ⟨Nat.le_of_ble_eq_true rfl, Nat.le_of_ble_eq_true rfl⟩ (fun rr_30 σ30 pp_30 => ?_)
          obtain ⟨ee_30, ff_30⟩ := pp_30
          rw [ee_30, ff_30]
          refine V.sipush C (nI 261) s_261 dX5_read_33 ?_
          refine V.icmp_eq C 72 dX5_read_36 rfl (fun hb_36 => ?_) (fun hb_36 => ?_)
          · have end_ : kKT ch n a1 = 261 := nI_pe (by have := kKT_le hC1.ch a1; omega) (by decide) hb_36
            refine V.iload_n C 2 rfl rfl dX5_read_72 ?_
            refine V.if_eq C 81 dX5_read_73 rfl (fun hb_73 => ?_) (fun hb_73 => ?_)
            · exact absurd hb_73 (by decide)
            · refine V.bipush C ((-9)) b_m9 dX5_read_76 ?_
              refine V.goto C 88 dX5_read_78 rfl ?_
              exact V.iretS C R dX5_read_88 (by
                refine ⟨Or.inl ⟨P, ?_, rfl, hP1⟩, hC1.1, hF1⟩
                rw [he, show 201 - i = (200 - i) + 1 by omega]
                unfold pAll
                rw [if_pos end_])
          · have end_ : ¬ kKT ch n a1 = 261 := fun q => hb_36 (by rw [q])
            refine V.aload_n C 0 rfl rfl dX5_read_39 ?_
            refine V.getR C fX5_18 dX5_read_40 (by assumption) rfl ?_
            refine V.sipush C (nI 259) s_259 dX5_read_43 ?_
            refine V.cVi C lX5_36 oX8_pass dX5_read_46 (ct_Tx_pass G σ1 n ch ts k1 a1 (hC1).1 (hC1).2.1 (hC1).2.2 259 (by decide)) (by assumption) rfl rfl (Nat.le_of_ble_eq_true rfl) ⟨Nat.le_of_ble_eq_true rfl, Nat.le_of_ble_eq_true rfl⟩ ⟨Nat.le_of_ble_eq_true rfl, Nat.le_of_ble_eq_true rfl⟩ (fun rr_46 σ46 pp_46 => ?_)
            obtain ⟨ee_46, y_46, n_46, f_46⟩ := tc_pass (hC1) pp_46
            rw [ee_46]
            have hP46 := hP1.fr f_46 (by omega)
            have F46_ : Fr2 1 9 19 29 σ σ46 := hF1.trans (Fr2.ofL f_46 (by omega) (by omega))
            refine V.if_eq C 60 dX5_read_49 rfl (fun hb_49 => ?_) (fun hb_49 => ?_)
            · have z_ : ¬ kKT ch n a1 = 259 := of_decide_eq_false (bI_eq0 hb_49)
              have tc_ := n_46 z_
              refine V.aload_n C 0 rfl rfl dX5_read_60 ?_
              refine V.aload_n C 1 rfl rfl dX5_read_61 ?_
              refine V.cVi C lX5_44 oX5_readStatement dX5_read_62 (ct_Rd_stm G σ46 n ch ts k1 a1 P tc_ hP46 hwf z_) (by assumption) rfl rfl (Nat.le_of_ble_eq_true rfl) ⟨Nat.le_of_ble_eq_true rfl, Nat.le_of_ble_eq_true rfl⟩ ⟨Nat.le_of_ble_eq_true rfl, Nat.le_of_ble_eq_true rfl⟩ (fun rr_62 σ62 pp_62 => ?_)
              refine V.istore_n C 2 dX5_read_65 rfl (by decide) ?_
              refine V.iinc C (nI (i + 1)) dX5_read_66 rfl (nI_1 i) (by decide) ?_
              refine V.goto C 15 dX5_read_69 rfl ?_
              rcases pp_62.1 with ⟨P1_, b_, k2_, pe_, rfl, hR_, tc2_⟩ | ⟨e_, k2_, pe_, rfl, hR_, tc2_⟩
              · refine V.lvs (lv' := [(0, Rf G 6), (1, Rf G 19), (2, .int 1), (3, .int (nI (i + 1)))]) rfl ?_
                obtain ⟨g1_, g2_, g3_⟩ := pItem_ok hC1.ch hwf pe_
                refine ih (i + 1) b_ k2_ P1_ σ62 (by omega) (by omega) g1_ hR_ tc2_ (F46_.trans pp_62.2) ?_
                rw [he, show 201 - i = (201 - (i + 1)) + 1 by omega]
                conv => lhs; unfold pAll
                rw [if_neg end_, pe_]
              · refine V.lvs (lv' := [(0, Rf G 6), (1, Rf G 19), (2, .int 0), (3, .int (nI (i + 1)))]) rfl ?_
                refine bad ts (i + 1) e_ k2_ σ62 hR_ tc2_ (F46_.trans pp_62.2) ?_
                rw [he, show 201 - i = (201 - (i + 1)) + 1 by omega]
                unfold pAll
                rw [if_neg end_, pe_]
            · have z_ : kKT ch n a1 = 259 := of_decide_eq_true (bI_ne0 hb_49)
              obtain ⟨lt_, tc_⟩ := y_46 z_
              refine V.aload_n C 0 rfl rfl dX5_read_52 ?_
              refine V.aload_n C 1 rfl rfl dX5_read_53 ?_
              refine V.cVi C lX5_40 oX5_readDeclaration dX5_read_54 (ct_Rd_decl G σ46 n ch ts (k1 + 1) _ P tc_ hP46 hwf) (by assumption) rfl rfl (Nat.le_of_ble_eq_true rfl) ⟨Nat.le_of_ble_eq_true rfl, Nat.le_of_ble_eq_true rfl⟩ ⟨Nat.le_of_ble_eq_true rfl, Nat.le_of_ble_eq_true rfl⟩ (fun rr_54 σ54 pp_54 => ?_)
              have pp_54 : ((∃ P1 b k1, pItem ch n P a1 = .ok (P1, b) ∧ rr_54 = 1 ∧ RP σ54 19 P1 ∧ TC σ54 n ch ts k1 b) ∨ (∃ e k1, pItem ch n P a1 = .error e ∧ rr_54 = 0 ∧ (∃ P1, RP σ54 19 P1) ∧ TC σ54 n ch ts k1 e)) ∧ Fr2 1 9 19 29 σ46 σ54 := by
                unfold pItem; rw [if_pos z_]; exact pp_54
              refine V.goto C 65 dX5_read_57 rfl ?_
              refine V.istore_n C 2 dX5_read_65 rfl (by decide) ?_
              refine V.iinc C (nI (i + 1)) dX5_read_66 rfl (nI_1 i) (by decide) ?_
              refine V.goto C 15 dX5_read_69 rfl ?_
              rcases pp_54.1 with ⟨P1_, b_, k2_, pe_, rfl, hR_, tc2_⟩ | ⟨e_, k2_, pe_, rfl, hR_, tc2_⟩
              · refine V.lvs (lv' := [(0, Rf G 6), (1, Rf G 19), (2, .int 1), (3, .int (nI (i + 1)))]) rfl ?_
                obtain ⟨g1_, g2_, g3_⟩ := pItem_ok hC1.ch hwf pe_
                refine ih (i + 1) b_ k2_ P1_ σ54 (by omega) (by omega) g1_ hR_ tc2_ (F46_.trans pp_54.2) ?_
                rw [he, show 201 - i = (201 - (i + 1)) + 1 by omega]
                conv => lhs; unfold pAll
                rw [if_neg end_, pe_]
              · refine V.lvs (lv' := [(0, Rf G 6), (1, Rf G 19), (2, .int 0), (3, .int (nI (i + 1)))]) rfl ?_
                refine bad ts (i + 1) e_ k2_ σ54 hR_ tc2_ (F46_.trans pp_54.2) ?_
                rw [he, show 201 - i = (201 - (i + 1)) + 1 by omega]
                unfold pAll
                rw [if_neg end_, pe_]
  refine V.aload_n C 1 rfl rfl dX5_read_0 ?_
  refine V.cVv C lX5_22 oX4_clear dX5_read_1 (ct_Pb_clear G σ 19 P0 hA hP) (by assumption) rfl rfl (Nat.le_of_ble_eq_true rfl) ⟨Nat.le_of_ble_eq_true rfl, Nat.le_of_ble_eq_true rfl⟩ ⟨Nat.le_of_ble_eq_true rfl, Nat.le_of_ble_eq_true rfl⟩ (fun σ1 pp_1 => ?_)
  obtain ⟨rp1_, pp_1⟩ := pp_1
  refine V.aload_n C 0 rfl rfl dX5_read_4 ?_
  refine V.getR C fX5_18 dX5_read_5 (by assumption) rfl ?_
  refine V.cVv C lX5_27 oX8_split dX5_read_8 (ct_Tx_split G σ1 n ch (hT.fr pp_1 (by omega))) (by assumption) rfl rfl (Nat.le_of_ble_eq_true rfl) ⟨Nat.le_of_ble_eq_true rfl, Nat.le_of_ble_eq_true rfl⟩ ⟨Nat.le_of_ble_eq_true rfl, Nat.le_of_ble_eq_true rfl⟩ (fun σ8 pp_8 => ?_)
  obtain ⟨ts, hK_, hT8_, f8_, at_⟩ := pp_8
  have tc_ : TC σ8 n ch ts 0 (skipT ch n 0) := ⟨hT8_, hK_, at_, Nat.zero_le _, (TokL.first hK_.2.2.1)⟩
  refine V.iconst C (nI 1) c_1 dX5_read_11 ?_
  refine V.istore_n C 2 dX5_read_12 rfl (by decide) ?_
  refine V.iconst C (nI 0) c_0 dX5_read_13 ?_
  refine V.istore_n C 3 dX5_read_14 rfl (by decide) ?_
  refine V.lvs (lv' := [(0, Rf G 6), (1, Rf G 19), (2, .int 1), (3, .int (nI 0))]) rfl ?_
  exact loop ts 201 0 (skipT ch n 0) 0 pb0 σ8 (by omega) (by omega) wf0 (rp1_.fr f8_ (by omega)) tc_ ((Fr2.ofR pp_1 (by omega) (by omega)).trans (Fr2.ofL f8_ (by omega) (by omega))) rfl
