/-! What the grammar gives is well formed; Reader.readTerm. -/
def codeW (w : Nat → Nat) (x : Nat) : Prop := x % 256 < 2 ∨ (16 ≤ x % 256 ∧ x % 256 < 144 ∧ vb x % 16 < w (vb x / 16))
def partL (w : Nat → Nat) (pt : Nat) (l : List Nat) : Prop := 1 ≤ l.length ∧ l.length ≤ 16 ∧ (∀ i, i < l.length → l.getD i 0 / 256 = pt ∧ codeW w (l.getD i 0)) ∧ ∀ i, i + 1 < l.length → isV (l.getD i 0) = true → 0 < vb (l.getD i 0) % 16
def TW (w : Nat → Nat) (bs : List Nat) (pt : Nat) : Prop := pt < bs.length ∧ bs.length ≤ 16 * (pt + 1) ∧ (∀ i, i < bs.length → bs.getD i 0 / 256 ≤ pt ∧ codeW w (bs.getD i 0)) ∧ (∀ i, i + 1 < bs.length → bs.getD i 0 / 256 = bs.getD (i + 1) 0 / 256 → isV (bs.getD i 0) = true → 0 < vb (bs.getD i 0) % 16) ∧ bs.getD (bs.length - 1) 0 / 256 = pt
theorem rngB_get (v pt : Nat) : ∀ (m h i : Nat), i < m → m ≤ h + 1 → (rngB v pt h m).getD i 0 = 16 + 16 * v + (h - i) + 256 * pt
  | 0, _, _, hi, _ => absurd hi (by omega)
  | m + 1, h, 0, _, _ => rfl
  | m + 1, h, i + 1, hi, hm => by
    show (rngB v pt (h - 1) m).getD i 0 = _
    rcases Nat.eq_zero_or_pos h with q | q
    · omega
    · rw [rngB_get v pt m (h - 1) i (by omega) (by omega)]; omega
theorem partL_rng {w : Nat → Nat} {v pt h l : Nat} (hv : v < 8) (hl : l ≤ h) (hh : h < w v) (hw : w v ≤ 16) : partL w pt (rngB v pt h (h + 1 - l)) := by
  refine ⟨by rw [rngB_len]; omega, by rw [rngB_len]; omega, fun i hi => ?_, fun i hi hV => ?_⟩
  · rw [rngB_len] at hi
    rw [rngB_get v pt _ _ _ hi (by omega)]
    refine ⟨by omega, Or.inr ⟨by omega, by omega, ?_⟩⟩
    unfold vb
    rw [show ((16 + 16 * v + (h - i) + 256 * pt) % 256 - 16) / 16 = v by omega]; omega
  · rw [rngB_len] at hi
    rw [rngB_get v pt _ _ _ (by omega) (by omega)]
    unfold vb; omega
theorem cstL_get (ch : Nat → Nat) (b pt m i : Nat) (hi : i < m) : (cstL ch b pt m).getD i 0 = (if ch (b + i) = 49 then 1 else 0) + 256 * pt := by
  unfold cstL
  rw [List.getD_eq_getElem?_getD, List.getElem?_map, List.getElem?_range hi]; rfl
theorem partL_cst {w : Nat → Nat} {ch : Nat → Nat} {b pt m : Nat} (h1 : 1 ≤ m) (h2 : m ≤ 16) : partL w pt (cstL ch b pt m) := by
  have key : ∀ i, i < m → ∃ c, c < 2 ∧ (cstL ch b pt m).getD i 0 = c + 256 * pt := fun i hi => ⟨if ch (b + i) = 49 then 1 else 0, by split <;> omega, cstL_get ch b pt m i hi⟩
  refine ⟨by rw [cstL_len]; omega, by rw [cstL_len]; omega, fun i hi => ?_, fun i hi hV => ?_⟩
  · rw [cstL_len] at hi
    obtain ⟨c, hc, e⟩ := key i hi
    rw [e]; exact ⟨by omega, Or.inl (by omega)⟩
  · rw [cstL_len] at hi
    obtain ⟨c, hc, e⟩ := key i (by omega)
    rw [e] at hV
    unfold isV at hV
    have := of_decide_eq_true hV
    omega
theorem TW.first {w : Nat → Nat} {l : List Nat} (h : partL w 0 l) : TW w l 0 := by
  obtain ⟨h1, h2, h3, h4⟩ := h
  exact ⟨h1, by omega, fun i hi => ⟨Nat.le_of_eq (h3 i hi).1, (h3 i hi).2⟩, fun i hi _ hV => h4 i hi hV, (h3 _ (by omega)).1⟩
theorem getD_ap {a b : List Nat} {i : Nat} : (a ++ b).getD i 0 = if i < a.length then a.getD i 0 else b.getD (i - a.length) 0 := by
  rw [List.getD_eq_getElem?_getD, List.getD_eq_getElem?_getD, List.getD_eq_getElem?_getD, List.getElem?_append]
  split <;> rfl
theorem TW.app {w : Nat → Nat} {bs l : List Nat} {pt : Nat} (h : TW w bs pt) (hl : partL w (pt + 1) l) : TW w (bs ++ l) (pt + 1) := by
  obtain ⟨h1, h2, h3, h4, h5⟩ := h
  obtain ⟨l1, l2, l3, l4⟩ := hl
  have hlen : (bs ++ l).length = bs.length + l.length := List.length_append
  refine ⟨by omega, by omega, fun i hi => ?_, fun i hi hs hV => ?_, ?_⟩
  · rw [getD_ap]; split
    · rename_i q; exact ⟨Nat.le_succ_of_le (h3 i q).1, (h3 i q).2⟩
    · have := l3 (i - bs.length) (by omega); exact ⟨Nat.le_of_eq this.1, this.2⟩
  · rw [getD_ap, getD_ap] at hs
    rw [getD_ap] at hV ⊢
    by_cases q : i + 1 < bs.length
    · rw [if_pos (by omega), if_pos q] at hs
      rw [if_pos (by omega)] at hV ⊢
      exact h4 i q hs hV
    · by_cases q2 : i < bs.length
      · rw [if_pos q2, if_neg q] at hs
        have a1 := (h3 i q2).1
        have a2 := (l3 (i + 1 - bs.length) (by omega)).1
        omega
      · rw [if_neg q2] at hV ⊢
        exact l4 _ (by omega) hV
  · rw [getD_ap, if_neg (by omega)]; exact (l3 _ (by omega)).1
theorem TW.newP {w : Nat → Nat} {bs : List Nat} {pt : Nat} (h : TW w bs pt) : newP bs (pt + 1) := Or.inr (by have := h.2.2.2.2; omega)
theorem TW.wf {w : Nat → Nat} {bs : List Nat} {pt : Nat} (h : TW w bs pt) (hl : bs.length ≤ 16) : wfT w bs.length (rowT bs) := by
  obtain ⟨h1, h2, h3, h4, h5⟩ := h
  refine ⟨fun k hk => ?_, fun k hk hV => ?_, fun k k1 hk hs hV => ?_⟩
  · obtain ⟨a1, a2⟩ := h3 (bs.length - 1 - k) (by omega)
    refine ⟨show bs.getD (bs.length - 1 - k) 0 < 65536 by omega, ?_⟩
    rcases a2 with a2 | ⟨a2, a3, a4⟩
    · exact Or.inl a2
    · exact Or.inr ⟨a2, a3⟩
  · obtain ⟨a1, a2⟩ := h3 (bs.length - 1 - k) (by omega)
    rcases a2 with a2 | ⟨a2, a3, a4⟩
    · unfold isV at hV
      have : 16 ≤ bs.getD (bs.length - 1 - k) 0 % 256 := of_decide_eq_true hV
      omega
    · exact a4
  · refine h4 (bs.length - 1 - k) (by omega) ?_ hV
    have e : rowT bs k / 256 = rowT bs (k - 1) / 256 := of_decide_eq_true hs
    unfold rowT at e
    rw [show bs.length - 1 - k + 1 = bs.length - 1 - (k - 1) by omega]; exact e
section
variable {ch : Nat → Nat} {n : Nat} {w : Nat → Nat}
theorem name_lt (hc : ∀ i, i < n → ch i < 256) {a : Nat} (q : kKT ch n a = 258) : a < n ∧ 97 ≤ ch a ∧ ch a < 105 := by
  have lt := kKT_lt (ch := ch) (n := n) (a := a) (by rw [q]; decide)
  exact ⟨lt, kdT_258 (hc a lt) (by unfold kKT at q; rw [if_pos lt] at q; exact q)⟩
theorem kk_lt {a c : Nat} (q : kKT ch n a = c) (hc : c < 261) : a < nxT ch n a ∧ nxT ch n a ≤ n := nxT_gt (a := a) (kKT_lt (by rw [q]; omega))
theorem pRange_ok {b h x y e : Nat} (hr : pRange ch n b h = .ok (x, y, e)) : y ≤ x ∧ x ≤ h ∧ b < e ∧ e ≤ n := by
  unfold pRange at hr
  cases hx : numT ch n b with
  | none => rw [hx] at hr; cases hr
  | some x' =>
    rw [hx] at hr
    by_cases xh : x' ≤ h
    · by_cases k58 : kKT ch n (nxT ch n b) = 58
      · cases hy : numT ch n (nxT ch n (nxT ch n b)) with
        | none => simp only [if_pos xh, if_pos k58, hy] at hr; cases hr
        | some y' =>
          by_cases yx : y' ≤ x'
          · by_cases k93 : kKT ch n (nxT ch n (nxT ch n (nxT ch n b))) = 93
            · simp only [if_pos xh, if_pos k58, hy, if_pos yx, if_pos k93] at hr
              cases hr
              have g1 := nxT_gt (ch := ch) (numT_lt hx).2
              have g2 := kk_lt k58 (by decide)
              have g3 := nxT_gt (ch := ch) (numT_lt hy).2
              have g4 := kk_lt k93 (by decide)
              exact ⟨yx, xh, by omega, by omega⟩
            · simp only [if_pos xh, if_pos k58, hy, if_pos yx, if_neg k93] at hr; cases hr
          · simp only [if_pos xh, if_pos k58, hy, if_neg yx] at hr; cases hr
      · simp only [if_pos xh, if_neg k58] at hr; cases hr
    · simp only [if_neg xh] at hr; cases hr
theorem pPart_ok (hc : ∀ i, i < n → ch i < 256) (hw : ∀ v, v < 8 → w v ≤ 16) {a pt b : Nat} {l : List Nat} (h : pPart ch n w a pt = .ok (l, b)) : partL w pt l ∧ a < b ∧ b ≤ n := by
  unfold pPart at h
  split at h
  · rename_i k37
    split at h
    · cases h
    · rename_i c0
      cases h
      have g1 := kk_lt k37 (by decide)
      have g2 := nxT_gt (ch := ch) (cstT_lt c0).1
      exact ⟨partL_cst (by omega) (cst16 _ _ _), by omega, by omega⟩
  · split at h
    · rename_i k258
      have nl := name_lt hc k258.1
      have hw8 := hw (ch a - 97) (by omega)
      have g1 := kk_lt k258.1 (by decide)
      have w0 := k258.2
      split at h
      · rename_i k91
        have g2 := kk_lt k91 (by decide)
        split at h
        · cases h
        · rename_i t ht
          obtain ⟨x, y, e⟩ := t
          cases h
          obtain ⟨r1, r2, r3, r4⟩ := pRange_ok ht
          exact ⟨partL_rng (by omega) r1 (by show x < w (ch a - 97); omega) hw8, (by show a < e; omega), (by show e ≤ n; omega)⟩
      · cases h
        exact ⟨partL_rng (by omega) (by omega) (by omega) hw8, by omega, by omega⟩
    · cases h
theorem pTail_ok (hc : ∀ i, i < n → ch i < 256) (hw : ∀ v, v < 8 → w v ≤ 16) : ∀ (f a : Nat) (bs : List Nat) (pt : Nat) (bs' : List Nat) (b : Nat), pTail ch n w f a bs pt = .ok (bs', b) → TW w bs pt → a ≤ n → ∃ pt', TW w bs' pt' ∧ a ≤ b ∧ b ≤ n
  | 0, a, bs, pt, bs', b, h, _, _ => by cases h
  | f + 1, a, bs, pt, bs', b, h, hT, ha => by
    unfold pTail at h
    split at h
    · rename_i k46
      have g1 := kk_lt k46 (by decide)
      split at h
      · cases h
      · rename_i t ht
        obtain ⟨p1, p2, p3⟩ := pPart_ok hc hw ht
        obtain ⟨pt', q1, q2, q3⟩ := pTail_ok hc hw f t.2 (bs ++ t.1) (pt + 1) bs' b h (hT.app p1) p3
        exact ⟨pt', q1, by omega, q3⟩
    · cases h
      exact ⟨pt, hT, Nat.le_refl _, ha⟩
theorem pTerm_ok (hc : ∀ i, i < n → ch i < 256) (hw : ∀ v, v < 8 → w v ≤ 16) {a b : Nat} {bs : List Nat} (h : pTerm ch n w a = .ok (bs, b)) : (∃ pt, TW w bs pt) ∧ a < b ∧ b ≤ n := by
  unfold pTerm at h
  split at h
  · cases h
  · rename_i t ht
    obtain ⟨p1, p2, p3⟩ := pPart_ok hc hw ht
    obtain ⟨pt', q1, q2, q3⟩ := pTail_ok hc hw 201 t.2 t.1 0 bs b h (TW.first p1) p3
    exact ⟨⟨pt', q1⟩, by omega, q3⟩
theorem pStm_ok (hc : ∀ i, i < n → ch i < 256) (hw : ∀ v, v < 8 → w v ≤ 16) {a b : Nat} {s : Stm} (h : pStm ch n w a = .ok (s, b)) : wfS w s ∧ a < b ∧ b ≤ n := by
  unfold pStm at h
  split at h
  · cases h
  · rename_i t ht
    obtain ⟨⟨pt, p1⟩, p2, p3⟩ := pTerm_ok hc hw ht
    split at h
    · rename_i k61
      have g1 := kk_lt k61.2 (by decide)
      split at h
      · cases h
      · rename_i t2 ht2
        obtain ⟨⟨pt2, q1⟩, q2, q3⟩ := pTerm_ok hc hw ht2
        split at h
        · rename_i k59
          cases h
          have g2 := kk_lt k59.2 (by decide)
          exact ⟨⟨by have := p1.1; show 1 ≤ t.1.length; omega, k61.1, p1.wf k61.1, by have := q1.wf (by omega); rw [k59.1] at this; exact this⟩, by omega, by omega⟩
        · cases h
    · cases h
theorem wfT.up {w w' : Nat → Nat} (h : ∀ v, w v ≤ w' v) {k : Nat} {T : Nat → Nat} (hT : wfT w k T) : wfT w' k T := ⟨hT.1, fun j hj hV => Nat.lt_of_lt_of_le (hT.2.1 j hj hV) (h _), hT.2.2⟩
theorem wfS.up {w w' : Nat → Nat} (h : ∀ v, w v ≤ w' v) {s : Stm} (hs : wfS w s) : wfS w' s := ⟨hs.1, hs.2.1, hs.2.2.1.up h, hs.2.2.2.up h⟩
theorem pDecl_ok (hc : ∀ i, i < n → ch i < 256) {P P' : Prob} {a b : Nat} (hP : wfP P) (h : pDecl ch n P a = .ok (P', b)) : wfP P' ∧ a < b ∧ b ≤ n := by
  unfold pDecl at h
  split at h
  · rename_i k258
    have g1 := kk_lt k258.1 (by decide)
    split at h
    · cases h
    · rename_i x hx
      split at h
      · rename_i x16
        split at h
        · rename_i k59
          cases h
          have g2 := nxT_gt (ch := ch) (numT_lt hx).2
          have g3 := kk_lt k59 (by decide)
          have up : ∀ v, P.1 v ≤ va_up P.1 (ch a - 97) x v := fun v => by
            by_cases e : v = ch a - 97
            · rw [e, k258.2]; exact Nat.zero_le _
            · rw [up_ne _ _ e]; exact Nat.le_refl _
          refine ⟨⟨fun v hv => ?_, hP.2.1, hP.2.2.1, fun i s hs => (hP.2.2.2.1 i s hs).up up, fun i s hs => (hP.2.2.2.2 i s hs).up up⟩, by omega, by omega⟩
          by_cases e : v = ch a - 97
          · rw [e]; show va_up P.1 (ch a - 97) x (ch a - 97) ≤ 16; rw [up_eq]; exact x16.2
          · show va_up P.1 (ch a - 97) x v ≤ 16; rw [up_ne _ _ e]; exact hP.1 v hv
        · cases h
      · cases h
  · cases h
theorem getE_app {l : List Stm} {t : Stm} {Q : Stm → Prop} (h1 : ∀ (i : Nat) (s : Stm), l[i]? = some s → Q s) (h2 : Q t) : ∀ (i : Nat) (s : Stm), (l ++ [t])[i]? = some s → Q s := fun i s hs => by
  rw [List.getElem?_append] at hs
  split at hs
  · exact h1 i s hs
  · rcases Nat.eq_zero_or_pos (i - l.length) with q | q
    · rw [q] at hs; cases hs; exact h2
    · rw [List.getElem?_eq_none (by simp; omega)] at hs; cases hs
theorem pItem_ok (hc : ∀ i, i < n → ch i < 256) {P P' : Prob} {a b : Nat} (hP : wfP P) (h : pItem ch n P a = .ok (P', b)) : wfP P' ∧ a < b ∧ b ≤ n := by
  unfold pItem at h
  split at h
  · rename_i k259
    have g1 := kk_lt k259 (by decide)
    obtain ⟨p1, p2, p3⟩ := pDecl_ok hc hP h
    exact ⟨p1, by omega, p3⟩
  · split at h
    · rename_i k260
      have g1 := kk_lt k260 (by decide)
      split at h
      · split at h
        · cases h
        · rename_i t ht
          cases h
          obtain ⟨p1, p2, p3⟩ := pStm_ok hc hP.1 ht
          exact ⟨⟨hP.1, hP.2.1, by show (P.2.2 ++ [t.1]).length ≤ 3; simp; omega, hP.2.2.2.1, getE_app hP.2.2.2.2 p1⟩, by omega, p3⟩
      · cases h
    · split at h
      · split at h
        · cases h
        · rename_i t ht
          cases h
          obtain ⟨p1, p2, p3⟩ := pStm_ok hc hP.1 ht
          exact ⟨⟨hP.1, by show (P.2.1 ++ [t.1]).length ≤ 10; simp; omega, hP.2.2.1, getE_app hP.2.2.2.1 p1, hP.2.2.2.2⟩, by omega, p3⟩
      · cases h
theorem pAll_ok (hc : ∀ i, i < n → ch i < 256) : ∀ (f : Nat) (P P' : Prob) (a : Nat), wfP P → pAll ch n f P a = .ok P' → wfP P'
  | 0, P, P', a, _, h => by cases h
  | f + 1, P, P', a, hP, h => by
    unfold pAll at h
    split at h
    · cases h; exact hP
    · split at h
      · cases h
      · rename_i t ht
        exact pAll_ok hc f t.1 P' t.2 (pItem_ok hc hP ht).1 h
end
set_option maxRecDepth 100000 in
set_option maxHeartbeats 4000000 in
theorem ct_Rd_term (G : Gl) (σ : SS) (n : Nat) (ch : Nat → Nat) (ts : List Nat) (k a p : Nat) (P : Prob) (hC : TC σ n ch ts k a) (hA : PbA p) (hP : RP σ p P) (hp9 : 9 ≤ p) (hw : ∀ v, v < 8 → P.1 v ≤ 16) : CI G mX5_readTerm [Rf G 6, Rf G p] σ (fun r σ1 => ((∃ bs b k1, pTerm ch n P.1 a = .ok (bs, b) ∧ r = 1 ∧ RTm σ1 bs false ∧ TC σ1 n ch ts k1 b) ∨ (∃ e k1, pTerm ch n P.1 a = .error e ∧ r = 0 ∧ TC σ1 n ch ts k1 e)) ∧ Fr 1 9 σ σ1) := by
  refine Ctr.of oX5_readTerm (Nat.le_of_ble_eq_true rfl) ?_
  intro X C R hnm hz0
  have C : Cx G X cX5_readTerm 4 RX5 3 66 0 0 := C
  have R : Cr G X (some .boolean) 0 0 _ := R
  show V G X 4 0 0 0 [(0, Rf G 6), (1, Rf G p)] [] (wld G σ)
  have kk_1 := sk_1
  have kk_6 := sk_6
  have kk_7 := sk_7
  have kk_p := hA.1
  have bad : ∀ (i e k1 : Nat) (σ1 : SS), TC σ1 n ch ts k1 e → Fr 1 9 σ σ1 → pTerm ch n P.1 a = .error e → V G X 4 0 0 15 [(0, Rf G 6), (1, Rf G p), (2, .int 0), (3, .int (nI i))] [] (wld G σ1) := by
    intro i e k1 σ1 hC1 hF1 he
    refine V.iload_n C 3 rfl rfl dX5_readTerm_15 ?_
    refine V.sipush C (nI 200) s_200 dX5_readTerm_16 ?_
    refine V.icmp_ge C 50 dX5_readTerm_19 rfl (fun hb_19 => ?_) (fun hb_19 => ?_)
    · refine V.iload_n C 2 rfl rfl dX5_readTerm_50 ?_
      exact V.zretS C R dX5_readTerm_51 (by first | exact Or.inl rfl | exact Or.inr rfl | exact bI01 _) ⟨Or.inr ⟨e, k1, he, rfl, hC1⟩, hF1⟩
    · refine V.iload_n C 2 rfl rfl dX5_readTerm_22 ?_
      refine V.if_eq C 50 dX5_readTerm_23 rfl (fun hb_23 => ?_) (fun hb_23 => ?_)
      · refine V.iload_n C 2 rfl rfl dX5_readTerm_50 ?_
        exact V.zretS C R dX5_readTerm_51 (by first | exact Or.inl rfl | exact Or.inr rfl | exact bI01 _) ⟨Or.inr ⟨e, k1, he, rfl, hC1⟩, hF1⟩
      · exact absurd rfl hb_23
  have loop : ∀ (m i a1 k1 : Nat) (bs : List Nat) (σ1 : SS), 200 < i + m → i ≤ a1 ∧ i ≤ 200 → a1 ≤ n → TW P.1 bs i → RTm σ1 bs false → TC σ1 n ch ts k1 a1 → Fr 1 9 σ σ1 → pTerm ch n P.1 a = pTail ch n P.1 (201 - i) a1 bs i → V G X 4 0 0 15 [(0, Rf G 6), (1, Rf G p), (2, .int 1), (3, .int (nI i))] [] (wld G σ1) := by
    intro m
    induction m with
    | zero =>
      intro i a1 k1 bs σ1 hm hi ha1 hT hR1 hC1 hF1 he
      exact absurd hm (by omega)
    | succ m ih =>
      intro i a1 k1 bs σ1 hm hi ha1 hT hR1 hC1 hF1 he
      refine V.iload_n C 3 rfl rfl dX5_readTerm_15 ?_
      refine V.sipush C (nI 200) s_200 dX5_readTerm_16 ?_
      refine V.icmp_ge C 50 dX5_readTerm_19 rfl (fun hb_19 => ?_) (fun hb_19 => ?_)
      · have zi_ : i = 200 := by have := (nI_leI (by decide) (by omega)).mp hb_19; omega
        refine V.iload_n C 2 rfl rfl dX5_readTerm_50 ?_
        exact V.zretS C R dX5_readTerm_51 (by first | exact Or.inl rfl | exact Or.inr rfl | exact bI01 _) (by
          refine ⟨Or.inl ⟨bs, a1, k1, ?_, rfl, hR1, hC1⟩, hF1⟩
          have n200_ := hC1.1.2.1
          rw [he, show 201 - i = 0 + 1 by omega]
          unfold pTail
          rw [if_neg (by unfold kKT; rw [if_neg (by omega)]; decide)])
      · have zi_ : i < 200 := Nat.lt_of_not_le (fun q => hb_19 (nI_le q (by omega)))
        refine V.iload_n C 2 rfl rfl dX5_readTerm_22 ?_
        refine V.if_eq C 50 dX5_readTerm_23 rfl (fun hb_23 => ?_) (fun hb_23 => ?_)
        · exact absurd hb_23 (by decide)
        · refine V.aload_n C 0 rfl rfl dX5_readTerm_26 ?_
          refine V.getR C fX5_18 dX5_readTerm_27 (by assumption) rfl ?_
          refine V.bipush C (nI 46) b_46 dX5_readTerm_30 ?_
          refine V.cVi C lX5_36 oX8_pass dX5_readTerm_32 (ct_Tx_pass G σ1 n ch ts k1 a1 (hC1).1 (hC1).2.1 (hC1).2.2 46 (by decide)) (by assumption) rfl rfl (Nat.le_of_ble_eq_true rfl) ⟨Nat.le_of_ble_eq_true rfl, Nat.le_of_ble_eq_true rfl⟩ ⟨Nat.le_of_ble_eq_true rfl, Nat.le_of_ble_eq_true rfl⟩ (fun rr_32 σ32 pp_32 => ?_)
          obtain ⟨ee_32, y_32, n_32, f_32⟩ := tc_pass (hC1) pp_32
          rw [ee_32]
          refine V.if_eq C 50 dX5_readTerm_35 rfl (fun hb_35 => ?_) (fun hb_35 => ?_)
          · have z_ : ¬ kKT ch n a1 = 46 := of_decide_eq_false (bI_eq0 hb_35)
            have tc_ := n_32 z_
            refine V.iload_n C 2 rfl rfl dX5_readTerm_50 ?_
            exact V.zretS C R dX5_readTerm_51 (by first | exact Or.inl rfl | exact Or.inr rfl | exact bI01 _) (by
              refine ⟨Or.inl ⟨bs, a1, k1, ?_, rfl, hR1.fr f_32 (by omega), tc_⟩, hF1.trans (f_32.mono (by omega) (by omega))⟩
              rw [he, show 201 - i = (200 - i) + 1 by omega]
              unfold pTail
              rw [if_neg z_])
          · have z_ : kKT ch n a1 = 46 := of_decide_eq_true (bI_ne0 hb_35)
            obtain ⟨lt_, tc_⟩ := y_32 z_
            refine V.aload_n C 0 rfl rfl dX5_readTerm_38 ?_
            refine V.aload_n C 1 rfl rfl dX5_readTerm_39 ?_
            refine V.cVi C lX5_95 oX5_readPart dX5_readTerm_40 (ct_Rd_part G σ32 n ch ts (k1 + 1) (nxT ch n a1) (i + 1) p bs P tc_ (hR1.fr f_32 (by omega)) (by have := hT.2.1; omega) hT.newP hA ((hP.fr hF1 (by omega)).fr f_32 (by omega)) hp9 hw) (by assumption) rfl rfl (Nat.le_of_ble_eq_true rfl) ⟨Nat.le_of_ble_eq_true rfl, Nat.le_of_ble_eq_true rfl⟩ ⟨Nat.le_of_ble_eq_true rfl, Nat.le_of_ble_eq_true rfl⟩ (fun rr_40 σ40 pp_40 => ?_)
            refine V.istore_n C 2 dX5_readTerm_43 rfl (by decide) ?_
            refine V.iinc C (nI (i + 1)) dX5_readTerm_44 rfl (nI_1 i) (by decide) ?_
            refine V.goto C 15 dX5_readTerm_47 rfl ?_
            have F40_ : Fr 1 9 σ σ40 := (hF1.trans (f_32.mono (by omega) (by omega))).trans pp_40.2
            rcases pp_40.1 with ⟨l_, b_, k2_, pe_, rfl, hR_, tc2_⟩ | ⟨e_, k2_, pe_, rfl, tc2_⟩
            · refine V.lvs (lv' := [(0, Rf G 6), (1, Rf G p), (2, .int 1), (3, .int (nI (i + 1)))]) rfl ?_
              obtain ⟨g1_, g2_, g3_⟩ := pPart_ok hC.ch hw pe_
              have g4_ := nxT_gt (ch := ch) lt_
              refine ih (i + 1) b_ k2_ (bs ++ l_) σ40 (by omega) (by omega) g3_ (hT.app g1_) hR_ tc2_ F40_ ?_
              rw [he, show 201 - i = (201 - (i + 1)) + 1 by omega]
              conv => lhs; unfold pTail
              rw [if_pos z_, pe_]
            · refine V.lvs (lv' := [(0, Rf G 6), (1, Rf G p), (2, .int 0), (3, .int (nI (i + 1)))]) rfl ?_
              refine bad (i + 1) e_ k2_ σ40 tc2_ F40_ ?_
              rw [he, show 201 - i = (201 - (i + 1)) + 1 by omega]
              unfold pTail
              rw [if_pos z_, pe_]
  refine V.aload_n C 0 rfl rfl dX5_readTerm_0 ?_
  refine V.getR C fX5_12 dX5_readTerm_1 (by assumption) rfl ?_
  refine V.cVv C lX5_94 oX7_clear dX5_readTerm_4 (ct_Te_clear G σ) (by assumption) rfl rfl (Nat.le_of_ble_eq_true rfl) ⟨Nat.le_of_ble_eq_true rfl, Nat.le_of_ble_eq_true rfl⟩ ⟨Nat.le_of_ble_eq_true rfl, Nat.le_of_ble_eq_true rfl⟩ (fun σ4 pp_4 => ?_)
  refine V.aload_n C 0 rfl rfl dX5_readTerm_7 ?_
  refine V.aload_n C 1 rfl rfl dX5_readTerm_8 ?_
  refine V.cVi C lX5_95 oX5_readPart dX5_readTerm_9 (ct_Rd_part G σ4 n ch ts k a 0 p [] P (hC.fr pp_4.2 (by omega)) pp_4.1 (by decide) (Or.inl rfl) hA (hP.fr pp_4.2 (by omega)) hp9 hw) (by assumption) rfl rfl (Nat.le_of_ble_eq_true rfl) ⟨Nat.le_of_ble_eq_true rfl, Nat.le_of_ble_eq_true rfl⟩ ⟨Nat.le_of_ble_eq_true rfl, Nat.le_of_ble_eq_true rfl⟩ (fun rr_9 σ9 pp_9 => ?_)
  refine V.istore_n C 2 dX5_readTerm_12 rfl (by decide) ?_
  refine V.iconst C (nI 0) c_0 dX5_readTerm_13 ?_
  refine V.istore_n C 3 dX5_readTerm_14 rfl (by decide) ?_
  have F9_ : Fr 1 9 σ σ9 := (pp_4.2.mono (by omega) (by omega)).trans pp_9.2
  rcases pp_9.1 with ⟨l_, b_, k1_, pe_, rfl, hR_, tc_⟩ | ⟨e_, k1_, pe_, rfl, tc_⟩
  · refine V.lvs (lv' := [(0, Rf G 6), (1, Rf G p), (2, .int 1), (3, .int (nI 0))]) rfl ?_
    obtain ⟨g1_, g2_, g3_⟩ := pPart_ok hC.ch hw pe_
    exact loop 201 0 b_ k1_ l_ σ9 (by omega) (by omega) g3_ (TW.first g1_) hR_ tc_ F9_ (by unfold pTerm; rw [pe_])
  · refine V.lvs (lv' := [(0, Rf G 6), (1, Rf G p), (2, .int 0), (3, .int (nI 0))]) rfl ?_
    exact bad 0 e_ k1_ σ9 tc_ F9_ (by unfold pTerm; rw [pe_])
