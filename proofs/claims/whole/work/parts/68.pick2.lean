/-! The chosen model of the words is the chosen model of the sets. -/
def dcl (P : Prob) (x : Nat) : Prop := x % 16 < P.1 (x / 16)
theorem ufFix_1 (u : UF) (r v : Nat) : (ufFix u r v).1 = u.1 := by unfold ufFix; split <;> rfl
theorem ufFixO_1 (u : UF) (r : Nat) (v : Option Nat) : (ufFixO u r v).1 = u.1 := by
  cases v with
  | none => rfl
  | some v => exact ufFix_1 u r v
theorem dcl_join {P : Prob} {u : UF} {a b : Nat} (h : ∀ x, dcl P x → dcl P (u.1 x)) (ha : dcl P a) (hb : dcl P b) : ∀ x, dcl P x → dcl P ((ufJoin u a b).1 x) := by
  intro x hx
  unfold ufJoin
  by_cases q : a = b
  · rw [if_pos q]; exact h x hx
  · rw [if_neg q, ufFixO_1]
    show dcl P (if u.1 x = max a b then min a b else u.1 x)
    split
    · rcases Nat.le_total a b with w | w
      · rw [Nat.min_eq_left w]; exact ha
      · rw [Nat.min_eq_right w]; exact hb
    · exact h x hx
theorem dcl_eq {P : Prob} {u : UF} {a b : Nat} (h : ∀ x, dcl P x → dcl P (u.1 x)) (ha : isV a = true → dcl P (vb a)) (hb : isV b = true → dcl P (vb b)) : ∀ x, dcl P x → dcl P ((ufEq u a b).1 x) := by
  intro x hx
  unfold ufEq
  by_cases q1 : isV a = true
  · rw [if_pos q1]
    by_cases q2 : isV b = true
    · rw [if_pos q2]; exact dcl_join h (h _ (ha q1)) (h _ (hb q2)) x hx
    · rw [if_neg q2, ufFix_1]; exact h x hx
  · rw [if_neg q1]
    by_cases q2 : isV b = true
    · rw [if_pos q2, ufFix_1]; exact h x hx
    · rw [if_neg q2]; exact h x hx
theorem dcl_terms {P : Prob} {u : UF} {s : Stm} (hs : wfS P.1 s) (h : ∀ x, dcl P x → dcl P (u.1 x)) : ∀ n, n ≤ s.1 → ∀ x, dcl P x → dcl P ((ufTerms u s.2.1 s.2.2 n).1 x)
  | 0, _ => h
  | n + 1, hn => by
    show ∀ x, dcl P x → dcl P ((ufEq (ufTerms u s.2.1 s.2.2 n) (s.2.1 n) (s.2.2 n)).1 x)
    exact dcl_eq (dcl_terms hs h n (by omega)) (fun q => hs.2.2.1.2.1 n (by omega) q) (fun q => hs.2.2.2.2.1 n (by omega) q)
theorem dcl_all {P : Prob} : ∀ (l : List Stm) (u : UF), (∀ s, s ∈ l → wfS P.1 s) → (∀ x, dcl P x → dcl P (u.1 x)) → ∀ x, dcl P x → dcl P ((ufAll u l).1 x)
  | [], u, _, h => h
  | s :: l, u, hl, h => by
    show ∀ x, dcl P x → dcl P ((ufAll (ufStm u s) l).1 x)
    exact dcl_all l _ (fun t ht => hl t (List.mem_cons_of_mem _ ht)) (dcl_terms (hl s List.mem_cons_self) h s.1 (Nat.le_refl _))
theorem dcl_P {P : Prob} (hw : wfP P) : ∀ x, dcl P x → dcl P ((ufAll uf0 P.2.1).1 x) := dcl_all P.2.1 uf0 (fun s hs => by
  obtain ⟨k, hk⟩ := List.getElem?_of_mem hs
  exact hw.2.2.2.1 k s hk) (fun x hx => hx)
theorem flip_used {P : Prob} {w : Int64} {fl : Nat → Int64} {r : Nat} (hwf : wfP P) (hg : ∃ p, goodP p (ufAll uf0 P.2.1).1) (hI : wInv P.2.2 (ufAll uf0 P.2.1) w fl 48) (hr : r < 128) (hz : ¬ fl r = 0) : (freeW P (ufAll uf0 P.2.1) r && ocW P.2.2 (ufAll uf0 P.2.1) r) = true := by
  obtain ⟨pp, hpp⟩ := hg
  have hd := dcl_P hwf
  generalize ufAll uf0 P.2.1 = u at *
  obtain ⟨p, hp, hb⟩ : ∃ p, p < 64 ∧ bl (fl r) p = true := Classical.byContradiction (fun hno => hz (bl_ext (fun i hi => by
    rw [bl_0]
    exact Bool.eq_false_iff.mpr (fun q => hno ⟨i, hi, q⟩))))
  rw [hI.2 r hr p hp, Bool.and_eq_true, decide_eq_true_iff] at hb
  obtain ⟨h48, hf⟩ := hb
  unfold flB at hf
  cases hs : P.2.2[p / 16]? with
  | none => rw [hs] at hf; cases hf
  | some s =>
    rw [hs] at hf
    have hf1 : (decide (p % 16 < s.1) && (frB u (s.2.1 (p % 16)) r ^^ frB u (s.2.2 (p % 16)) r)) = true := hf
    rw [Bool.and_eq_true, decide_eq_true_iff] at hf1
    obtain ⟨hk, hx⟩ := hf1
    have hok := hwf.okL2 _ s hs
    have h16 := hok.2.1
    have hws := hwf.2.2.2.2 _ s hs
    obtain ⟨t, ht, hfr⟩ : ∃ t, t < 2 ∧ frB u (trm s t (p % 16)) r = true := by
      cases q : frB u (s.2.1 (p % 16)) r with
      | true => exact ⟨0, by decide, q⟩
      | false =>
        rw [q] at hx
        exact ⟨1, by decide, by rw [Bool.false_xor] at hx; exact hx⟩
    have hokt : okB (trm s t (p % 16)) := okT P hwf hs hk
    have hdt : isV (trm s t (p % 16)) = true → dcl P (vb (trm s t (p % 16))) := by
      unfold trm
      split
      · exact fun q => hws.2.2.1.2.1 _ hk q
      · exact fun q => hws.2.2.2.2.1 _ hk q
    unfold frB frO at hfr
    by_cases hv : isV (trm s t (p % 16)) = true
    · rw [if_pos hv] at hfr
      by_cases hn : u.2.1 (u.1 (vb (trm s t (p % 16)))) = none
      · rw [if_pos hn, decide_eq_true_iff] at hfr
        have e := Option.some.inj hfr
        rw [Bool.and_eq_true]
        constructor
        · unfold freeW
          rw [Bool.and_eq_true, Bool.and_eq_true, decide_eq_true_iff, decide_eq_true_iff, decide_eq_true_iff, ← e]
          exact ⟨⟨hd _ (hdt hv), hpp.rt_rt (vb_lt hokt hv)⟩, hn⟩
        · refine List.any_eq_true.mpr ⟨s, List.mem_of_getElem? hs, List.any_eq_true.mpr ⟨16 * t + p % 16, List.mem_range.mpr (by omega), ?_⟩⟩
          have e1 : (16 * t + p % 16) / 16 = t := by omega
          have e2 : (16 * t + p % 16) % 16 = p % 16 := by omega
          rw [e1, e2, decide_eq_true hk]
          unfold ocA
          rw [hv, decide_eq_true e]; rfl
      · rw [if_neg hn] at hfr; simp at hfr
    · rw [if_neg hv] at hfr; simp at hfr
theorem cand_us {P : Prob} {w : Int64} {fl : Nat → Int64} (hwf : wfP P) (hg : ∃ p, goodP p (ufAll uf0 P.2.1).1) (hI : wInv P.2.2 (ufAll uf0 P.2.1) w fl 48) : candL fl 128 = (usL P (ufAll uf0 P.2.1) 128).filter (nz fl) := by
  unfold candL usL
  rw [List.filter_filter]
  refine List.filter_congr (fun r hr => ?_)
  show nz fl r = (nz fl r && (freeW P (ufAll uf0 P.2.1) r && ocW P.2.2 (ufAll uf0 P.2.1) r))
  by_cases q : fl r = 0
  · unfold nz; simp [q]
  · rw [flip_used hwf hg hI (List.mem_range.mp hr) q, Bool.and_true]
theorem usL_mem {P : Prob} {u : UF} {r : Nat} (h : r ∈ usL P u 128) : u.2.1 r = none ∧ r < 128 := by
  unfold usL at h
  rw [List.mem_filter, List.mem_range, Bool.and_eq_true] at h
  refine ⟨?_, h.1⟩
  have := h.2.1
  unfold freeW at this
  rw [Bool.and_eq_true] at this
  exact of_decide_eq_true this.2
theorem usL_nodup (P : Prob) (u : UF) : (usL P u 128).Nodup := List.Pairwise.filter _ List.nodup_range
theorem pkAll_mem {fl : Nat → Int64} {w : Int64} {l os : List Nat} (h : pkAll fl w l = some os) : ∀ r, r ∈ os → r ∈ l := by
  unfold pkAll at h
  by_cases q : hold3 w = true
  · rw [if_pos q] at h; cases h; intro r hr; cases hr
  · rw [if_neg q] at h
    cases h1 : pk1 fl w l with
    | some a =>
      rw [h1] at h; cases h
      intro r hr
      rw [List.mem_singleton.mp hr]; exact pk1_mem h1
    | none =>
      rw [h1] at h
      cases h2 : pk2 fl w l with
      | some a =>
        rw [h2] at h; cases h
        have := pk2_mem h2
        intro r hr
        simp only [List.mem_cons, List.not_mem_nil, or_false] at hr
        rcases hr with e | e
        · rw [e]; exact this.1
        · rw [e]; exact this.2
      | none =>
        rw [h2] at h
        cases h3 : pk3 fl w l with
        | some a =>
          rw [h3] at h; cases h
          have := pk3_mem h3
          intro r hr
          simp only [List.mem_cons, List.not_mem_nil, or_false] at hr
          rcases hr with e | e | e
          · rw [e]; exact this.1
          · rw [e]; exact this.2.1
          · rw [e]; exact this.2.2
        | none => rw [h3] at h; cases h
theorem chG_s (g : List Nat → Bool) (us : List Nat) (n f z : Nat) : chG g us n (f + 1) z = if z ≤ n then (match sr0 g z us with
    | some os => some os
    | none => chG g us n f (z + 1)) else none := rfl
theorem pk_ch {P : Prob} {w : Int64} {fl : Nat → Int64} (hwf : wfP P) (hu : (ufAll uf0 P.2.1).2.2 = true) (hg : ∃ p, goodP p (ufAll uf0 P.2.1).1) (hv2 : ∀ x v, (ufAll uf0 P.2.1).2.1 x = some v → v < 2) (hI : wInv P.2.2 (ufAll uf0 P.2.1) w fl 48) : pkAll fl w (candL fl 128) = chW P ∧ ∀ os, chW P = some os → ∀ r, r ∈ os → (ufAll uf0 P.2.1).2.1 r = none := by
  have hokD := hwf.okL2
  have hD3 := hwf.2.2.1
  have hc := cand_us hwf hg hI
  have main : pkAll fl w (usL P (ufAll uf0 P.2.1) 128) = chW P := by
    unfold chW
    rw [if_pos hu]
    have hnd := usL_nodup P (ufAll uf0 P.2.1)
    have hus : ∀ r, r ∈ usL P (ufAll uf0 P.2.1) 128 → (ufAll uf0 P.2.1).2.1 r = none ∧ r < 128 := fun r hr => usL_mem hr
    generalize usL P (ufAll uf0 P.2.1) 128 = us at *
    generalize ufAll uf0 P.2.1 = u at *
    have hm : ∀ os, (∀ r, r ∈ os → r ∈ us) → os.Nodup → mW u os P.2.2 = hold3 (wF fl w os) := fun os h1 h2 => (hold_mW hI hokD hD3 hv2 (fun r hr => hus r (h1 r hr)) h2).symm
    have E0 : sr0 (fun os => mW u os P.2.2) 0 us = if hold3 w = true then some [] else none := by
      show (match (match (if mW u [] P.2.2 = true then some ([] : List Nat) else none) with | some r => some r | none => none) with | some r => some r | none => none) = _
      rw [hm [] (fun r hr => by cases hr) List.nodup_nil]
      show (match (match (if hold3 w = true then some ([] : List Nat) else none) with | some r => some r | none => none) with | some r => some r | none => none) = _
      by_cases q : hold3 w = true
      · rw [if_pos q]
      · rw [if_neg q]
    have E1 : sr0 (fun os => mW u os P.2.2) 1 us = (pk1 fl w us).map (fun c => [c]) := sr1_pk (fun c hc1 => hm [c] (fun r hr => by rw [List.mem_singleton.mp hr]; exact hc1) (by simp))
    have E2 : sr0 (fun os => mW u os P.2.2) 2 us = (pk2 fl w us).map (fun q => [q.1, q.2]) := sr1_pk2 hnd (fun a c ha hc1 hac => hm [a, c] (fun r hr => by
      simp only [List.mem_cons, List.not_mem_nil, or_false] at hr
      rcases hr with e | e
      · rw [e]; exact ha
      · rw [e]; exact hc1) (by simp [hac]))
    have E3 : sr0 (fun os => mW u os P.2.2) 3 us = (pk3 fl w us).map (fun q => [q.1, q.2.1, q.2.2]) := sr1_pk3 hnd (fun a b c ha hb hc1 hab hac hbc => hm [a, b, c] (fun r hr => by
      simp only [List.mem_cons, List.not_mem_nil, or_false] at hr
      rcases hr with e | e | e
      · rw [e]; exact ha
      · rw [e]; exact hb
      · rw [e]; exact hc1) (by simp [hab, hac, hbc]))
    rw [chG_s, if_pos (Nat.zero_le _), E0]
    unfold pkAll
    by_cases q : hold3 w = true
    · rw [if_pos q, if_pos q]
    · have hw := Bool.eq_false_iff.mpr q
      rw [if_neg q, if_neg q]
      show _ = chG (fun os => mW u os P.2.2) us P.2.2.length 4 1
      have bitn : ∀ k, k < 3 → P.2.2[k]? = none → bl w (16 * k) = true ∧ ∀ r, r ∈ us → bl (fl r) (16 * k) = false := fun k hk hno => by
        refine ⟨none_bit (os := []) hI (fun r hr => by cases hr) hno hk, fun r hr => ?_⟩
        rw [hI.2 r (hus r hr).2 _ (by omega)]
        unfold flB
        rw [show 16 * k / 16 = k by omega, hno, Bool.and_false]
      by_cases n0 : P.2.2.length = 0
      · exfalso
        have : mW u [] P.2.2 = true := by rw [List.eq_nil_of_length_eq_zero n0]; rfl
        rw [hm [] (fun r hr => by cases hr) List.nodup_nil] at this
        exact q this
      · rw [chG_s, if_pos (by omega), E1]
        cases h1 : pk1 fl w us with
        | some a => rfl
        | none =>
          show (match pk2 fl w us with | some q => some [q.1, q.2] | none => (match pk3 fl w us with | some q => some [q.1, q.2.1, q.2.2] | none => none)) = chG (fun os => mW u os P.2.2) us P.2.2.length 3 2
          by_cases n1 : P.2.2.length = 1
          · have b1 := bitn 1 (by decide) (List.getElem?_eq_none (by omega))
            have b2 := bitn 2 (by decide) (List.getElem?_eq_none (by omega))
            have h2 := pk2_one b1.1 b1.2 b2.1 b2.2 hw h1
            rw [h2, pk3_two b2.1 b2.2 hw h1 h2, chG_s, if_neg (by omega)]
          · rw [chG_s, if_pos (by omega), E2]
            cases h2 : pk2 fl w us with
            | some a => rfl
            | none =>
              show (match pk3 fl w us with | some q => some [q.1, q.2.1, q.2.2] | none => none) = chG (fun os => mW u os P.2.2) us P.2.2.length 2 3
              by_cases n2 : P.2.2.length = 2
              · have b2 := bitn 2 (by decide) (List.getElem?_eq_none (by omega))
                rw [pk3_two b2.1 b2.2 hw h1 h2, chG_s, if_neg (by omega)]
              · rw [chG_s, if_pos (by omega), E3]
                cases h3 : pk3 fl w us with
                | some a => rfl
                | none =>
                  show none = chG (fun os => mW u os P.2.2) us P.2.2.length 1 4
                  rw [chG_s, if_neg (by omega)]
  refine ⟨by rw [hc, pkAll_f]; exact main, fun os hos r hr => ?_⟩
  rw [← main] at hos
  exact (usL_mem (pkAll_mem hos r hr)).1
