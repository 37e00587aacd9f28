/-! What holds of both between two calls of the law; the beginning. -/
def IM (σ : SS) (n : Nat) (ch : Nat → Nat) (P : Prob) (hs : List Prob) (sl : Nat → Option Prob) : Prop := MT σ n ch ∧ FP (σ.2.1 124) P ∧ RHm σ hs ∧ RSm σ sl ∧ Z18 σ
theorem IM.sm {σ σ1 : SS} {n : Nat} {ch : Nat → Nat} {P : Prob} {hs : List Prob} {sl : Nat → Option Prob} (h : IM σ n ch P hs sl) (hF : Sm 123 136 σ σ1) : IM σ1 n ch P hs sl := by
  unfold IM MT RHm RSm Z18
  rw [(hF 123 (by omega) (by omega)).1, (hF 124 (by omega) (by omega)).2, (hF 126 (by omega) (by omega)).2, (hF 127 (by omega) (by omega)).2, (hF 128 (by omega) (by omega)).2, (hF 129 (by omega) (by omega)).2]
  exact h
theorem FM.sm {fs as : List Nat} {σ σ1 : SS} (h : FM fs as σ σ1) (ha : ∀ a, a < 123 → a ∉ as) : Sm 0 123 σ σ1 := fun k _ hk => ⟨h.1 k (by omega), h.2.2.1 k (ha k hk)⟩
theorem IS.fm {fs as : List Nat} {σ σ1 : SS} {n : Nat} {ch : Nat → Nat} {P : Prob} {hs : List Prob} {sl : Nat → Option Prob} (h : IS σ n ch P hs sl) (hF : FM fs as σ σ1) (ha : ∀ a, a < 123 → a ∉ as) : IS σ1 n ch P hs sl := by
  have hS := hF.sm ha
  have h0 : σ1.1 0 = σ.1 0 := (hS 0 (by omega) (by omega)).1
  exact ⟨h.1.sm (hS.mono (by omega) (by omega)) (hS.mono (by omega) (by omega)) (by rw [h0]), h.2.sm (hS.mono (by omega) (by omega)) (hS.mono (by omega) (by omega)) (by rw [h0]) (by rw [hF.2.2.2])⟩
/-- a question of the reference: nothing of what it keeps changes -/
theorem IM.fm {fs as : List Nat} {σ σ1 : SS} {n : Nat} {ch : Nat → Nat} {P : Prob} {hs : List Prob} {sl : Nat → Option Prob} (h : IM σ n ch P hs sl) (hF : FM fs as σ σ1) (h4 : 4 ∉ fs) (h8 : 8 ∉ fs) (h18 : 18 ∉ fs) (a1 : 124 ∉ as) (a2 : 126 ∉ as) (a3 : 127 ∉ as) (a4 : 128 ∉ as) (a5 : 129 ∉ as) : IM σ1 n ch P hs sl := by
  unfold IM MT RHm RSm Z18
  rw [hF.f h4, hF.f h8, hF.f h18, hF.a a1, hF.a a2, hF.a a3, hF.a a4, hF.a a5]
  exact h
theorem IM.fz {fs as : List Nat} {σ σ1 : SS} {n : Nat} {ch : Nat → Nat} {P : Prob} {hs : List Prob} {sl : Nat → Option Prob} (h : IM σ n ch P hs sl) (hF : FM fs as σ σ1) (hz : Z18 σ1) (h4 : 4 ∉ fs) (h8 : 8 ∉ fs) (a1 : 124 ∉ as) (a2 : 126 ∉ as) (a3 : 127 ∉ as) (a4 : 128 ∉ as) (a5 : 129 ∉ as) : IM σ1 n ch P hs sl := by
  refine ⟨?_, ?_, ?_, ?_, hz⟩
  · have := h.1; unfold MT at *; rw [hF.f h8, hF.a a5]; exact this
  · rw [hF.a a1]; exact h.2.1
  · have := h.2.2.1; unfold RHm at *; rw [hF.f h4, hF.a a2]; exact this
  · have := h.2.2.2.1; unfold RSm at *; rw [hF.a a3, hF.a a4]; exact this
def InvL (σ : SS) : Prop := ∃ (n : Nat) (ch : Nat → Nat) (P : Prob) (hs : List Prob) (sl : Nat → Option Prob), IS σ n ch P hs sl ∧ IM σ n ch P hs sl ∧ wfH hs ∧ wfSl sl
theorem wf_pb0 : wfP pb0 := ⟨fun _ _ => Nat.zero_le _, Nat.zero_le _, Nat.zero_le _, (fun i s hs => by simp [pb0] at hs), (fun i s hs => by simp [pb0] at hs)⟩
section
variable {f0 g0 f1 g1 : Nat → Int32}
theorem RP0 {p : Nat} (hp : p ∈ pbs) : RP (s0 f0 g0 f1 g1) p pb0 := by
  simp only [pbs, List.mem_cons, List.not_mem_nil, or_false] at hp
  rcases hp with rfl | rfl | rfl | rfl | rfl | rfl | rfl | rfl | rfl | rfl <;> exact ⟨fun v hv => rfl, ⟨rfl, rfl, Nat.zero_le _, fun i s h => by simp [pb0] at h⟩, ⟨rfl, rfl, Nat.zero_le _, fun i s h => by simp [pb0] at h⟩⟩
theorem RCu0 (h : ∀ j, j < 128 → f0 j = nI j ∧ g0 j = -1) : RCu (s0 f0 g0 f1 g1) 113 uf0 :=
  ⟨⟨fun x => x, fun x hx => (h x hx).1, fun x hx => ⟨Nat.le_refl _, rfl, Iff.rfl⟩⟩, fun x hx _ => (h x hx).2, rfl, fun x v hv => by cases hv⟩
theorem CInv0 (h : ∀ j, j < 128 → f0 j = nI j ∧ g0 j = -1) : CInv (s0 f0 g0 f1 g1) pb0 := by
  refine ⟨RP0 (by decide), wf_pb0, ⟨fun _ => false, fun v b hv hb => ?_, fun i s hs => by simp [pb0] at hs, fun K' _ x hx => by cases hx⟩, RCu0 h, ⟨false, rfl, fun q => by cases q⟩⟩
  show bt (0 : Int32) b = _
  rw [Bool.and_false, b_0]
theorem IS0 (h : ∀ j, j < 128 → f0 j = nI j ∧ g0 j = -1) : IS (s0 f0 g0 f1 g1) 0 (fun _ => 0) pb0 [] (fun _ => none) := by
  refine ⟨CInv0 h, ⟨rfl, Nat.zero_le _, fun i hi => absurd hi (by omega)⟩, ⟨pb0, RP0 (by decide)⟩, ⟨rfl, Nat.zero_le _, fun j hj => ?_, fun i j hi hj e => ?_, fun j hj => ?_, fun i P hi => by cases hi⟩, fun j hj => ?_, fun j hj => ?_, fun j hj Q hQ => by cases hQ⟩
  · show 31 + 10 * j ∈ hix
    rcases (show j = 0 ∨ j = 1 ∨ j = 2 ∨ j = 3 ∨ j = 4 ∨ j = 5 by omega) with rfl | rfl | rfl | rfl | rfl | rfl <;> decide
  · have e1 : 31 + 10 * i = 31 + 10 * j := e
    omega
  · refine ⟨pb0, RP0 (p := 31 + 10 * j) ?_⟩
    rcases (show j = 0 ∨ j = 1 ∨ j = 2 ∨ j = 3 ∨ j = 4 ∨ j = 5 by omega) with rfl | rfl | rfl | rfl | rfl | rfl <;> decide
  · refine ⟨pb0, RP0 ?_⟩
    rcases (show j = 0 ∨ j = 1 by omega) with rfl | rfl <;> decide
  · show bt (0 : Int32) j = _
    rw [b_0]; rfl
theorem IM0 : IM (s0 f0 g0 f1 g1) 0 (fun _ => 0) pb0 [] (fun _ => none) :=
  ⟨⟨rfl, Nat.zero_le _, fun i hi => absurd hi (by omega)⟩, FP.zero (fun j hj => rfl), ⟨rfl, Nat.zero_le _, fun i Q hi => by cases hi⟩, fun j hj => ⟨fun _ => rfl, fun Q hQ => by cases hQ⟩, ⟨false, rfl⟩⟩
theorem InvL0 (h : ∀ j, j < 128 → f0 j = nI j ∧ g0 j = -1) : InvL (s0 f0 g0 f1 g1) := ⟨0, fun _ => 0, pb0, [], fun _ => none, IS0 h, IM0, (fun i Q hQ => by cases hQ), fun j Q hQ => by cases hQ⟩
end
