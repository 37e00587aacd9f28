/-! Frames; classes of bits (union-find) as pure values. -/
def Fr (a b : Nat) (σ σ1 : SS) : Prop := (∀ k, (k < a ∨ b ≤ k) → σ1.1 k = σ.1 k ∧ σ1.2.1 k = σ.2.1 k ∧ σ1.2.2.1 k = σ.2.2.1 k) ∧ σ1.2.2.2 = σ.2.2.2
theorem Fr.refl (a b : Nat) (σ : SS) : Fr a b σ σ := ⟨fun _ _ => ⟨rfl, rfl, rfl⟩, rfl⟩
theorem Fr.trans {a b : Nat} {σ σ1 σ2 : SS} (h1 : Fr a b σ σ1) (h2 : Fr a b σ1 σ2) : Fr a b σ σ2 :=
  ⟨fun k hk => ⟨(h2.1 k hk).1.trans (h1.1 k hk).1, (h2.1 k hk).2.1.trans (h1.1 k hk).2.1, (h2.1 k hk).2.2.trans (h1.1 k hk).2.2⟩, h2.2.trans h1.2⟩
theorem Fr.mono {a b a' b' : Nat} {σ σ1 : SS} (h : Fr a b σ σ1) (ha : a' ≤ a) (hb : b ≤ b') : Fr a' b' σ σ1 := ⟨fun k hk => h.1 k (by omega), h.2⟩
theorem Fr.A {a b : Nat} {σ σ1 : SS} (h : Fr a b σ σ1) {k : Nat} (hk : k < a ∨ b ≤ k) : σ1.2.1 k = σ.2.1 k := (h.1 k hk).2.1
theorem Fr.F {a b : Nat} {σ σ1 : SS} (h : Fr a b σ σ1) {k : Nat} (hk : k < a ∨ b ≤ k) : σ1.1 k = σ.1 k := (h.1 k hk).1
theorem Fr.L {a b : Nat} {σ σ1 : SS} (h : Fr a b σ σ1) {k : Nat} (hk : k < a ∨ b ≤ k) : σ1.2.2.1 k = σ.2.2.1 k := (h.1 k hk).2.2
theorem Fr.sA {a b : Nat} {σ σ1 : SS} (h : Fr a b σ σ1) {k : Nat} (f : Nat → Int32) (h1 : a ≤ k) (h2 : k < b) : Fr a b σ (sA σ1 k f) :=
  ⟨fun j hj => ⟨(h.1 j hj).1, by rw [sA_ne _ _ (by omega)]; exact (h.1 j hj).2.1, (h.1 j hj).2.2⟩, h.2⟩
theorem Fr.sL {a b : Nat} {σ σ1 : SS} (h : Fr a b σ σ1) {k : Nat} (f : Nat → Int64) (h1 : a ≤ k) (h2 : k < b) : Fr a b σ (sL σ1 k f) :=
  ⟨fun j hj => ⟨(h.1 j hj).1, (h.1 j hj).2.1, by rw [sL_ne _ _ (by omega)]; exact (h.1 j hj).2.2⟩, h.2⟩
theorem sF_row (σ : SS) {k i : Nat} (j : Nat) (v : Int32) (h : i ≠ k) : (sF σ k j v).1 i = σ.1 i := by unfold sF; exact up_ne _ _ h
theorem Fr.sF {a b : Nat} {σ σ1 : SS} (h : Fr a b σ σ1) {k : Nat} (j : Nat) (v : Int32) (h1 : a ≤ k) (h2 : k < b) : Fr a b σ (sF σ1 k j v) :=
  ⟨fun i hi => ⟨by rw [sF_row _ _ _ (by omega)]; exact (h.1 i hi).1, (h.1 i hi).2.1, (h.1 i hi).2.2⟩, h.2⟩
abbrev UF : Type := (Nat → Nat) × (Nat → Option Nat) × Bool
abbrev Stm : Type := Nat × (Nat → Nat) × (Nat → Nat)
abbrev Prob : Type := (Nat → Nat) × List Stm × List Stm
def uf0 : UF := (fun x => x, fun _ => none, true)
def ufFix (u : UF) (r v : Nat) : UF := match u.2.1 r with
  | none => (u.1, va_up u.2.1 r (some v), u.2.2)
  | some w => (u.1, u.2.1, u.2.2 && decide (w = v))
def ufMove (u : UF) (lo hi : Nat) : UF := (fun x => if u.1 x = hi then lo else u.1 x, u.2.1, u.2.2)
def ufFixO (u : UF) (r : Nat) (v : Option Nat) : UF := match v with
  | none => u
  | some v => ufFix u r v
def ufJoin (u : UF) (a b : Nat) : UF := if a = b then u else ufFixO (ufMove u (min a b) (max a b)) (min a b) (u.2.1 (max a b))
def isV (x : Nat) : Bool := decide (16 ≤ x % 256)
def vb (x : Nat) : Nat := x % 256 - 16
def cn (x : Nat) : Nat := if isV x then vb x else 128 + x % 256
def ufEq (u : UF) (a b : Nat) : UF :=
  if isV a then (if isV b then ufJoin u (u.1 (vb a)) (u.1 (vb b)) else ufFix u (u.1 (vb a)) (b % 256))
  else (if isV b then ufFix u (u.1 (vb b)) (a % 256) else (u.1, u.2.1, u.2.2 && decide (a % 256 = b % 256)))
def ufTerms (u : UF) (L R : Nat → Nat) : Nat → UF
  | 0 => u
  | k + 1 => ufEq (ufTerms u L R k) (L k) (R k)
def ufStm (u : UF) (s : Stm) : UF := ufTerms u s.2.1 s.2.2 s.1
def ufAll (u : UF) (l : List Stm) : UF := l.foldl ufStm u
/-- a bit's number: a constant bit, or a bit of a variable -/
def okB (x : Nat) : Prop := x < 65536 ∧ (x % 256 < 2 ∨ (16 ≤ x % 256 ∧ x % 256 < 144))
def goodP (p rt : Nat → Nat) : Prop := ∀ x, x < 128 → p x ≤ x ∧ rt (p x) = rt x ∧ (p x = x ↔ rt x = x)
theorem goodP.le {p rt : Nat → Nat} (h : goodP p rt) : ∀ n x, x ≤ n → x < 128 → rt x ≤ x ∧ rt (rt x) = rt x := by
  intro n
  induction n with
  | zero =>
    intro x hx h8
    have h0 := h x h8
    have : p x = x := by omega
    have e := h0.2.2.mp this
    rw [e]; exact ⟨Nat.le_refl _, e⟩
  | succ n ih =>
    intro x hx h8
    have h0 := h x h8
    by_cases hp : p x = x
    · have e := h0.2.2.mp hp
      rw [e]; exact ⟨Nat.le_refl _, e⟩
    · have h1 := ih (p x) (by omega) (by omega)
      rw [h0.2.1] at h1
      exact ⟨by omega, h1.2⟩
theorem goodP.rt_le {p rt : Nat → Nat} (h : goodP p rt) {x : Nat} (hx : x < 128) : rt x ≤ x := (h.le x x (Nat.le_refl _) hx).1
theorem goodP.rt_rt {p rt : Nat → Nat} (h : goodP p rt) {x : Nat} (hx : x < 128) : rt (rt x) = rt x := (h.le x x (Nat.le_refl _) hx).2
theorem goodP.half {p rt : Nat → Nat} (h : goodP p rt) {x : Nat} (hx : x < 128) : goodP (va_up p x (p (p x))) rt := by
  intro y hy
  by_cases hyx : y = x
  · subst hyx
    rw [up_eq]
    have h1 := h y hy
    have h2 := h (p y) (by omega)
    refine ⟨by omega, h2.2.1.trans h1.2.1, ?_⟩
    constructor
    · intro e; exact h1.2.2.mp (by omega)
    · intro e; have := h1.2.2.mpr e; rw [this, this]
  · rw [up_ne _ _ hyx]; exact h y hy
theorem goodP.join {p rt : Nat → Nat} (h : goodP p rt) {lo hi : Nat} (hlt : lo < hi) (hhi : hi < 128) (e1 : rt lo = lo) (e2 : rt hi = hi) : goodP (va_up p hi lo) (fun x => if rt x = hi then lo else rt x) := by
  intro y hy
  by_cases hyx : y = hi
  · subst hyx
    rw [up_eq]
    refine ⟨by omega, ?_, ?_⟩
    · simp only [e1, e2]; simp; try omega
    · simp only [e2]; simp
  · rw [up_ne _ _ hyx]
    have h1 := h y hy
    refine ⟨h1.1, by simp only [h1.2.1], ?_⟩
    constructor
    · intro e; have e3 := h1.2.2.mp e; simp only [e3]; simp [hyx]
    · intro e
      by_cases e3 : rt y = hi
      · simp only [e3, if_true] at e
        rw [← e, e1] at e3; omega
      · simp only [e3, if_false] at e; exact h1.2.2.mpr e
def ov (v : Option Nat) : Int32 := match v with
  | none => -1
  | some v => nI v
theorem ov_free {v : Option Nat} (h : ∀ w, v = some w → w < 2) : ov v = (-1) ↔ v = none := by
  cases v with
  | none => simp [ov]
  | some w =>
    have := h w rfl
    rcases (show w = 0 ∨ w = 1 by omega) with rfl | rfl <;> simp [ov] <;> decide
def RCu (σ : SS) (c : Nat) (u : UF) : Prop := (∃ p : Nat → Nat, (∀ x, x < 128 → σ.2.1 (c + 1) x = nI (p x)) ∧ goodP p u.1) ∧ (∀ x, x < 128 → u.1 x = x → σ.2.1 (c + 2) x = ov (u.2.1 x)) ∧ σ.1 c 2 = bI u.2.2 ∧ (∀ x v, u.2.1 x = some v → v < 2)
def ClA (c : Nat) : Prop := sk c = some (.inr (0, [some (c + 1), some (c + 2), none])) ∧ sk (c + 1) = some (.inl (0, 128)) ∧ sk (c + 2) = some (.inl (0, 128))
theorem ClA_113 : ClA 113 := ⟨rfl, rfl, rfl⟩
theorem ClA_116 : ClA 116 := ⟨rfl, rfl, rfl⟩
theorem RCu.fr {σ σ1 : SS} {c a b : Nat} {u : UF} (h : RCu σ c u) (hF : Fr a b σ σ1) (hc : c + 3 ≤ a ∨ b ≤ c) : RCu σ1 c u := by
  obtain ⟨h1, h2, h3, h4⟩ := h
  unfold RCu
  rw [hF.A (k := c + 1) (by omega), hF.A (k := c + 2) (by omega), hF.F (k := c) (by omega)]
  exact ⟨h1, h2, h3, h4⟩
