/-! The text: characters, tokens as pure values. -/
def isLo (c : Nat) : Bool := decide (97 ≤ c ∧ c ≤ 122)
def isDg (c : Nat) : Bool := decide (48 ≤ c ∧ c ≤ 57)
def ksC (c : Nat) : Nat := if isLo c then 256 else if isDg c then 257 else c
def ksT (ch : Nat → Nat) (i : Nat) : Nat := ksC (ch i)
def isRun (k : Nat) : Bool := decide (k = 256 ∨ k = 257)
/-- the sign at i goes on with the token before it -/
def extT (ch : Nat → Nat) (i : Nat) : Bool := decide (0 < i) && isRun (ksT ch i) && decide (ksT ch (i - 1) = ksT ch i)
/-- the end of a run of signs of one kind, from p on -/
def rnE (f : Nat → Bool) (n : Nat) : Nat → Nat → Nat
  | 0, p => p
  | k + 1, p => if decide (p < n) && f p then rnE f n k (p + 1) else p
def runE (f : Nat → Bool) (n p : Nat) : Nat := rnE f n (n - p) p
theorem rnE_spec (f : Nat → Bool) (n : Nat) : ∀ k p, n ≤ p + k → p ≤ rnE f n k p ∧ (∀ q, p ≤ q → q < rnE f n k p → q < n ∧ f q = true) ∧ ¬ (rnE f n k p < n ∧ f (rnE f n k p) = true)
  | 0, p, h => by
    unfold rnE
    exact ⟨Nat.le_refl _, fun q h1 h2 => absurd h2 (by omega), fun h1 => absurd h1.1 (by omega)⟩
  | k + 1, p, h => by
    unfold rnE
    by_cases hc : p < n ∧ f p = true
    · rw [if_pos (by simp [hc.1, hc.2])]
      obtain ⟨h1, h2, h3⟩ := rnE_spec f n k (p + 1) (by omega)
      refine ⟨by omega, fun q hq1 hq2 => ?_, h3⟩
      by_cases e : q = p
      · rw [e]; exact hc
      · exact h2 q (by omega) hq2
    · rw [if_neg (by simpa using hc)]
      exact ⟨Nat.le_refl _, fun q h1 h2 => absurd h2 (by omega), hc⟩
theorem runE_spec (f : Nat → Bool) (n p : Nat) : p ≤ runE f n p ∧ (∀ q, p ≤ q → q < runE f n p → q < n ∧ f q = true) ∧ ¬ (runE f n p < n ∧ f (runE f n p) = true) := rnE_spec f n (n - p) p (by omega)
theorem runE_eq {f : Nat → Bool} {n p e : Nat} (h1 : p ≤ e) (h2 : ∀ q, p ≤ q → q < e → q < n ∧ f q = true) (h3 : ¬ (e < n ∧ f e = true)) : runE f n p = e := by
  obtain ⟨g1, g2, g3⟩ := runE_spec f n p
  rcases Nat.lt_trichotomy (runE f n p) e with h | h | h
  · exact absurd (h2 _ g1 h) g3
  · exact h
  · exact absurd (g2 e h1 h) h3
theorem runE_le {f : Nat → Bool} {n p : Nat} (h : p ≤ n) : runE f n p ≤ n := by
  obtain ⟨g1, g2, g3⟩ := runE_spec f n p
  rcases Nat.lt_or_ge n (runE f n p) with q | q
  · exact absurd (g2 n h q).1 (by omega)
  · exact q
def skipT (ch : Nat → Nat) (n p : Nat) : Nat := runE (fun q => decide (ch q = 32)) n p
def tEnd (ch : Nat → Nat) (n a : Nat) : Nat := if isLo (ch a) then runE (fun q => isLo (ch q)) n a else if isDg (ch a) then runE (fun q => isDg (ch q)) n a else a + 1
/-- the starts of the tokens from p on -/
def TokL (ch : Nat → Nat) (n : Nat) : Nat → List Nat → Prop
  | p, [] => skipT ch n p = n
  | p, a :: l => a = skipT ch n p ∧ a < n ∧ TokL ch n (tEnd ch n a) l
/-- what scanning the first i signs has found, the last token first: start and length -/
def ScanR (ch : Nat → Nat) : Nat → List (Nat × Nat) → Prop
  | i, [] => ∀ q, q < i → ksT ch q = 32
  | i, t :: r => 1 ≤ t.2 ∧ t.1 + t.2 ≤ i ∧ ksT ch t.1 ≠ 32 ∧ extT ch t.1 = false ∧ (∀ q, t.1 < q → q < t.1 + t.2 → extT ch q = true) ∧ (t.1 + t.2 < i → extT ch (t.1 + t.2) = false) ∧ (∀ q, t.1 + t.2 ≤ q → q < i → ksT ch q = 32) ∧ ScanR ch t.1 r
theorem ksC_lo {c : Nat} (h : isLo c = true) : ksC c = 256 := by unfold ksC; rw [if_pos h]
theorem ksC_dg {c : Nat} (h : isDg c = true) : ksC c = 257 := by
  have : isLo c = false := by unfold isDg at h; unfold isLo; simp at h ⊢; omega
  unfold ksC; rw [if_neg (by rw [this]; decide), if_pos h]
theorem ksC_256 {c : Nat} (hc : c < 256) (h : ksC c = 256) : isLo c = true := by
  cases hl : isLo c with
  | true => rfl
  | false =>
    unfold ksC at h; rw [if_neg (by rw [hl]; decide)] at h
    split at h <;> omega
theorem ksC_257 {c : Nat} (hc : c < 256) (h : ksC c = 257) : isDg c = true := by
  cases hl : isDg c with
  | true => rfl
  | false =>
    unfold ksC at h
    split at h
    · omega
    · rw [if_neg (by rw [hl]; decide)] at h; omega
theorem ksC_32 {c : Nat} : ksC c = 32 ↔ c = 32 := by
  unfold ksC
  by_cases h1 : isLo c = true
  · rw [if_pos h1]; unfold isLo at h1; simp at h1; omega
  · rw [if_neg h1]
    by_cases h2 : isDg c = true
    · rw [if_pos h2]; unfold isDg at h2; simp at h2; omega
    · rw [if_neg h2]
theorem ksC_lt {c : Nat} (h : c < 256) : ksC c < 258 := by
  unfold ksC; split
  · omega
  · split <;> omega
/-- the end of a token, told by the signs that go on with it -/
theorem tEnd_ext {ch : Nat → Nat} {n a l : Nat} (hc : ∀ i, i < n → ch i < 256) (h1 : 1 ≤ l) (h2 : a + l ≤ n) (h3 : ∀ q, a < q → q < a + l → extT ch q = true) (h4 : a + l < n → extT ch (a + l) = false) : tEnd ch n a = a + l := by
  have key : ∀ q, a < q → extT ch q = true → ksT ch (q - 1) = ksT ch q ∧ isRun (ksT ch q) = true := fun q hq he => by
    unfold extT at he
    simp only [Bool.and_eq_true, decide_eq_true_eq] at he
    exact ⟨he.2, he.1.2⟩
  have same : ∀ d, d < l → ksT ch (a + d) = ksT ch a := by
    intro d
    induction d with
    | zero => intro _; rfl
    | succ d ih =>
      intro hd
      have := (key (a + (d + 1)) (by omega) (h3 _ (by omega) (by omega))).1
      rw [← this, show a + (d + 1) - 1 = a + d by omega]; exact ih (by omega)
  have stop : ∀ c0, (c0 = 256 ∨ c0 = 257) → ksT ch a = c0 → a + l < n → ¬ ksT ch (a + l) = c0 := fun c0 h0 ha hl he => by
    have h5 := h4 hl
    have h6 : ksT ch (a + l - 1) = c0 := by rw [show a + l - 1 = a + (l - 1) by omega, same (l - 1) (by omega)]; exact ha
    unfold extT isRun at h5
    rw [h6, he] at h5
    simp at h5
    omega
  unfold tEnd
  by_cases hl : isLo (ch a) = true
  · rw [if_pos hl]
    have ha : ksT ch a = 256 := ksC_lo hl
    refine runE_eq (by omega) (fun q hq1 hq2 => ⟨by omega, ?_⟩) (fun h => stop 256 (Or.inl rfl) ha h.1 (ksC_lo h.2))
    have := same (q - a) (by omega)
    rw [show a + (q - a) = q by omega, ha] at this
    exact ksC_256 (hc q (by omega)) this
  · rw [if_neg hl]
    by_cases hd : isDg (ch a) = true
    · rw [if_pos hd]
      have ha : ksT ch a = 257 := ksC_dg hd
      refine runE_eq (by omega) (fun q hq1 hq2 => ⟨by omega, ?_⟩) (fun h => stop 257 (Or.inr rfl) ha h.1 (ksC_dg h.2))
      have := same (q - a) (by omega)
      rw [show a + (q - a) = q by omega, ha] at this
      exact ksC_257 (hc q (by omega)) this
    · rw [if_neg hd]
      rcases Nat.lt_or_ge 1 l with q | q
      · have h5 := key (a + 1) (by omega) (h3 (a + 1) (by omega) (by omega))
        rw [show a + 1 - 1 = a by omega] at h5
        rw [← h5.1] at h5
        have h6 := h5.2
        unfold isRun at h6
        simp at h6
        rcases h6 with h6 | h6
        · exact absurd (ksC_256 (hc a (by omega)) h6) hl
        · exact absurd (ksC_257 (hc a (by omega)) h6) hd
      · omega
theorem skipT_eq {ch : Nat → Nat} {n p a : Nat} (h1 : p ≤ a) (h2 : a ≤ n) (h3 : ∀ q, p ≤ q → q < a → ksT ch q = 32) (h4 : a < n → ksT ch a ≠ 32) : skipT ch n p = a := by
  refine runE_eq h1 (fun q hq1 hq2 => ⟨by omega, ?_⟩) (fun h => ?_)
  · simpa using ksC_32.mp (h3 q hq1 hq2)
  · exact h4 h.1 (ksC_32.mpr (by simpa using h.2))
theorem ScanR.tok {ch : Nat → Nat} {n : Nat} (hc : ∀ i, i < n → ch i < 256) : ∀ (rl : List (Nat × Nat)) (i : Nat) (l : List Nat), i ≤ n → ScanR ch i rl → (i < n → extT ch i = false) → (∀ p, p ≤ i → (∀ q, p ≤ q → q < i → ksT ch q = 32) → TokL ch n p l) → TokL ch n 0 (rl.reverse.map (·.1) ++ l)
  | [], i, l, hi, hs, _, hQ => by
    show TokL ch n 0 l
    exact hQ 0 (by omega) (fun q _ hq => hs q hq)
  | t :: r, i, l, hi, hs, he, hQ => by
    obtain ⟨h1, h2, h3, h4, h5, h6, h7, h8⟩ := hs
    have e : (t :: r).reverse.map (·.1) ++ l = r.reverse.map (·.1) ++ (t.1 :: l) := by simp
    rw [e]
    refine ScanR.tok hc r t.1 (t.1 :: l) (by omega) h8 (fun _ => h4) (fun p hp hsp => ⟨(skipT_eq hp (by omega) hsp (fun _ => h3)).symm, by omega, ?_⟩)
    rw [tEnd_ext hc h1 (by omega) h5 (fun hl => by
      rcases Nat.lt_or_ge (t.1 + t.2) i with q | q
      · exact h6 q
      · have : t.1 + t.2 = i := by omega
        rw [this] at hl ⊢; exact he hl)]
    exact hQ (t.1 + t.2) (by omega) h7
