/-! the reference's reading -/
def qstM (v c : Int32) : Int32 := if 10000 < v then v else 10 * v + c - 48
/-- what is read so far, in the reference, is P -/
def mPr (nC nP nK nW : Nat) (S A : qA2) (P : qPS) : Prop :=
  (A 195 0 = nI nC ∧ P.1 0 = nI nC ∧ nC ≤ 12) ∧ (¬ nC = 0 → P.1 1 = A 195 1 ∧ P.1 2 = A 195 2) ∧ P.1 3 = S 188 20 ∧ (S 188 21 = nI nP ∧ P.1 4 = nI nP ∧ nP ≤ 6) ∧ (S 188 24 = nI nK ∧ P.1 5 = nI nK ∧ nK ≤ 5) ∧ (S 188 27 = nI nW ∧ P.1 6 = nI nW ∧ nW ≤ 10) ∧ (∀ k, k < nP → P.2 1 k = A 196 k ∧ P.2 2 k = A 197 k) ∧ (∀ k, k < nK → P.2 3 k = A 198 k ∧ P.2 4 k = A 199 k) ∧ (∀ k, k < nW → P.2 5 k = A 200 k ∧ P.2 6 k = A 201 k)
def mPX (S A : qA2) (P : qPS) : Prop := ∃ nC nP nK nW, mPr nC nP nK nW S A P
theorem mPr_law {nP nK nW x y z : Nat} {S A S' A' : qA2} {P : qPS} (hP : mPr 0 nP nK nW S A P) (hx : x ≤ 12) (h20 : S' 188 20 = S 188 20) (h21 : S' 188 21 = S 188 21) (h24 : S' 188 24 = S 188 24) (h27 : S' 188 27 = S 188 27) (hA : A' = q2 (q2 (q2 A 195 0 (nI x)) 195 1 (nI y)) 195 2 (nI z)) : mPr x nP nK nW S' A' (upd (upd (upd P.1 0 (nI x)) 1 (nI y)) 2 (nI z), P.2) := by
  obtain ⟨⟨a1, a2, a3⟩, b, c, ⟨d1, d2, d3⟩, ⟨e1, e2, e3⟩, ⟨f1, f2, f3⟩, g, h, i⟩ := hP
  subst hA
  refine ⟨⟨by simp [q2], by simp [upd], hx⟩, fun _ => ⟨by simp [q2, upd], by simp [q2, upd]⟩, ?_, ⟨h21.trans d1, ?_, d3⟩, ⟨h24.trans e1, ?_, e3⟩, ⟨h27.trans f1, ?_, f3⟩, ?_, ?_, ?_⟩
  · rw [h20, ← c]; simp [upd]
  · rw [← d2]; simp [upd]
  · rw [← e2]; simp [upd]
  · rw [← f2]; simp [upd]
  · intro k hk; simpa [q2] using g k hk
  · intro k hk; simpa [q2] using h k hk
  · intro k hk; simpa [q2] using i k hk
theorem mPr_road {nC nP nK nW x : Nat} {S A S' A' : qA2} {P : qPS} (hP : mPr nC nP nK nW S A P) (h20 : S' 188 20 = S 188 20 ||| qbit x) (h21 : S' 188 21 = S 188 21) (h24 : S' 188 24 = S 188 24) (h27 : S' 188 27 = S 188 27) (hA : A' = A) : mPr nC nP nK nW S' A' (upd P.1 3 (P.1 3 ||| qbit x), P.2) := by
  obtain ⟨⟨a1, a2, a3⟩, b, c, ⟨d1, d2, d3⟩, ⟨e1, e2, e3⟩, ⟨f1, f2, f3⟩, g, h, i⟩ := hP
  subst hA
  refine ⟨⟨a1, by rw [← a2]; simp [upd], a3⟩, fun z => ?_, ?_, ⟨h21.trans d1, ?_, d3⟩, ⟨h24.trans e1, ?_, e3⟩, ⟨h27.trans f1, ?_, f3⟩, g, h, i⟩
  · have := b z
    simpa [upd] using this
  · rw [h20, ← c]; simp [upd]
  · rw [← d2]; simp [upd]
  · rw [← e2]; simp [upd]
  · rw [← f2]; simp [upd]
theorem mPr_post {nC nP nK nW x y : Nat} {S A S' A' : qA2} {P : qPS} (hP : mPr nC nP nK nW S A P) (hn : nP < 6) (h20 : S' 188 20 = S 188 20) (h21 : S' 188 21 = nI (nP + 1)) (h24 : S' 188 24 = S 188 24) (h27 : S' 188 27 = S 188 27) (hA : A' = q2 (q2 A 196 nP (nI x)) 197 nP (nI y)) : mPr nC (nP + 1) nK nW S' A' (upd P.1 4 (nI (nP + 1)), q2 (q2 P.2 1 nP (nI x)) 2 nP (nI y)) := by
  obtain ⟨⟨a1, a2, a3⟩, b, c, ⟨d1, d2, d3⟩, ⟨e1, e2, e3⟩, ⟨f1, f2, f3⟩, g, h, i⟩ := hP
  subst hA
  refine ⟨⟨by rw [← a1]; simp [q2], by rw [← a2]; simp [upd], a3⟩, fun z => ?_, ?_, ⟨h21, by simp [upd], by omega⟩, ⟨h24.trans e1, ?_, e3⟩, ⟨h27.trans f1, ?_, f3⟩, ?_, ?_, ?_⟩
  · have := b z
    simpa [upd, q2] using this
  · rw [h20, ← c]; simp [upd]
  · rw [← e2]; simp [upd]
  · rw [← f2]; simp [upd]
  · intro k hk
    by_cases e : k = nP
    · subst e; simp [q2]
    · have := g k (by omega)
      simpa [q2, e] using this
  · intro k hk; simpa [q2] using h k hk
  · intro k hk; simpa [q2] using i k hk
theorem mPr_crow {nC nP nK nW x y : Nat} {S A S' A' : qA2} {P : qPS} (hP : mPr nC nP nK nW S A P) (hn : nK < 5) (h20 : S' 188 20 = S 188 20) (h21 : S' 188 21 = S 188 21) (h24 : S' 188 24 = nI (nK + 1)) (h27 : S' 188 27 = S 188 27) (hA : A' = q2 (q2 A 198 nK (nI x)) 199 nK (nI y)) : mPr nC nP (nK + 1) nW S' A' (upd P.1 5 (nI (nK + 1)), q2 (q2 P.2 3 nK (nI x)) 4 nK (nI y)) := by
  obtain ⟨⟨a1, a2, a3⟩, b, c, ⟨d1, d2, d3⟩, ⟨e1, e2, e3⟩, ⟨f1, f2, f3⟩, g, h, i⟩ := hP
  subst hA
  refine ⟨⟨by rw [← a1]; simp [q2], by rw [← a2]; simp [upd], a3⟩, fun z => ?_, ?_, ⟨h21.trans d1, ?_, d3⟩, ⟨h24, by simp [upd], by omega⟩, ⟨h27.trans f1, ?_, f3⟩, ?_, ?_, ?_⟩
  · have := b z
    simpa [upd, q2] using this
  · rw [h20, ← c]; simp [upd]
  · rw [← d2]; simp [upd]
  · rw [← f2]; simp [upd]
  · intro k hk; simpa [q2] using g k hk
  · intro k hk
    by_cases e : k = nK
    · subst e; simp [q2]
    · have := h k (by omega)
      simpa [q2, e] using this
  · intro k hk; simpa [q2] using i k hk
theorem mPr_hour {nC nP nK nW x y : Nat} {S A S' A' : qA2} {P : qPS} (hP : mPr nC nP nK nW S A P) (hn : nW < 10) (h20 : S' 188 20 = S 188 20) (h21 : S' 188 21 = S 188 21) (h24 : S' 188 24 = S 188 24) (h27 : S' 188 27 = nI (nW + 1)) (hA : A' = q2 (q2 A 200 nW (nI x)) 201 nW (nI y)) : mPr nC nP nK (nW + 1) S' A' (upd P.1 6 (nI (nW + 1)), q2 (q2 P.2 5 nW (nI x)) 6 nW (nI y)) := by
  obtain ⟨⟨a1, a2, a3⟩, b, c, ⟨d1, d2, d3⟩, ⟨e1, e2, e3⟩, ⟨f1, f2, f3⟩, g, h, i⟩ := hP
  subst hA
  refine ⟨⟨by rw [← a1]; simp [q2], by rw [← a2]; simp [upd], a3⟩, fun z => ?_, ?_, ⟨h21.trans d1, ?_, d3⟩, ⟨h24.trans e1, ?_, e3⟩, ⟨h27, by simp [upd], by omega⟩, ?_, ?_, ?_⟩
  · have := b z
    simpa [upd, q2] using this
  · rw [h20, ← c]; simp [upd]
  · rw [← d2]; simp [upd]
  · rw [← e2]; simp [upd]
  · intro k hk; simpa [q2] using g k hk
  · intro k hk; simpa [q2] using h k hk
  · intro k hk
    by_cases e : k = nW
    · subst e; simp [q2]
    · have := i k (by omega)
      simpa [q2, e] using this
def mwc (c : Int32) : Int32 := if c = 119 then 0 else if c = 114 then 1 else if c = 112 then 2 else if c = 99 then 3 else if c = 104 then 4 else -1
def mfl (nC nP nK nW is : Nat) : Bool := if is = 0 then decide (¬ nC = 0) else if is = 1 then false else if is = 2 then decide (nP = 6) else if is = 3 then decide (nK = 5) else decide (nW = 10)
def mbody (L : Nat → Int32) (n a nC nP nK nW : Nat) (P : qPS) (is : Nat) : qF ⊕ (Nat × qPS) := if is = 0 then qbW qstM L n a P else if is = 1 then qbR qstM L n a nC P else if is = 2 then qbP qstM L n a nC nP P else if is = 3 then qbC qstM L n a nK P else qbH qstM L n a nW P
theorem qskF_idem (L : Nat → Int32) (n : Nat) : ∀ (f a : Nat), n ≤ a + f → (qskF L n f a < n → ¬ L (qskF L n f a) = 32)
  | 0, a, h => fun h2 => by
    have : a < n := h2
    omega
  | f + 1, a, h => by
    unfold qskF
    by_cases h1 : a < n ∧ L a = 32
    · rw [if_pos h1]
      exact qskF_idem L n f (a + 1) (by omega)
    · rw [if_neg h1]
      intro h2 h3
      exact h1 ⟨h2, h3⟩
theorem qsk_stop {L : Nat → Int32} {n a : Nat} (h : a < n → ¬ L a = 32) : qsk L n a = a := by
  unfold qsk
  cases n - a with
  | zero => rfl
  | succ f =>
    unfold qskF
    exact if_neg (fun z => h z.1 z.2)
theorem qsk_idem (L : Nat → Int32) (n a : Nat) : qsk L n (qsk L n a) = qsk L n a := qsk_stop (qskF_idem L n (n - a) a (by omega))
