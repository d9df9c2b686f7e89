/-! the reference's reading -/
def qstM (v c : Int32) : Int32 := if 10000 < v then v else 10 * v + c - 48
/-- what is read so far, in the reference, is P -/
def mPr (nC nP nK nW : Nat) (S A : qA2) (P : qPS) : Prop :=
  (A 195 0 = nI nC ∧ P.1 0 = nI nC ∧ nC ≤ 12) ∧ (¬ nC = 0 → P.1 1 = A 195 1 ∧ P.1 2 = A 195 2) ∧ P.1 3 = S 188 20 ∧ (S 188 21 = nI nP ∧ P.1 4 = nI nP ∧ nP ≤ 6) ∧ (S 188 24 = nI nK ∧ P.1 5 = nI nK ∧ nK ≤ 5) ∧ (S 188 27 = nI nW ∧ P.1 6 = nI nW ∧ nW ≤ 10) ∧ (∀ k, k < nP → P.2 1 k = A 196 k ∧ P.2 2 k = A 197 k) ∧ (∀ k, k < nK → P.2 3 k = A 198 k ∧ P.2 4 k = A 199 k) ∧ (∀ k, k < nW → P.2 5 k = A 200 k ∧ P.2 6 k = A 201 k)
def mPX (S A : qA2) (P : qPS) : Prop := ∃ nC nP nK nW, mPr nC nP nK nW S A P
theorem mPr_law {nP nK nW x y z : Nat} {S A S' A' : qA2} {P : qPS} (hP : mPr 0 nP nK nW S A P) (hx : x ≤ 12) (h20 : S' 188 20 = S 188 20) (h21 : S' 188 21 = S 188 21) (h24 : S' 188 24 = S 188 24) (h27 : S' 188 27 = S 188 27) (hA : A' = q2 (q2 (q2 A 195 0 (nI x)) 195 1 (nI y)) 195 2 (nI z)) : mPr x nP nK nW S' A' (upd (upd (upd P.1 0 (nI x)) 1 (nI y)) 2 (nI z), P.2) := by
  obtain ⟨⟨a1, a2, a3⟩, b, c, ⟨d1, d2, d3⟩, ⟨e1, e2, e3⟩, ⟨f1, f2, f3⟩, g, h, i⟩ := hP
  subst hA
  refine ⟨⟨by simp [q2], by simp [upd], hx⟩, fun _ => ⟨by simp [q2, upd], by simp [q2, upd]⟩, ?_, ⟨h21.trans d1, ?_, d3⟩, ⟨h24.trans e1, ?_, e3⟩, ⟨h27.trans f1, ?_, f3⟩, ?_, ?_, ?_⟩
  · rw [h20, ← c]; simp [upd]
  · rw [← d2]; simp [upd]
  · rw [← e2]; simp [upd]
  · rw [← f2]; simp [upd]
  · intro k hk; simpa [q2] using g k hk
  · intro k hk; simpa [q2] using h k hk
  · intro k hk; simpa [q2] using i k hk
theorem mPr_road {nC nP nK nW x : Nat} {S A S' A' : qA2} {P : qPS} (hP : mPr nC nP nK nW S A P) (h20 : S' 188 20 = S 188 20 ||| qbit x) (h21 : S' 188 21 = S 188 21) (h24 : S' 188 24 = S 188 24) (h27 : S' 188 27 = S 188 27) (hA : A' = A) : mPr nC nP nK nW S' A' (upd P.1 3 (P.1 3 ||| qbit x), P.2) := by
  obtain ⟨⟨a1, a2, a3⟩, b, c, ⟨d1, d2, d3⟩, ⟨e1, e2, e3⟩, ⟨f1, f2, f3⟩, g, h, i⟩ := hP
  subst hA
  refine ⟨⟨a1, by rw [← a2]; simp [upd], a3⟩, fun z => ?_, ?_, ⟨h21.trans d1, ?_, d3⟩, ⟨h24.trans e1, ?_, e3⟩, ⟨h27.trans f1, ?_, f3⟩, g, h, i⟩
  · have := b z
    simpa [upd] using this
  · rw [h20, ← c]; simp [upd]
  · rw [← d2]; simp [upd]
  · rw [← e2]; simp [upd]
  · rw [← f2]; simp [upd]
theorem mPr_post {nC nP nK nW x y : Nat} {S A S' A' : qA2} {P : qPS} (hP : mPr nC nP nK nW S A P) (hn : nP < 6) (h20 : S' 188 20 = S 188 20) (h21 : S' 188 21 = nI (nP + 1)) (h24 : S' 188 24 = S 188 24) (h27 : S' 188 27 = S 188 27) (hA : A' = q2 (q2 A 196 nP (nI x)) 197 nP (nI y)) : mPr nC (nP + 1) nK nW S' A' (upd P.1 4 (nI (nP + 1)), q2 (q2 P.2 1 nP (nI x)) 2 nP (nI y)) := by
  obtain ⟨⟨a1, a2, a3⟩, b, c, ⟨d1, d2, d3⟩, ⟨e1, e2, e3⟩, ⟨f1, f2, f3⟩, g, h, i⟩ := hP
  subst hA
  refine ⟨⟨by rw [← a1]; simp [q2], by rw [← a2]; simp [upd], a3⟩, fun z => ?_, ?_, ⟨h21, by simp [upd], by omega⟩, ⟨h24.trans e1, ?_, e3⟩, ⟨h27.trans f1, ?_, f3⟩, ?_, ?_, ?_⟩
  · have := b z
    simpa [upd, q2] using this
  · rw [h20, ← c]; simp [upd]
  · rw [← e2]; simp [upd]
  · rw [← f2]; simp [upd]
  · intro k hk
    by_cases e : k = nP
    · subst e; simp [q2]
    · have := g k (by omega)
      simpa [q2, e] using this
  · intro k hk; simpa [q2] using h k hk
  · intro k hk; simpa [q2] using i k hk
theorem mPr_crow {nC nP nK nW x y : Nat} {S A S' A' : qA2} {P : qPS} (hP : mPr nC nP nK nW S A P) (hn : nK < 5) (h20 : S' 188 20 = S 188 20) (h21 : S' 188 21 = S 188 21) (h24 : S' 188 24 = nI (nK + 1)) (h27 : S' 188 27 = S 188 27) (hA : A' = q2 (q2 A 198 nK (nI x)) 199 nK (nI y)) : mPr nC nP (nK + 1) nW S' A' (upd P.1 5 (nI (nK + 1)), q2 (q2 P.2 3 nK (nI x)) 4 nK (nI y)) := by
  obtain ⟨⟨a1, a2, a3⟩, b, c, ⟨d1, d2, d3⟩, ⟨e1, e2, e3⟩, ⟨f1, f2, f3⟩, g, h, i⟩ := hP
  subst hA
  refine ⟨⟨by rw [← a1]; simp [q2], by rw [← a2]; simp [upd], a3⟩, fun z => ?_, ?_, ⟨h21.trans d1, ?_, d3⟩, ⟨h24, by simp [upd], by omega⟩, ⟨h27.trans f1, ?_, f3⟩, ?_, ?_, ?_⟩
  · have := b z
    simpa [upd, q2] using this
  · rw [h20, ← c]; simp [upd]
  · rw [← d2]; simp [upd]
  · rw [← f2]; simp [upd]
  · intro k hk; simpa [q2] using g k hk
  · intro k hk
    by_cases e : k = nK
    · subst e; simp [q2]
    · have := h k (by omega)
      simpa [q2, e] using this
  · intro k hk; simpa [q2] using i k hk
theorem mPr_hour {nC nP nK nW x y : Nat} {S A S' A' : qA2} {P : qPS} (hP : mPr nC nP nK nW S A P) (hn : nW < 10) (h20 : S' 188 20 = S 188 20) (h21 : S' 188 21 = S 188 21) (h24 : S' 188 24 = S 188 24) (h27 : S' 188 27 = nI (nW + 1)) (hA : A' = q2 (q2 A 200 nW (nI x)) 201 nW (nI y)) : mPr nC nP nK (nW + 1) S' A' (upd P.1 6 (nI (nW + 1)), q2 (q2 P.2 5 nW (nI x)) 6 nW (nI y)) := by
  obtain ⟨⟨a1, a2, a3⟩, b, c, ⟨d1, d2, d3⟩, ⟨e1, e2, e3⟩, ⟨f1, f2, f3⟩, g, h, i⟩ := hP
  subst hA
  refine ⟨⟨by rw [← a1]; simp [q2], by rw [← a2]; simp [upd], a3⟩, fun z => ?_, ?_, ⟨h21.trans d1, ?_, d3⟩, ⟨h24.trans e1, ?_, e3⟩, ⟨h27, by simp [upd], by omega⟩, ?_, ?_, ?_⟩
  · have := b z
    simpa [upd, q2] using this
  · rw [h20, ← c]; simp [upd]
  · rw [← d2]; simp [upd]
  · rw [← e2]; simp [upd]
  · intro k hk; simpa [q2] using g k hk
  · intro k hk; simpa [q2] using h k hk
  · intro k hk
    by_cases e : k = nW
    · subst e; simp [q2]
    · have := i k (by omega)
      simpa [q2, e] using this
def mwc (c : Int32) : Int32 := if c = 119 then 0 else if c = 114 then 1 else if c = 112 then 2 else if c = 99 then 3 else if c = 104 then 4 else -1
def mfl (nC nP nK nW is : Nat) : Bool := if is = 0 then decide (¬ nC = 0) else if is = 1 then false else if is = 2 then decide (nP = 6) else if is = 3 then decide (nK = 5) else decide (nW = 10)
def mbody (L : Nat → Int32) (n a nC nP nK nW : Nat) (P : qPS) (is : Nat) : qF ⊕ (Nat × qPS) := if is = 0 then qbW qstM L n a P else if is = 1 then qbR qstM L n a nC P else if is = 2 then qbP qstM L n a nC nP P else if is = 3 then qbC qstM L n a nK P else qbH qstM L n a nW P
theorem qskF_idem (L : Nat → Int32) (n : Nat) : ∀ (f a : Nat), n ≤ a + f → (qskF L n f a < n → ¬ L (qskF L n f a) = 32)
  | 0, a, h => fun h2 => by
    have : a < n := h2
    omega
  | f + 1, a, h => by
    unfold qskF
    by_cases h1 : a < n ∧ L a = 32
    · rw [if_pos h1]
      exact qskF_idem L n f (a + 1) (by omega)
    · rw [if_neg h1]
      intro h2 h3
      exact h1 ⟨h2, h3⟩
theorem qsk_stop {L : Nat → Int32} {n a : Nat} (h : a < n → ¬ L a = 32) : qsk L n a = a := by
  unfold qsk
  cases n - a with
  | zero => rfl
  | succ f =>
    unfold qskF
    exact if_neg (fun z => h z.1 z.2)
theorem qsk_idem (L : Nat → Int32) (n a : Nat) : qsk L n (qsk L n a) = qsk L n a := qsk_stop (qskF_idem L n (n - a) a (by omega))
theorem mPr_S {nC nP nK nW : Nat} {S S' A : qA2} {P : qPS} (h : ∀ j, 19 < j → j < 28 → S' 188 j = S 188 j) (hP : mPr nC nP nK nW S A P) : mPr nC nP nK nW S' A P := by
  unfold mPr at hP ⊢
  rw [h 20 (by omega) (by omega), h 21 (by omega) (by omega), h 24 (by omega) (by omega), h 27 (by omega) (by omega)]
  exact hP
theorem mPX_S {S S' A : qA2} {P : qPS} (h : ∀ j, 19 < j → j < 28 → S' 188 j = S 188 j) (hP : mPX S A P) : mPX S' A P := by
  obtain ⟨nC, nP, nK, nW, hP⟩ := hP
  exact ⟨nC, nP, nK, nW, mPr_S h hP⟩
theorem mPr_A {nC nP nK nW : Nat} {S A A' : qA2} {P : qPS} (h : ∀ j, 194 < j → j < 202 → A' j = A j) (hP : mPr nC nP nK nW S A P) : mPr nC nP nK nW S A' P := by
  unfold mPr at hP ⊢
  rw [h 195 (by omega) (by omega), h 196 (by omega) (by omega), h 197 (by omega) (by omega), h 198 (by omega) (by omega), h 199 (by omega) (by omega), h 200 (by omega) (by omega), h 201 (by omega) (by omega)]
  exact hP
section
variable {st : Int32 → Int32 → Int32} {L : Nat → Int32} {n a nC nP nK nW : Nat} {P : qPS}
theorem mq_none (h1 : ¬ L a = 119) (h2 : ¬ L a = 114) (h3 : ¬ L a = 112) (h4 : ¬ L a = 99) (h5 : ¬ L a = 104) : qbody st L n a nC nP nK nW P = .inl (1, a) := by
  unfold qbody
  by_cases h : nC = 0
  · rw [if_pos ⟨h, h1⟩]
  · rw [if_neg (fun z => h z.1), if_neg h1, if_neg h2, if_neg h3, if_neg h4, if_neg h5]
theorem mq_early (h : nC = 0) (h1 : ¬ L a = 119) : qbody st L n a nC nP nK nW P = .inl (1, a) := by
  unfold qbody
  rw [if_pos ⟨h, h1⟩]
theorem mq_w (h : L a = 119) : qbody st L n a nC nP nK nW P = if nC = 0 then qbW st L n a P else .inl (3, a) := by
  unfold qbody
  rw [if_neg (fun z => z.2 h), if_pos h]
theorem mq_r (h : L a = 114) (hC : ¬ nC = 0) : qbody st L n a nC nP nK nW P = qbR st L n a nC P := by
  unfold qbody
  rw [if_neg (fun z => hC z.1), h, if_neg (by decide), if_pos rfl]
theorem mq_p (h : L a = 112) (hC : ¬ nC = 0) : qbody st L n a nC nP nK nW P = if nP < 6 then qbP st L n a nC nP P else .inl (3, a) := by
  unfold qbody
  rw [if_neg (fun z => hC z.1), h, if_neg (by decide), if_neg (by decide), if_pos rfl]
theorem mq_c (h : L a = 99) (hC : ¬ nC = 0) : qbody st L n a nC nP nK nW P = if nK < 5 then qbC st L n a nK P else .inl (3, a) := by
  unfold qbody
  rw [if_neg (fun z => hC z.1), h, if_neg (by decide), if_neg (by decide), if_neg (by decide), if_pos rfl]
theorem mq_h (h : L a = 104) (hC : ¬ nC = 0) : qbody st L n a nC nP nK nW P = if nW < 10 then qbH st L n a nW P else .inl (3, a) := by
  unfold qbody
  rw [if_neg (fun z => hC z.1), h, if_neg (by decide), if_neg (by decide), if_neg (by decide), if_neg (by decide), if_pos rfl]
end
/-- the winter that begins -/
def m85 (nP : Nat) (at_ : Nat → Int32) (k : Nat) : Nat → Int32 := fun j => if j < 12 then 0 else if j < 18 then (if j - 12 < k ∧ j - 12 < nP then at_ (j - 12) else 0) else if j < 24 then (if j - 18 < k then -1 else 0) else 0
theorem m85_s {nP : Nat} {at_ f : Nat → Int32} {k : Nat} {v : Int32} (hk : k < 6) (h : ∀ j, j < 37 → f j = m85 nP at_ k j) (hv : v = if k < nP then at_ k else 0) : ∀ j, j < 37 → upd (upd f (12 + k) v) (18 + k) (-1) j = m85 nP at_ (k + 1) j := by
  intro j hj
  by_cases e1 : j = 18 + k
  · rw [e1, upd_s]
    unfold m85
    rw [if_neg (by omega), if_neg (by omega), if_pos (by omega), if_pos (by omega)]
  · rw [upd_o _ _ e1]
    by_cases e2 : j = 12 + k
    · rw [e2, upd_s, hv]
      unfold m85
      rw [if_neg (show ¬ 12 + k < 12 by omega), if_pos (show 12 + k < 18 by omega), show 12 + k - 12 = k by omega]
      by_cases e3 : k < nP
      · rw [if_pos e3, if_pos ⟨by omega, e3⟩]
      · rw [if_neg e3, if_neg (fun z => e3 z.2)]
    · rw [upd_o _ _ e2, h j hj]
      unfold m85
      by_cases h1 : j < 12
      · rw [if_pos h1, if_pos h1]
      · rw [if_neg h1, if_neg h1]
        by_cases h2 : j < 18
        · rw [if_pos h2, if_pos h2]
          by_cases h3 : j - 12 < k ∧ j - 12 < nP
          · rw [if_pos h3, if_pos ⟨by omega, h3.2⟩]
          · rw [if_neg h3, if_neg (fun z => h3 ⟨by omega, z.2⟩)]
        · rw [if_neg h2, if_neg h2]
          by_cases h3 : j < 24
          · rw [if_pos h3, if_pos h3]
            by_cases h4 : j - 18 < k
            · rw [if_pos h4, if_pos (by omega)]
            · rw [if_neg h4, if_neg (by omega)]
          · rw [if_neg h3, if_neg h3]
def mini (nP nK : Nat) (at_ bids : Nat → Int32) : Nat → Int32 := fun j => if j < 12 then 0 else if j < 18 then (if j - 12 < nP then at_ (j - 12) else 0) else if j < 24 then -1 else if j = 24 then qall nP else if j < 30 then (if j - 25 < nK then bids (j - 25) else 0) else 0
theorem mini_0 {nP : Nat} {at_ bids f : Nat → Int32} {v : Int32} (hv : v = qall nP) (h : ∀ j, j < 37 → f j = m85 nP at_ 6 j) : ∀ j, j < 37 → upd f 24 v j = mini nP 0 at_ bids j := by
  intro j hj
  subst hv
  by_cases e : j = 24
  · rw [e, upd_s]
    unfold mini
    rw [if_neg (by omega), if_neg (by omega), if_neg (by omega), if_pos rfl]
  · rw [upd_o _ _ e, h j hj]
    unfold m85 mini
    by_cases h1 : j < 12
    · rw [if_pos h1, if_pos h1]
    · rw [if_neg h1, if_neg h1]
      by_cases h2 : j < 18
      · rw [if_pos h2, if_pos h2]
        by_cases h3 : j - 12 < nP
        · rw [if_pos ⟨by omega, h3⟩, if_pos h3]
        · rw [if_neg (fun z => h3 z.2), if_neg h3]
      · rw [if_neg h2, if_neg h2]
        by_cases h3 : j < 24
        · rw [if_pos h3, if_pos h3, if_pos (by omega)]
        · rw [if_neg h3, if_neg h3, if_neg e, if_neg (show ¬ j - 25 < 0 by omega)]
          by_cases h4 : j < 30
          · rw [if_pos h4]
          · rw [if_neg h4]
theorem mini_s {nP k : Nat} {at_ bids f : Nat → Int32} (hk : k < 5) (h : ∀ j, j < 37 → f j = mini nP k at_ bids j) : ∀ j, j < 37 → upd f (25 + k) (bids k) j = mini nP (k + 1) at_ bids j := by
  intro j hj
  by_cases e : j = 25 + k
  · rw [e, upd_s]
    unfold mini
    rw [if_neg (by omega), if_neg (by omega), if_neg (by omega), if_neg (by omega), if_pos (by omega), if_pos (by omega), show 25 + k - 25 = k by omega]
  · rw [upd_o _ _ e, h j hj]
    unfold mini
    by_cases h1 : j < 12
    · rw [if_pos h1, if_pos h1]
    · rw [if_neg h1, if_neg h1]
      by_cases h2 : j < 18
      · rw [if_pos h2, if_pos h2]
      · rw [if_neg h2, if_neg h2]
        by_cases h3 : j < 24
        · rw [if_pos h3, if_pos h3]
        · rw [if_neg h3, if_neg h3]
          by_cases h4 : j = 24
          · rw [if_pos h4, if_pos h4]
          · rw [if_neg h4, if_neg h4]
            by_cases h5 : j < 30
            · rw [if_pos h5, if_pos h5]
              by_cases h6 : j - 25 < k
              · rw [if_pos h6, if_pos (by omega)]
              · rw [if_neg h6, if_neg (by omega)]
            · rw [if_neg h5, if_neg h5]
theorem qparse_step {st : Int32 → Int32 → Int32} {L : Nat → Int32} {n f a nC nP nK nW : Nat} {P : qPS} (h0 : P.1 0 = nI nC) (b0 : nC ≤ 12) (h4 : P.1 4 = nI nP) (b4 : nP ≤ 6) (h5 : P.1 5 = nI nK) (b5 : nK ≤ 5) (h6 : P.1 6 = nI nW) (b6 : nW ≤ 10) (ha : a < n) : qparse st L n (f + 1) a P = qbind (qcl st L n a nC nP nK nW P) (fun x => qparse st L n f (qsk L n x.1) x.2) := by
  have e : qparse st L n (f + 1) a P = if a < n then qbind (qcl st L n a (P.1 0).toNatClampNeg (P.1 4).toNatClampNeg (P.1 5).toNatClampNeg (P.1 6).toNatClampNeg P) (fun x => qparse st L n f (qsk L n x.1) x.2) else .inr P := rfl
  rw [e, if_pos ha, h0, h4, h5, h6, nIc (by omega), nIc (by omega), nIc (by omega), nIc (by omega)]
theorem qparse_end {st : Int32 → Int32 → Int32} {L : Nat → Int32} {n f a : Nat} {P : qPS} (ha : ¬ a < n) : qparse st L n f a P = .inr P := by
  cases f with
  | zero => rfl
  | succ f => exact if_neg ha
theorem mPr_step {st : Int32 → Int32 → Int32} {L : Nat → Int32} {n f a nC nP nK nW : Nat} {S A : qA2} {P : qPS} (hP : mPr nC nP nK nW S A P) (ha : a < n) (hf : ¬ f = 0) : qparse st L n f a P = qbind (qcl st L n a nC nP nK nW P) (fun x => qparse st L n (f - 1) (qsk L n x.1) x.2) := by
  obtain ⟨⟨a1, a2, a3⟩, b, c, ⟨d1, d2, d3⟩, ⟨e1, e2, e3⟩, ⟨f1, f2, f3⟩, g, h, i⟩ := hP
  have := qparse_step (st := st) (L := L) (f := f - 1) a2 a3 d2 d3 e2 e3 f2 f3 ha
  rw [show f - 1 + 1 = f by omega] at this
  exact this
theorem mPX_0 {S A : qA2} {P : qPS} (h00 : P.1 0 = 0) (h03 : P.1 3 = 0) (h04 : P.1 4 = 0) (h05 : P.1 5 = 0) (h06 : P.1 6 = 0) (g0 : A 195 0 = 0) (g3 : S 188 20 = 0) (g4 : S 188 21 = 0) (g5 : S 188 24 = 0) (g6 : S 188 27 = 0) : mPX S A P :=
  ⟨0, 0, 0, 0, ⟨g0, h00, by omega⟩, fun z => absurd rfl z, h03.trans g3.symm, ⟨g4, h04, by omega⟩, ⟨g5, h05, by omega⟩, ⟨g6, h06, by omega⟩, fun _ h => absurd h (Nat.not_lt_zero _), fun _ h => absurd h (Nat.not_lt_zero _), fun _ h => absurd h (Nat.not_lt_zero _)⟩
