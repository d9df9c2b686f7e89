/-! the text, read from left to right: places are numbers; inl (kind, place): a fault -/
def qskF (L : Nat → Int32) (n : Nat) : Nat → Nat → Nat
  | 0, a => a
  | f + 1, a => if a < n ∧ L a = 32 then qskF L n f (a + 1) else a
/-- behind blanks -/
def qsk (L : Nat → Int32) (n a : Nat) : Nat := qskF L n (n - a) a
theorem qskF_le (L : Nat → Int32) (n : Nat) : ∀ (f a : Nat), a ≤ qskF L n f a ∧ qskF L n f a ≤ max n a
  | 0, a => ⟨Nat.le_refl _, Nat.le_max_right _ _⟩
  | f + 1, a => by
    unfold qskF
    by_cases h : a < n ∧ L a = 32
    · rw [if_pos h]
      have := qskF_le L n f (a + 1)
      omega
    · rw [if_neg h]
      omega
theorem qsk_le (L : Nat → Int32) (n a : Nat) : a ≤ qsk L n a ∧ qsk L n a ≤ max n a := qskF_le L n _ a
theorem q2_q2 (S : qA2) (o k : Nat) (v w : Int32) : q2 (q2 S o k v) o k w = q2 S o k w := by
  funext i j
  by_cases h : i = o ∧ j = k
  · simp [q2, h]
  · simp [q2, h]
def qfig (c : Int32) : Prop := 48 ≤ c ∧ c ≤ 57
/-- a number's figures from a on: its end, and its value by a step -/
def qdg (st : Int32 → Int32 → Int32) (L : Nat → Int32) (n : Nat) : Nat → Nat → Int32 → Nat × Int32
  | 0, a, v => (a, v)
  | f + 1, a, v => if a < n ∧ 48 ≤ L a ∧ L a ≤ 57 then qdg st L n f (a + 1) (st v (L a)) else (a, v)
theorem qdg_le (st : Int32 → Int32 → Int32) (L : Nat → Int32) (n : Nat) : ∀ (f a : Nat) (v : Int32), a ≤ (qdg st L n f a v).1 ∧ (qdg st L n f a v).1 ≤ max n a
  | 0, a, v => ⟨Nat.le_refl _, Nat.le_max_right _ _⟩
  | f + 1, a, v => by
    unfold qdg
    by_cases h : a < n ∧ 48 ≤ L a ∧ L a ≤ 57
    · rw [if_pos h]
      have := qdg_le st L n f (a + 1) (st v (L a))
      omega
    · rw [if_neg h]
      exact ⟨Nat.le_refl _, Nat.le_max_right _ _⟩
abbrev qF : Type := Nat × Nat
/-- a number from a on, lo .. mo: its value, its end, its first figure -/
def qnum (st : Int32 → Int32 → Int32) (L : Nat → Int32) (n a lo mo : Nat) : qF ⊕ (Nat × Nat × Nat) :=
  let a1 := qsk L n a
  let r := qdg st L n (n - a1) a1 0
  if r.1 = a1 then .inl (1, a1) else if 3 < r.1 - a1 ∨ r.2 < nI lo ∨ nI mo < r.2 then .inl (2, a1) else .inr (r.2.toNatClampNeg, r.1, a1)
def qstX (v c : Int32) : Int32 := qrem (v * 10 + c - 48) 10000
theorem nI_betw {x : Int32} {lo mo : Nat} (hm : mo < 1000) (h1 : ¬ x < nI lo) (h2 : ¬ nI mo < x) (hl : lo < 1000) : x = nI x.toNatClampNeg ∧ lo ≤ x.toNatClampNeg ∧ x.toNatClampNeg ≤ mo := by
  have h0 : ¬ x < 0 := fun h => h1 (by
    rw [Int32.lt_iff_toInt_lt] at h ⊢
    rw [nI_toInt (by omega)]
    have : (0 : Int32).toInt = 0 := by decide
    omega)
  obtain ⟨j, hj, rfl⟩ := nI_of h0
  rw [nI_clamp hj]
  refine ⟨rfl, ?_, ?_⟩
  · rcases Nat.lt_or_ge j lo with h | h
    · exact absurd (nI_lt h (by omega)) h1
    · exact h
  · rcases Nat.lt_or_ge mo j with h | h
    · exact absurd (nI_lt h hj) h2
    · exact h
def qbind {α β : Type} (x : qF ⊕ α) (f : α → qF ⊕ β) : qF ⊕ β := match x with
  | .inl e => .inl e
  | .inr a => f a
/-- a plan as far as it is read: its numbers, its rows -/
abbrev qPS : Type := (Nat → Int32) × qA2
def qbW (st : Int32 → Int32 → Int32) (L : Nat → Int32) (n a : Nat) (P : qPS) : qF ⊕ (Nat × qPS) :=
  qbind (qnum st L n (a + 1) 1 12) fun x => qbind (qnum st L n x.2.1 0 9) fun y => qbind (qnum st L n y.2.1 0 99) fun z =>
    .inr (z.2.1, (upd (upd (upd P.1 0 (nI x.1)) 1 (nI y.1)) 2 (nI z.1), P.2))
def qbR (st : Int32 → Int32 → Int32) (L : Nat → Int32) (n a nC : Nat) (P : qPS) : qF ⊕ (Nat × qPS) :=
  qbind (qnum st L n (a + 1) 0 (nC - 1)) fun x => if qtb (P.1 3) (nI x.1) = 0 then .inr (x.2.1, (upd P.1 3 (P.1 3 ||| qbit x.1), P.2)) else .inl (4, x.2.2)
def qbP (st : Int32 → Int32 → Int32) (L : Nat → Int32) (n a nC nP : Nat) (P : qPS) : qF ⊕ (Nat × qPS) :=
  qbind (qnum st L n (a + 1) 0 (nC - 1)) fun x => if qfind (P.2 1) (nI x.1) 0 nP = -1 then qbind (qnum st L n x.2.1 0 9) fun y => .inr (y.2.1, (upd P.1 4 (nI (nP + 1)), q2 (q2 P.2 1 nP (nI x.1)) 2 nP (nI y.1))) else .inl (4, x.2.2)
def qbC (st : Int32 → Int32 → Int32) (L : Nat → Int32) (n a nK : Nat) (P : qPS) : qF ⊕ (Nat × qPS) :=
  qbind (qnum st L n (a + 1) 0 99) fun x => qbind (qnum st L n x.2.1 0 9) fun y => .inr (y.2.1, (upd P.1 5 (nI (nK + 1)), q2 (q2 P.2 3 nK (nI x.1)) 4 nK (nI y.1)))
def qbH (st : Int32 → Int32 → Int32) (L : Nat → Int32) (n a nW : Nat) (P : qPS) : qF ⊕ (Nat × qPS) :=
  qbind (qnum st L n (a + 1) 0 18) fun x => qbind (qnum st L n x.2.1 0 30) fun y => .inr (y.2.1, (upd P.1 6 (nI (nW + 1)), q2 (q2 P.2 5 nW (nI x.1)) 6 nW (nI y.1)))
theorem qrow_q2 {A : qA2} {p j k : Nat} {v : Int32} : (fun i => q2 A (p + j) k v (p + i)) = q2 (fun i => A (p + i)) j k v := by
  funext i x
  simp only [q2]
  by_cases h : i = j
  · subst h
    simp
  · have : ¬ p + i = p + j := by omega
    simp [h, this]
def qbody (st : Int32 → Int32 → Int32) (L : Nat → Int32) (n a nC nP nK nW : Nat) (P : qPS) : qF ⊕ (Nat × qPS) :=
  if nC = 0 ∧ ¬ L a = 119 then .inl (1, a)
  else if L a = 119 then (if nC = 0 then qbW st L n a P else .inl (3, a))
  else if L a = 114 then qbR st L n a nC P
  else if L a = 112 then (if nP < 6 then qbP st L n a nC nP P else .inl (3, a))
  else if L a = 99 then (if nK < 5 then qbC st L n a nK P else .inl (3, a))
  else if L a = 104 then (if nW < 10 then qbH st L n a nW P else .inl (3, a))
  else .inl (1, a)
def qend (L : Nat → Int32) (n : Nat) (x : Nat × qPS) : qF ⊕ (Nat × qPS) := if qsk L n x.1 < n ∧ L (qsk L n x.1) = 59 then .inr (qsk L n x.1 + 1, x.2) else .inl (1, qsk L n x.1)
def qcl (st : Int32 → Int32 → Int32) (L : Nat → Int32) (n a nC nP nK nW : Nat) (P : qPS) : qF ⊕ (Nat × qPS) := qbind (qbody st L n a nC nP nK nW P) (qend L n)
def qparse (st : Int32 → Int32 → Int32) (L : Nat → Int32) (n : Nat) : Nat → Nat → qPS → qF ⊕ qPS
  | 0, _, P => .inr P
  | f + 1, a, P => if a < n then qbind (qcl st L n a (P.1 0).toNatClampNeg (P.1 4).toNatClampNeg (P.1 5).toNatClampNeg (P.1 6).toNatClampNeg P) (fun x => qparse st L n f (qsk L n x.1) x.2) else .inr P
def qPok (sc : Nat → Int32) : Prop := ∃ nC nP nK nW : Nat, (sc 0 = nI nC ∧ nC ≤ 12) ∧ (sc 4 = nI nP ∧ nP ≤ 6) ∧ (sc 5 = nI nK ∧ nK ≤ 5) ∧ (sc 6 = nI nW ∧ nW ≤ 10)
theorem qnum_ok {st : Int32 → Int32 → Int32} {L : Nat → Int32} {n a lo mo v e s : Nat} (hl : lo < 1000) (hm : mo < 1000) (h : qnum st L n a lo mo = .inr (v, e, s)) : lo ≤ v ∧ v ≤ mo := by
  simp only [qnum] at h
  generalize qdg st L n (n - qsk L n a) (qsk L n a) 0 = r at h
  by_cases h1 : r.1 = qsk L n a
  · rw [if_pos h1] at h
    cases h
  · rw [if_neg h1] at h
    by_cases h2 : 3 < r.1 - qsk L n a ∨ r.2 < nI lo ∨ nI mo < r.2
    · rw [if_pos h2] at h
      cases h
    · rw [if_neg h2] at h
      cases h
      exact (nI_betw hm (fun z => h2 (Or.inr (Or.inl z))) (fun z => h2 (Or.inr (Or.inr z))) hl).2
theorem qbind_inr {α β : Type} {x : qF ⊕ α} {f : α → qF ⊕ β} {y : β} (h : qbind x f = .inr y) : ∃ a, x = .inr a ∧ f a = .inr y := by
  cases x with
  | inl e => cases h
  | inr a => exact ⟨a, rfl, h⟩
theorem upd_s (f : Nat → Int32) (k : Nat) (v : Int32) : upd f k v k = v := by simp [upd]
theorem upd_o (f : Nat → Int32) {k j : Nat} (v : Int32) (h : j ≠ k) : upd f k v j = f j := by simp [upd, h]
theorem qbody_ok {st : Int32 → Int32 → Int32} {L : Nat → Int32} {n a nC nP nK nW e : Nat} {P P' : qPS} (h0 : P.1 0 = nI nC ∧ nC ≤ 12) (h4 : P.1 4 = nI nP ∧ nP ≤ 6) (h5 : P.1 5 = nI nK ∧ nK ≤ 5) (h6 : P.1 6 = nI nW ∧ nW ≤ 10) (h : qbody st L n a nC nP nK nW P = .inr (e, P')) : qPok P'.1 := by
  unfold qbody at h
  split at h
  · cases h
  · split at h
    · split at h
      · obtain ⟨x, hx, h⟩ := qbind_inr h
        obtain ⟨y, hy, h⟩ := qbind_inr h
        obtain ⟨z, hz, h⟩ := qbind_inr h
        cases h
        exact ⟨x.1, nP, nK, nW, ⟨by simp [upd], (qnum_ok (by omega) (by omega) hx).2⟩, ⟨by simpa [upd] using h4.1, h4.2⟩, ⟨by simpa [upd] using h5.1, h5.2⟩, ⟨by simpa [upd] using h6.1, h6.2⟩⟩
      · cases h
    · split at h
      · obtain ⟨x, hx, h⟩ := qbind_inr h
        split at h
        · cases h
          exact ⟨nC, nP, nK, nW, ⟨by simpa [upd] using h0.1, h0.2⟩, ⟨by simpa [upd] using h4.1, h4.2⟩, ⟨by simpa [upd] using h5.1, h5.2⟩, ⟨by simpa [upd] using h6.1, h6.2⟩⟩
        · cases h
      · split at h
        · split at h
          · rename_i hlt
            obtain ⟨x, hx, h⟩ := qbind_inr h
            split at h
            · obtain ⟨y, hy, h⟩ := qbind_inr h
              cases h
              exact ⟨nC, nP + 1, nK, nW, ⟨by simpa [upd] using h0.1, h0.2⟩, ⟨by simp [upd], by omega⟩, ⟨by simpa [upd] using h5.1, h5.2⟩, ⟨by simpa [upd] using h6.1, h6.2⟩⟩
            · cases h
          · cases h
        · split at h
          · split at h
            · rename_i hlt
              obtain ⟨x, hx, h⟩ := qbind_inr h
              obtain ⟨y, hy, h⟩ := qbind_inr h
              cases h
              exact ⟨nC, nP, nK + 1, nW, ⟨by simpa [upd] using h0.1, h0.2⟩, ⟨by simpa [upd] using h4.1, h4.2⟩, ⟨by simp [upd], by omega⟩, ⟨by simpa [upd] using h6.1, h6.2⟩⟩
            · cases h
          · split at h
            · split at h
              · rename_i hlt
                obtain ⟨x, hx, h⟩ := qbind_inr h
                obtain ⟨y, hy, h⟩ := qbind_inr h
                cases h
                exact ⟨nC, nP, nK, nW + 1, ⟨by simpa [upd] using h0.1, h0.2⟩, ⟨by simpa [upd] using h4.1, h4.2⟩, ⟨by simpa [upd] using h5.1, h5.2⟩, ⟨by simp [upd], by omega⟩⟩
              · cases h
            · cases h
theorem qcl_ok {st : Int32 → Int32 → Int32} {L : Nat → Int32} {n a nC nP nK nW e : Nat} {P P' : qPS} (h0 : P.1 0 = nI nC ∧ nC ≤ 12) (h4 : P.1 4 = nI nP ∧ nP ≤ 6) (h5 : P.1 5 = nI nK ∧ nK ≤ 5) (h6 : P.1 6 = nI nW ∧ nW ≤ 10) (h : qcl st L n a nC nP nK nW P = .inr (e, P')) : qPok P'.1 := by
  obtain ⟨x, hx, h⟩ := qbind_inr h
  unfold qend at h
  split at h
  · cases h
    exact qbody_ok (e := x.1) (P' := x.2) h0 h4 h5 h6 hx
  · cases h
theorem q_neI {x : Int32} {k : Int32} {i : Int} (hi : k.toInt = i) (h : ¬ x = k) : ¬ x.toInt = i := fun e => h (Int32.toInt_inj.mp (e.trans hi.symm))
theorem q_neJ {x : Int32} {k : Int32} {i : Int} (hi : k.toInt = i) (h : ¬ x = k) : ¬ i = x.toInt := fun e => h (Int32.toInt_inj.mp (e.symm.trans hi.symm))
