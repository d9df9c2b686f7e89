/-! the text, read from left to right: places are numbers; inl (kind, place): a fault -/
def qskF (L : Nat → Int32) (n : Nat) : Nat → Nat → Nat
  | 0, a => a
  | f + 1, a => if a < n ∧ L a = 32 then qskF L n f (a + 1) else a
/-- behind blanks -/
def qsk (L : Nat → Int32) (n a : Nat) : Nat := qskF L n (n - a) a
theorem qskF_le (L : Nat → Int32) (n : Nat) : ∀ (f a : Nat), a ≤ qskF L n f a ∧ qskF L n f a ≤ max n a
  | 0, a => ⟨Nat.le_refl _, Nat.le_max_right _ _⟩
  | f + 1, a => by
    unfold qskF
    by_cases h : a < n ∧ L a = 32
    · rw [if_pos h]
      have := qskF_le L n f (a + 1)
      omega
    · rw [if_neg h]
      omega
theorem qsk_le (L : Nat → Int32) (n a : Nat) : a ≤ qsk L n a ∧ qsk L n a ≤ max n a := qskF_le L n _ a
theorem q2_q2 (S : qA2) (o k : Nat) (v w : Int32) : q2 (q2 S o k v) o k w = q2 S o k w := by
  funext i j
  by_cases h : i = o ∧ j = k
  · simp [q2, h]
  · simp [q2, h]
def qfig (c : Int32) : Prop := 48 ≤ c ∧ c ≤ 57
/-- a number's figures from a on: its end, and its value by a step -/
def qdg (st : Int32 → Int32 → Int32) (L : Nat → Int32) (n : Nat) : Nat → Nat → Int32 → Nat × Int32
  | 0, a, v => (a, v)
  | f + 1, a, v => if a < n ∧ 48 ≤ L a ∧ L a ≤ 57 then qdg st L n f (a + 1) (st v (L a)) else (a, v)
theorem qdg_le (st : Int32 → Int32 → Int32) (L : Nat → Int32) (n : Nat) : ∀ (f a : Nat) (v : Int32), a ≤ (qdg st L n f a v).1 ∧ (qdg st L n f a v).1 ≤ max n a
  | 0, a, v => ⟨Nat.le_refl _, Nat.le_max_right _ _⟩
  | f + 1, a, v => by
    unfold qdg
    by_cases h : a < n ∧ 48 ≤ L a ∧ L a ≤ 57
    · rw [if_pos h]
      have := qdg_le st L n f (a + 1) (st v (L a))
      omega
    · rw [if_neg h]
      exact ⟨Nat.le_refl _, Nat.le_max_right _ _⟩
abbrev qF : Type := Nat × Nat
/-- a number from a on, lo .. mo: its value, its end, its first figure -/
def qnum (st : Int32 → Int32 → Int32) (L : Nat → Int32) (n a lo mo : Nat) : qF ⊕ (Nat × Nat × Nat) :=
  let a1 := qsk L n a
  let r := qdg st L n (n - a1) a1 0
  if r.1 = a1 then .inl (1, a1) else if 3 < r.1 - a1 ∨ r.2 < nI lo ∨ nI mo < r.2 then .inl (2, a1) else .inr (r.2.toNatClampNeg, r.1, a1)
def qstX (v c : Int32) : Int32 := qrem (v * 10 + c - 48) 10000
theorem nI_betw {x : Int32} {lo mo : Nat} (hm : mo < 1000) (h1 : ¬ x < nI lo) (h2 : ¬ nI mo < x) (hl : lo < 1000) : x = nI x.toNatClampNeg ∧ lo ≤ x.toNatClampNeg ∧ x.toNatClampNeg ≤ mo := by
  have h0 : ¬ x < 0 := fun h => h1 (by
    rw [Int32.lt_iff_toInt_lt] at h ⊢
    rw [nI_toInt (by omega)]
    have : (0 : Int32).toInt = 0 := by decide
    omega)
  obtain ⟨j, hj, rfl⟩ := nI_of h0
  rw [nI_clamp hj]
  refine ⟨rfl, ?_, ?_⟩
  · rcases Nat.lt_or_ge j lo with h | h
    · exact absurd (nI_lt h (by omega)) h1
    · exact h
  · rcases Nat.lt_or_ge mo j with h | h
    · exact absurd (nI_lt h hj) h2
    · exact h
def qbind {α β : Type} (x : qF ⊕ α) (f : α → qF ⊕ β) : qF ⊕ β := match x with
  | .inl e => .inl e
  | .inr a => f a
/-- a plan as far as it is read: its numbers, its rows -/
abbrev qPS : Type := (Nat → Int32) × qA2
def qbW (st : Int32 → Int32 → Int32) (L : Nat → Int32) (n a : Nat) (P : qPS) : qF ⊕ (Nat × qPS) :=
  qbind (qnum st L n (a + 1) 1 12) fun x => qbind (qnum st L n x.2.1 0 9) fun y => qbind (qnum st L n y.2.1 0 99) fun z =>
    .inr (z.2.1, (upd (upd (upd P.1 0 (nI x.1)) 1 (nI y.1)) 2 (nI z.1), P.2))
def qbR (st : Int32 → Int32 → Int32) (L : Nat → Int32) (n a nC : Nat) (P : qPS) : qF ⊕ (Nat × qPS) :=
  qbind (qnum st L n (a + 1) 0 (nC - 1)) fun x => if qtb (P.1 3) (nI x.1) = 0 then .inr (x.2.1, (upd P.1 3 (P.1 3 ||| qbit x.1), P.2)) else .inl (4, x.2.2)
def qbP (st : Int32 → Int32 → Int32) (L : Nat → Int32) (n a nC nP : Nat) (P : qPS) : qF ⊕ (Nat × qPS) :=
  qbind (qnum st L n (a + 1) 0 (nC - 1)) fun x => if qfind (P.2 1) (nI x.1) 0 nP = -1 then qbind (qnum st L n x.2.1 0 9) fun y => .inr (y.2.1, (upd P.1 4 (nI (nP + 1)), q2 (q2 P.2 1 nP (nI x.1)) 2 nP (nI y.1))) else .inl (4, x.2.2)
def qbC (st : Int32 → Int32 → Int32) (L : Nat → Int32) (n a nK : Nat) (P : qPS) : qF ⊕ (Nat × qPS) :=
  qbind (qnum st L n (a + 1) 0 99) fun x => qbind (qnum st L n x.2.1 0 9) fun y => .inr (y.2.1, (upd P.1 5 (nI (nK + 1)), q2 (q2 P.2 3 nK (nI x.1)) 4 nK (nI y.1)))
def qbH (st : Int32 → Int32 → Int32) (L : Nat → Int32) (n a nW : Nat) (P : qPS) : qF ⊕ (Nat × qPS) :=
  qbind (qnum st L n (a + 1) 0 18) fun x => qbind (qnum st L n x.2.1 0 30) fun y => .inr (y.2.1, (upd P.1 6 (nI (nW + 1)), q2 (q2 P.2 5 nW (nI x.1)) 6 nW (nI y.1)))
theorem qrow_q2 {A : qA2} {p j k : Nat} {v : Int32} : (fun i => q2 A (p + j) k v (p + i)) = q2 (fun i => A (p + i)) j k v := by
  funext i x
  simp only [q2]
  by_cases h : i = j
  · subst h
    simp
  · have : ¬ p + i = p + j := by omega
    simp [h, this]
