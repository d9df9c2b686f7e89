/-! refusals -/
theorem qin_of {x lo hi : Int32} {l h : Nat} (el : lo = nI l) (eh : hi = nI h) (hl : l < 100000) (hh : h < 100000) (hx : lo ≤ x ∧ x ≤ hi) : ∃ k, l ≤ k ∧ k ≤ h ∧ x = nI k := by
  subst el; subst eh
  have h0 : ¬ x < 0 := fun z => by
    have h1 := hx.1
    rw [Int32.le_iff_toInt_le, nI_toInt (by omega)] at h1
    rw [Int32.lt_iff_toInt_lt] at z
    have : (0 : Int32).toInt = 0 := by decide
    omega
  obtain ⟨j, hj, rfl⟩ := nI_of h0
  exact ⟨j, (nI_leI (by omega) hj).mp hx.1, (nI_leI hj (by omega)).mp hx.2, rfl⟩
theorem qin_lt {x : Int32} {n : Nat} (hn : n < 1000) (hx : 0 ≤ x ∧ x ≤ nI n - 1) : ∃ k, k < n ∧ x = nI k := by
  by_cases h0 : n = 0
  · subst h0
    exfalso
    have h1 := hx.1
    have h2 := hx.2
    rw [Int32.le_iff_toInt_le] at h1 h2
    have e1 : (0 : Int32).toInt = 0 := by decide
    have e2 : (nI 0 - 1).toInt = -1 := by decide
    omega
  · rw [nI_m1 h0] at hx
    obtain ⟨k, _, hk, rfl⟩ := qin_of (l := 0) (h := n - 1) rfl rfl (by omega) (by omega) hx
    exact ⟨k, by omega, rfl⟩
theorem qin_lt' {k n : Nat} (hn : n < 1000) (hk : k < n) : (0 : Int32) ≤ nI k ∧ nI k ≤ nI n - 1 := by
  rw [nI_m1 (by omega)]
  exact ⟨(nI_leI (a := 0) (b := k) (by omega) (by omega)).mpr (by omega), (nI_leI (by omega) (by omega)).mpr (by omega)⟩
theorem q01_cases (c : Prop) [Decidable c] : (q01 c = 1 ∧ c) ∨ (q01 c = 0 ∧ ¬ c) := by
  unfold q01
  by_cases h : c
  · exact Or.inl ⟨if_pos h, h⟩
  · exact Or.inr ⟨if_neg h, h⟩
/-- what n hours meet: 0, or a refusal -/
def qrefh (n : Int32) (nC : Nat) (h : Int32) : Int32 := if 1 ≤ n ∧ n ≤ 60 then (if nC = 0 then -1000000003 else if h ≤ 9000 then 0 else -1000000004) else -1000000002
def qir (a : Int32) (lo hi : Nat) : Option Nat := if nI lo ≤ a ∧ a ≤ nI hi then some a.toNatClampNeg else none
def qix (a : Int32) (n : Nat) : Option Nat := if n = 0 then none else qir a 0 (n - 1)
theorem qir_in {k lo hi : Nat} (h1 : lo ≤ k) (h2 : k ≤ hi) (hh : hi < 100000) : qir (nI k) lo hi = some k := by
  unfold qir
  rw [if_pos ⟨(nI_leI (by omega) (by omega)).mpr h1, (nI_leI (by omega) (by omega)).mpr h2⟩, nI_clamp (by omega)]
theorem qir_out {a : Int32} {lo hi : Nat} (h : ¬ (nI lo ≤ a ∧ a ≤ nI hi)) : qir a lo hi = none := if_neg h
theorem qix_in {k n : Nat} (h : k < n) (hn : n < 100000) : qix (nI k) n = some k := by
  unfold qix
  rw [if_neg (by omega)]
  exact qir_in (by omega) (by omega) (by omega)
theorem qix_out {a : Int32} {n : Nat} (hn : n < 100000) (h : ∀ k, k < n → ¬ a = nI k) : qix a n = none := by
  unfold qix
  by_cases h0 : n = 0
  · rw [if_pos h0]
  · rw [if_neg h0]
    refine qir_out (fun z => ?_)
    obtain ⟨k, _, hk, e⟩ := qin_of (l := 0) (h := n - 1) rfl rfl (by omega) (by omega) z
    exact h k (by omega) e
def qstill (q : Nat) : Nat → Int64
  | 0 => 1000000000
  | n + 1 => qstill q n * (100 - nI q : Int32).toInt64 / 100
theorem qfst {α β : Type} {a : α} {b : β} {x : α × β} (h : (a, b) = x) : a = x.1 := congrArg Prod.fst h

/-- what could be undone: the winter ahead is noted -/
def qNoted (nw nc : Nat) (S A S' A' : qA2) : Prop := ∀ w, w = 17 + 6 * ((nw + 1) % 20) → (((∀ k, k < 12 → A' (w + 1) k = A 4 k) ∧ (∀ k, k < 6 → A' (w + 2) k = A 5 k) ∧ (∀ k, k < 6 → A' (w + 3) k = A 6 k) ∧ (∀ k, k < 5 → A' (w + 4) k = A 7 k) ∧ (∀ k, k < 5 → A' (w + 5) k = A 8 k)) ∧ (S' w 5 = S 3 5 ∧ S' w 6 = S 3 6 ∧ S' w 7 = S 3 7)) ∧ (S' 15 2 = nI ((nw + 1) % 20) ∧ S' 15 1 = nI (min (nc + 1) 20)) ∧ (∀ i, 17 ≤ i → i < 137 → (i ≤ w ∨ w + 5 < i) → A' i = A i) ∧ (∀ i, 17 ≤ i → i < 137 → i ≠ w → S' i = S i)
/-- all but the winter that is now, and what could be undone -/
def qKeep (S A S' A' : qA2) : Prop := (∀ i, (i ≤ 3 ∨ 8 < i) → (i < 17 ∨ 136 < i) → A' i = A i) ∧ (∀ i, i ≠ 3 → i ≠ 15 → (i < 17 ∨ 136 < i) → S' i = S i)
theorem qrefh_0 {a : Int32} {nC : Nat} {h : Int32} (e : qrefh a nC h = 0) : (1 ≤ a ∧ a ≤ 60) ∧ ¬ nC = 0 ∧ h ≤ 9000 := by
  unfold qrefh at e
  split at e
  · rename_i h1
    split at e
    · exact absurd e (by decide)
    · rename_i h2
      split at e
      · rename_i h3
        exact ⟨h1, h2, h3⟩
      · exact absurd e (by decide)
  · exact absurd e (by decide)
/-- hours by draws: snow, what stands, hours, and the seed -/
def qdrift (n posts : Nat) (B : Int32) (cell : Nat → Int32) (lp : Int32) (t : ((Nat → Int32) × Int32 × Int32) × Int32) : Nat → ((Nat → Int32) × Int32 × Int32) × Int32
  | 0 => t
  | k + 1 =>
    let u := qdrift n posts B cell lp t k
    (qhour n posts B cell (qrem (qdraw u.2 / 65536) 19) (qrem (qdraw (qdraw u.2) / 65536) 11) lp u.1, qdraw (qdraw u.2))
