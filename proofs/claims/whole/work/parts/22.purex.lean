/-! plain functions of the smaller classes -/
def qrem (x y : Int32) : Int32 := x - x / y * y
def qdraw (s : Int32) : Int32 := ((s.toInt64 * 1103515245 + 12345) - (s.toInt64 * 1103515245 + 12345) / 2147483648 * 2147483648).toInt32
/-- the first entry from k on, of n, that is otherwise -/
def qwrong (f : Nat → Int32) (bc : Nat → Nat) (bs : Nat → Int32) (k : Nat) : Nat → Int32
  | 0 => -1
  | n + 1 => if f (bc k) = bs k then qwrong f bc bs (k + 1) n else nI k
theorem q_min20 {c : Nat} (h : c ≤ 20) : (if nI (c + 1) < 20 then nI (c + 1) else 20) = nI (min (c + 1) 20) := by
  show (if nI (c + 1) < nI 20 then nI (c + 1) else nI 20) = _
  by_cases h2 : c + 1 < 20
  · rw [if_pos ((nI_ltI (a := c + 1) (b := 20) (by omega) (by omega)).mpr h2), Nat.min_eq_left (by omega)]
  · rw [if_neg (fun z => h2 ((nI_ltI (a := c + 1) (b := 20) (by omega) (by omega)).mp z)), Nat.min_eq_right (by omega)]
/-- the least crow from c on, of n, that isn't taken; none: -1 -/
def qleast (tk : Int32) (c : Nat) : Nat → Int32
  | 0 => -1
  | n + 1 => if qtb tk (nI c) = 0 then nI c else qleast tk (c + 1) n
abbrev qWy : Type := (Nat → Int32) × Int32 × Int32
/-- posts from q on get the least crow that is left (the first from le on): crows on posts, posts that are let, crows that are taken -/
def qsettle (nK : Nat) : Nat → Nat → Nat → qWy → qWy
  | 0, _, _, t => t
  | n + 1, q, le, t =>
    let c := qleast t.2.2 le (nK - le)
    qsettle nK n (q + 1) 0 (if c = -1 then (upd t.1 q c, t.2.1, t.2.2) else (upd t.1 q c, t.2.1 ||| qbit q, t.2.2 ||| ((1 : Int32) <<< (c &&& 31))))
/-- the next way, by the last post below j that is let -/
def qadv (nP nK : Nat) (t : qWy) : Nat → Option qWy
  | 0 => none
  | j + 1 => if t.1 j = -1 then qadv nP nK t j else some (qsettle nK (nP - j) j ((t.1 j).toNatClampNeg + 1) (t.1, t.2.1 &&& (qbit j ^^^ -1), t.2.2 &&& (((1 : Int32) <<< (t.1 j &&& 31)) ^^^ -1)))
theorem nI_m1 {j : Nat} (h : j ≠ 0) : nI j - 1 = nI (j - 1) := by
  obtain ⟨i, rfl⟩ : ∃ i, j = i + 1 := ⟨j - 1, by omega⟩
  exact nI_pred i
theorem nI_m1_lt {j : Nat} (hj : j < 1000) : nI j - 1 < 0 ↔ j = 0 := by
  constructor
  · intro h
    rcases Nat.eq_zero_or_pos j with h0 | h0
    · exact h0
    · rw [nI_m1 (by omega)] at h
      exact absurd h (nI_pos (by omega))
  · intro h
    subst h
    decide
theorem qleast_ok (tk : Int32) : ∀ (n c : Nat), c + n ≤ 100 → qleast tk c n = -1 ∨ ∃ d, c ≤ d ∧ d < c + n ∧ qleast tk c n = nI d
  | 0, c, _ => Or.inl rfl
  | n + 1, c, h => by
    unfold qleast
    by_cases h2 : qtb tk (nI c) = 0
    · rw [if_pos h2]
      exact Or.inr ⟨c, Nat.le_refl _, by omega, rfl⟩
    · rw [if_neg h2]
      rcases qleast_ok tk n (c + 1) (by omega) with h3 | ⟨d, h4, h5, h6⟩
      · exact Or.inl h3
      · exact Or.inr ⟨d, by omega, by omega, h6⟩
theorem qadv_skip {nP nK : Nat} {t : qWy} {j : Nat} (hj : ¬ j = 0) (h : t.1 (j - 1) = -1) : qadv nP nK t j = qadv nP nK t (j - 1) := by
  obtain ⟨i, rfl⟩ : ∃ i, j = i + 1 := ⟨j - 1, by omega⟩
  exact if_pos h
theorem qadv_hit {nP nK : Nat} {t : qWy} {j : Nat} (hj : ¬ j = 0) (h : ¬ t.1 (j - 1) = -1) : qadv nP nK t j = some (qsettle nK (nP - (j - 1)) (j - 1) ((t.1 (j - 1)).toNatClampNeg + 1) (t.1, t.2.1 &&& (qbit (j - 1) ^^^ -1), t.2.2 &&& (((1 : Int32) <<< (t.1 (j - 1) &&& 31)) ^^^ -1))) := by
  obtain ⟨i, rfl⟩ : ∃ i, j = i + 1 := ⟨j - 1, by omega⟩
  exact if_neg h
