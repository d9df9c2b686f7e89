/-! the reference's plain functions -/
theorem q64 {x lo hi : Int32} {l h : Int64} (hl : l = lo.toInt64) (hh : h = hi.toInt64) : q01 (l ≤ x.toInt64 ∧ x.toInt64 ≤ h) = q01 (lo ≤ x ∧ x ≤ hi) := by
  subst hl; subst hh
  have e : (lo.toInt64 ≤ x.toInt64 ∧ x.toInt64 ≤ hi.toInt64) ↔ (lo ≤ x ∧ x ≤ hi) := by
    simp only [Int64.le_iff_toInt_le, Int32.le_iff_toInt_le, Int32.toInt_toInt64]
  unfold q01
  by_cases h : lo ≤ x ∧ x ≤ hi
  · rw [if_pos h, if_pos (e.mpr h)]
  · rw [if_neg h, if_neg (fun z => h (e.mp z))]
theorem i32_nat (y : Int32) : ∃ k, k < 2 ^ 32 ∧ y = nI k := ⟨y.toBitVec.toNat, y.toBitVec.isLt, by
    apply Int32.toBitVec_inj.mp
    show y.toBitVec = BitVec.ofNat 32 _
    simp⟩
theorem qtb01 (x k : Int32) : qtb x k = 0 ∨ qtb x k = 1 := by
  unfold qtb
  obtain ⟨m, _, e⟩ := i32_nat (x >>> (k &&& 31))
  rw [e, show (1 : Int32) = nI 1 from rfl, nI_and, Nat.and_one_is_mod]
  rcases Nat.mod_two_eq_zero_or_one m with h | h <;> rw [h]
  · exact Or.inl rfl
  · exact Or.inr rfl
theorem qtb_1 {x k : Int32} : qtb x k = 1 ↔ ¬ qtb x k = 0 := by
  rcases qtb01 x k with h | h <;> rw [h] <;> decide
/-- the posts that are let, of the first n -/
def mlet (f : Nat → Int32) (n : Nat) : Int32 := qor (fun p => if f (18 + p) < 0 then 0 else qbit p) n
/-- the last post, of the first n, that c has -/
def mpost (f : Nat → Int32) (c : Int32) : Nat → Int32
  | 0 => -1
  | k + 1 => if f (18 + k) = c then nI k else mpost f c k
def mfen (f : Nat → Int32) (a : Int32) : Nat → Bool
  | 0 => false
  | k + 1 => mfen f a k || (decide (f (12 + k) = a) && decide (¬ qtb (f 24) (nI k) = 0))
theorem mfen_cong {f g : Nat → Int32} {a : Int32} (h : ∀ j, 12 ≤ j → f j = g j) : ∀ n, mfen f a n = mfen g a n
  | 0 => rfl
  | k + 1 => by
    unfold mfen
    rw [mfen_cong h k, h (12 + k) (by omega), h 24 (by omega)]
theorem qbl_out {n : Nat} {lft : Prop} [Decidable lft] {I : Int32} {kp : Nat → Prop} [DecidablePred kp] {f : Nat → Int32} : ∀ k : Nat, k ≤ n → ∀ a, n ≤ a → (qbl n lft I kp f k).1 a = f a
  | 0, _, _, _ => rfl
  | k + 1, hk, a, ha => by
    simp only [qbl]
    have hx : (if lft then n - 1 - k else k) < n := by
      by_cases hl : lft
      · rw [if_pos hl]; omega
      · rw [if_neg hl]; omega
    generalize (if lft then n - 1 - k else k) = x at hx ⊢
    rw [upd_o _ _ (by omega)]
    exact qbl_out k (by omega) a ha
def mst (f : Nat → Int32) : Nat → Int32
  | 0 => f 24
  | k + 1 => mst f k &&& (if f (18 + k) < 0 then qbit k ^^^ -1 else -1)
def mforce (s : Int32) : Int32 := if s - 9 < 0 then -(s - 9) else s - 9
/-- an hour, first: what stands -/
def mrow1 (nP : Nat) (B s : Int32) (f : Nat → Int32) : Nat → Int32 := upd f 24 (mst f (if B < mforce s then nP else 0))
/-- then the snow -/
def mrow2 (nC nP : Nat) (s I : Int32) (g : Nat → Int32) : Nat → Int32 := if s - 9 = 0 then qmap (fun _ x => qmin9 (x + I)) g nC else (qbl nC (s - 9 ≤ 0) I (fun i => mfen g (nI i) nP = true) g nC).1
def mhour (nC nP : Nat) (B s I : Int32) (f : Nat → Int32) : Nat → Int32 := upd (mrow2 nC nP s I (mrow1 nP B s f)) 35 (mrow2 nC nP s I (mrow1 nP B s f) 35 + 1)
theorem mrow2_out {nC nP : Nat} {s I : Int32} {g : Nat → Int32} {a : Nat} (ha : nC ≤ a) : mrow2 nC nP s I g a = g a := by
  unfold mrow2
  by_cases h : s - 9 = 0
  · rw [if_pos h]
    simp [qmap, Nat.not_lt.mpr ha]
  · rw [if_neg h]
    exact qbl_out _ (Nat.le_refl _) a ha
theorem mhour_35 {nC nP : Nat} (hC : nC ≤ 12) {B s I : Int32} {f : Nat → Int32} : mhour nC nP B s I f 35 = f 35 + 1 := by
  unfold mhour
  rw [upd_s, mrow2_out (by omega), mrow1, upd_o _ _ (by decide)]
theorem mhour_hi {nC nP : Nat} (hC : nC ≤ 12) {B s I : Int32} {f : Nat → Int32} {a : Nat} (ha : 12 ≤ a) (h1 : a ≠ 24) (h2 : a ≠ 35) : mhour nC nP B s I f a = f a := by
  unfold mhour
  rw [upd_o _ _ h2, mrow2_out (by omega), mrow1, upd_o _ _ h1]
def mpass (nC nP nW : Nat) (B : Int32) (strong fall : Nat → Int32) (f : Nat → Int32) : Nat → Nat → Int32
  | 0 => f
  | k + 1 => mhour nC nP B (qwind nW strong fall (mpass nC nP nW B strong fall f k 35)).1 (qwind nW strong fall (mpass nC nP nW B strong fall f k 35)).2 (mpass nC nP nW B strong fall f k)
theorem qfind_m1 {f : Nat → Int32} {c : Int32} : ∀ (n k : Nat), k + n ≤ 1000 → (qfind f c k n = -1 ↔ ∀ j, k ≤ j → j < k + n → ¬ f j = c)
  | 0, k, _ => by
    simp only [qfind, true_iff]
    intro j h1 h2
    omega
  | n + 1, k, h => by
    unfold qfind
    by_cases hk : f k = c
    · rw [if_pos hk]
      constructor
      · intro e
        exact absurd e (nI_nm1 (by omega))
      · intro hj
        exact absurd hk (hj k (Nat.le_refl _) (by omega))
    · rw [if_neg hk, qfind_m1 n (k + 1) (by omega)]
      constructor
      · intro hj j h1 h2
        by_cases e : j = k
        · subst e; exact hk
        · exact hj j (by omega) (by omega)
      · intro hj j h1 h2
        exact hj j (by omega) (by omega)
theorem qfree_in {f : Nat → Int32} {nC nP c : Nat} (hC : nC ≤ 12) (hP : nP ≤ 6) (hc : c < nC) : (¬ qfree f nC nP (nI c) = -1) ↔ ∀ j, j < nP → ¬ f j = nI c := by
  unfold qfree
  rw [if_neg (fun z => z.elim (fun q => nI_pos (by omega) q) (fun q => by have := (nI_leI (a := nC) (b := c) (by omega) (by omega)).mp q; omega))]
  have hq := qfind_m1 (f := f) (c := nI c) nP 0 (by omega)
  by_cases h : qfind f (nI c) 0 nP = -1
  · rw [if_pos h]
    exact ⟨fun _ j hj => hq.mp h j (by omega) (by omega), fun _ => nI_nm1 (by omega)⟩
  · rw [if_neg h]
    constructor
    · intro z
      exact absurd rfl z
    · intro z
      exact absurd (hq.mpr (fun j _ hj => z j (by omega))) h
theorem qfree_out {f : Nat → Int32} {nC nP : Nat} {a : Int32} (hC : nC ≤ 12) (h : ∀ k, k < nC → ¬ a = nI k) : qfree f nC nP a = -1 := by
  unfold qfree
  refine if_pos ?_
  by_cases h0 : a < 0
  · exact Or.inl h0
  · refine Or.inr ?_
    obtain ⟨j, hj, rfl⟩ := nI_of h0
    refine (nI_leI (by omega) hj).mpr ?_
    rcases Nat.lt_or_ge j nC with h2 | h2
    · exact absurd rfl (h j h2)
    · exact h2
/-- the reference has noted what was -/
def mNoted (nc : Nat) (S A S' A' : qA2) : Prop := S' 188 30 = nI (min (nc + 1) 20) ∧ (∀ k, k < 37 → A' 202 (37 * min nc 19 + k) = A 193 k) ∧ (∀ j, j < min nc 19 → ∀ k, k < 37 → A' 202 (37 * j + k) = A 202 (37 * (j + (if nc = 20 then 1 else 0)) + k))
def mKeep (S A S' A' : qA2) : Prop := (∀ i, i ≠ 193 → i ≠ 202 → A' i = A i) ∧ (∀ i j, (i ≠ 188 ∨ j ≠ 30) → S' i j = S i j)
theorem upd_upd (f : Nat → Int32) (k : Nat) (v w : Int32) : upd (upd f k v) k w = upd f k w := by
  funext j
  by_cases h : j = k <;> simp [upd, h]
theorem q2_ne (S : qA2) {o k i j : Nat} (v : Int32) (h : i ≠ o ∨ j ≠ k) : q2 S o k v i j = S i j := by
  rcases h with h | h
  · exact q2_o S v h
  · exact q2_k S v h
theorem mpass_hi {nC nP nW : Nat} (hC : nC ≤ 12) {B : Int32} {strong fall f : Nat → Int32} {a : Nat} (ha : 12 ≤ a) (h1 : a ≠ 24) (h2 : a ≠ 35) : ∀ n, mpass nC nP nW B strong fall f n a = f a
  | 0 => rfl
  | n + 1 => by
    unfold mpass
    rw [mhour_hi hC ha h1 h2]
    exact mpass_hi hC ha h1 h2 n
theorem qback {f g h w : Nat → Int32} (hw : w = qmap (fun k _ => f k) h 37) (hg : ∀ a, 37 ≤ a → g a = f a) : qmap (fun k _ => w k) g 37 = f := by
  funext a
  subst hw
  by_cases ha : a < 37
  · simp [qmap, ha]
  · simpa [qmap, ha] using hg a (by omega)
def mdrift (nC nP : Nat) (B : Int32) (t : (Nat → Int32) × Int32) : Nat → (Nat → Int32) × Int32
  | 0 => t
  | k + 1 =>
    let u := mdrift nC nP B t k
    (mhour nC nP B (qrem (qdraw u.2 / 65536) 19) (qrem (qdraw (qdraw u.2) / 65536) 11) u.1, qdraw (qdraw u.2))
def msub (f seen : Nat → Int32) (n : Nat) : Int32 := qor (fun p => if f (18 + p) < 0 then 0 else if seen p = 0 then 0 else if qtb (seen p) (f (18 + p)) = 0 then qsb (f (18 + p)) else 0) n
def mgst (f seen : Nat → Int32) (n : Nat) : Int32 := qor (fun p => if f (18 + p) < 0 then 0 else seen p &&& (qsb (f (18 + p)) ^^^ -1)) n
