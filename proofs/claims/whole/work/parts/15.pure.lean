/-! plain functions that the methods are tied to -/
def qsum (f : Nat → Int32) : Nat → Int32
  | 0 => 0
  | n + 1 => qsum f n + f n
def qor (f : Nat → Int32) : Nat → Int32
  | 0 => 0
  | n + 1 => qor f n ||| f n
def qbit (k : Nat) : Int32 := (1 : Int32) <<< (nI k &&& 31)
/-- bit k of a set: 0 or 1 -/
def qtb (x k : Int32) : Int32 := (x >>> (k &&& 31)) &&& 1
/-- the first place from k on, of n, that holds c; none: -1 -/
def qfind (f : Nat → Int32) (c : Int32) (k : Nat) : Nat → Int32
  | 0 => -1
  | n + 1 => if f k = c then nI k else qfind f c (k + 1) n
theorem i32_or0 (x : Int32) : x ||| 0 = x := by
  apply Int32.toBitVec_inj.mp
  simp
theorem i32_0or (x : Int32) : 0 ||| x = x := by
  apply Int32.toBitVec_inj.mp
  simp
def q01 (c : Prop) [Decidable c] : Int32 := if c then 1 else 0
/-- a row whose first k places were passed through g -/
def qmap (g : Nat → Int32 → Int32) (f : Nat → Int32) (k : Nat) : Nat → Int32 := fun a => if a < k then g a (f a) else f a
theorem qmap_0 (g : Nat → Int32 → Int32) (f : Nat → Int32) : qmap g f 0 = f := by
  funext a
  simp [qmap]
theorem qmap_at (g : Nat → Int32 → Int32) (f : Nat → Int32) (k : Nat) : qmap g f k k = f k := by simp [qmap]
theorem qmap_s (g : Nat → Int32 → Int32) (f : Nat → Int32) (k : Nat) (v : Int32) (hv : v = g k (f k)) : upd (qmap g f k) k v = qmap g f (k + 1) := by
  funext a
  subst hv
  by_cases h : a = k
  · subst h
    simp [upd, qmap]
  · by_cases h2 : a < k
    · simp [upd, qmap, h, h2, Nat.lt_succ_of_lt h2]
    · have h3 : ¬ a < k + 1 := by omega
      simp [upd, qmap, h, h2, h3]
theorem qmap_in {g : Nat → Int32 → Int32} {f : Nat → Int32} {k a : Nat} (h : a < k) : qmap g f k a = g a (f a) := by simp [qmap, h]
theorem qfr_up {A A1 : qA2} {o k : Nat} {v : Int32} (h : ∀ i, i ≠ o → A1 i = A i) : ∀ i, i ≠ o → q2 A1 o k v i = A i := fun i hi => (q2_or A1 v hi).trans (h i hi)
theorem q2_self (S : qA2) (o k : Nat) : q2 S o k (S o k) = S := by
  funext i j
  by_cases h : i = o ∧ j = k
  · obtain ⟨rfl, rfl⟩ := h
    exact q2_s S i j _
  · simp [q2, h]
/-- what can lie -/
def qmin9 (v : Int32) : Int32 := if v < 9999 then v else 9999
/-- snow of n cells behind k steps of a wind (to the left or not), I to each, kp: those that keep all; and what is blown on -/
def qbl (n : Nat) (lft : Prop) [Decidable lft] (I : Int32) (kp : Nat → Prop) [DecidablePred kp] (f0 : Nat → Int32) : Nat → (Nat → Int32) × Int32
  | 0 => (f0, 0)
  | k + 1 =>
    let r := qbl n lft I kp f0 k
    let a := if lft then n - 1 - k else k
    let comes := I + r.2
    let kept := if kp a then comes else comes / 2
    (upd r.1 a (qmin9 (r.1 a + kept)), comes - kept)
def qabs (x : Int32) : Int32 := if 0 ≤ x then x else 0 - x
/-- the cells with a fence that stands -/
def qfenced (cell : Nat → Int32) (st : Int32) (posts : Nat) : Int32 := qor (fun p => if qtb st (nI p) = 0 then 0 else (1 : Int32) <<< (cell p &&& 31)) posts
def qall (n : Nat) : Int32 := qbit n - 1
/-- an hour: what stands -/
def qhst (B s lp st : Int32) : Int32 := if qabs (s - 9) ≤ B then st else st &&& lp
def qkeep (n posts : Nat) (cell : Nat → Int32) (s st : Int32) : Int32 := if s - 9 = 0 then qall n else qfenced cell st posts
/-- an hour: snow, what stands, hours -/
def qhour (n posts : Nat) (B : Int32) (cell : Nat → Int32) (s I lp : Int32) (t : (Nat → Int32) × Int32 × Int32) : (Nat → Int32) × Int32 × Int32 :=
  ((qbl n (s - 9 < 0) I (fun a => ¬ qtb (qkeep n posts cell s (qhst B s lp t.2.1)) (nI a) = 0) t.1 n).1, qhst B s lp t.2.1, t.2.2 + 1)
def qwind (winds : Nat) (strong fall : Nat → Int32) (h : Int32) : Int32 × Int32 := if winds = 0 then (9, 0) else (strong (h - h / nI winds * nI winds).toNatClampNeg, fall (h - h / nI winds * nI winds).toNatClampNeg)
def qpass (n posts winds : Nat) (B : Int32) (cell strong fall : Nat → Int32) (lp : Int32) (t : (Nat → Int32) × Int32 × Int32) : Nat → (Nat → Int32) × Int32 × Int32
  | 0 => t
  | k + 1 =>
    let u := qpass n posts winds B cell strong fall lp t k
    qhour n posts B cell (qwind winds strong fall u.2.2).1 (qwind winds strong fall u.2.2).2 lp u
theorem q01_eq0 {c : Prop} [Decidable c] : q01 c = 0 ↔ ¬ c := by
  unfold q01
  by_cases h : c <;> simp [h]
theorem q01_nar (c : Prop) [Decidable c] : narrow .boolean (.int (q01 c)) = .int (q01 c) := by
  unfold q01
  by_cases h : c
  · rw [if_pos h]; rfl
  · rw [if_neg h]; rfl
/-- the cells of the road that are open -/
def qopen (road D : Int32) (f : Nat → Int32) (n : Nat) : Int32 := qor (fun a => if (¬ qtb road (nI a) = 0) ∧ f a ≤ D then qbit a else 0) n
def qmin6 (v : Int32) : Int32 := if v < 999999 then v else 999999
def qlets (crow : Nat → Int32) (n : Nat) : Int32 := qor (fun p => if crow p = -1 then 0 else qbit p) n
/-- the cell beside, if it is one and has no post; else -1 -/
def qfree (f : Nat → Int32) (n posts : Nat) (cell : Int32) : Int32 := if cell < 0 ∨ nI n ≤ cell then -1 else if qfind f cell 0 posts = -1 then cell else -1
theorem nI_nm1 {k : Nat} (h : k < 1000) : nI k ≠ -1 := by
  intro e
  have := congrArg Int32.toInt e
  rw [nI_toInt (by omega)] at this
  have h2 : ((-1 : Int32)).toInt = -1 := by decide
  omega
