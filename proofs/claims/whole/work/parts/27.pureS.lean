/-! plain functions of crows that were seen -/
def qsb (c : Int32) : Int32 := (1 : Int32) <<< (c &&& 31)
/-- crows seen on post p -/
def qsat (crow : Nat → Int32) (sp : Nat → Nat) (p : Nat) (n : Nat) : Int32 := qor (fun k => if sp k = p then qsb (crow k) else 0) n
def qsall (crow : Nat → Int32) (n : Nat) : Int32 := qor (fun k => qsb (crow k)) n
def qsubl (on seen : Nat → Int32) (n : Nat) : Int32 := qor (fun p => if on p = -1 then 0 else if seen p = 0 then 0 else if qtb (seen p) (on p) = 0 then qsb (on p) else 0) n
def qgst (on crow : Nat → Int32) (sp : Nat → Nat) (n : Nat) : Int32 := qor (fun k => if on (sp k) = -1 then 0 else if on (sp k) = crow k then 0 else qsb (crow k)) n
/-- may post p, on which seen were seen, be let to c? -/
def qmay (seen all c : Int32) : Prop := ¬ c = -1 ∧ (¬ qtb seen c = 0 ∨ qtb all c = 0)
def qfits (nP : Nat) (seen : Nat → Int32) (all : Int32) (way : Nat → Int32) : Prop := ∀ p, p < nP → ¬ seen p = 0 → qmay (seen p) all (way p)
noncomputable def qfs (nP : Nat) (F : (Nat → Int32) → Prop) (t : qWy) (br : Int32 × (Nat → Int32)) : Int32 × (Nat → Int32) := @ite _ (F t.1) (Classical.propDecidable _) (br.1 + 1, qmap (fun p x => x ||| ((1 : Int32) <<< ((t.1 p + 1) &&& 31))) br.2 nP) br
theorem qfs_yes {nP : Nat} {F : (Nat → Int32) → Prop} {t : qWy} {br : Int32 × (Nat → Int32)} (h : F t.1) : qfs nP F t br = (br.1 + 1, qmap (fun p x => x ||| ((1 : Int32) <<< ((t.1 p + 1) &&& 31))) br.2 nP) := if_pos h
theorem qfs_no {nP : Nat} {F : (Nat → Int32) → Prop} {t : qWy} {br : Int32 × (Nat → Int32)} (h : ¬ F t.1) : qfs nP F t br = br := if_neg h
/-- ways from t on, of at most fu, that fit: how many, and who can have each post -/
noncomputable def qfw (nP nK : Nat) (F : (Nat → Int32) → Prop) : Nat → qWy → Int32 × (Nat → Int32) → Int32 × (Nat → Int32)
  | 0, _, br => br
  | fu + 1, t, br =>
    match qadv nP nK t nP with
    | none => qfs nP F t br
    | some t' => qfw nP nK F fu t' (qfs nP F t br)
theorem qfw_none {nP nK : Nat} {F : (Nat → Int32) → Prop} {fu : Nat} {t : qWy} {br : Int32 × (Nat → Int32)} (h : qadv nP nK t nP = none) : qfw nP nK F (fu + 1) t br = qfs nP F t br := by
  simp only [qfw, h]
theorem qfw_some {nP nK : Nat} {F : (Nat → Int32) → Prop} {fu : Nat} {t t' : qWy} {br : Int32 × (Nat → Int32)} (h : qadv nP nK t nP = some t') : qfw nP nK F (fu + 1) t br = qfw nP nK F fu t' (qfs nP F t br) := by
  simp only [qfw, h]
def qlook (f : Nat → Int32) : Nat → Int32 × Int32
  | 0 => (-1, 0)
  | k + 1 => if (qlook f k).2 < f k then (nI k, f k) else qlook f k
theorem qsat_s (crow : Nat → Int32) (sp : Nat → Nat) (p k : Nat) : qsat crow sp p (k + 1) = if sp k = p then qsat crow sp p k ||| qsb (crow k) else qsat crow sp p k := by
  unfold qsat
  simp only [qor]
  by_cases h : sp k = p
  · rw [if_pos h, if_pos h]
  · rw [if_neg h, if_neg h, i32_or0]
theorem qfits_cong {nP : Nat} {s1 s2 : Nat → Int32} {a1 a2 : Int32} {way : Nat → Int32} (h : ∀ p, p < nP → s1 p = s2 p) (ha : a1 = a2) : qfits nP s1 a1 way ↔ qfits nP s2 a2 way := by
  subst ha
  constructor <;> intro hq p hp hn
  · rw [← h p hp] at hn ⊢
    exact hq p hp hn
  · rw [h p hp] at hn ⊢
    exact hq p hp hn
