/-! plain functions that both sides are tied to -/
def qsum (f : Nat → Int32) : Nat → Int32
  | 0 => 0
  | n + 1 => qsum f n + f n
def qor (f : Nat → Int32) : Nat → Int32
  | 0 => 0
  | n + 1 => qor f n ||| f n
def qbit (k : Nat) : Int32 := (1 : Int32) <<< (nI k &&& 31)
/-- bit k of a set: 0 or 1 -/
def qtb (x k : Int32) : Int32 := (x >>> (k &&& 31)) &&& 1
/-- the first place from k on, of n, that holds c; none: -1 -/
def qfind (f : Nat → Int32) (c : Int32) (k : Nat) : Nat → Int32
  | 0 => -1
  | n + 1 => if f k = c then nI k else qfind f c (k + 1) n
theorem i32_or0 (x : Int32) : x ||| 0 = x := by
  apply Int32.toBitVec_inj.mp
  simp
theorem i32_0or (x : Int32) : 0 ||| x = x := by
  apply Int32.toBitVec_inj.mp
  simp
def q01 (c : Prop) [Decidable c] : Int32 := if c then 1 else 0
