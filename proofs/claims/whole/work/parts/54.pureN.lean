/-! bits -/
theorem i32_and31 {d : Nat} (hd : d < 32) : nI d &&& 31 = nI d := by
  rw [show (31 : Int32) = nI 31 from rfl, nI_and]
  congr 1
  have := Nat.and_two_pow_sub_one_eq_mod d 5
  rw [show (2 ^ 5 - 1 : Nat) = 31 from rfl] at this
  rw [this]
  exact Nat.mod_eq_of_lt hd
theorem qtb_get {x : Int32} {d : Nat} (hd : d < 32) : qtb x (nI d) = 0 ↔ x.toBitVec.getLsbD d = false := by
  unfold qtb
  rw [i32_and31 hd]
  have hs : ∀ d, d < 32 → ((nI d).toBitVec.smod 32).toNat = d := by decide +kernel
  have e : (x >>> nI d &&& 1).toBitVec = (x.toBitVec.sshiftRight d) &&& 1#32 := by
    rw [Int32.toBitVec_and, Int32.toBitVec_shiftRight]
    show BitVec.sshiftRight' x.toBitVec ((nI d).toBitVec.smod 32) &&& 1#32 = _
    rw [BitVec.sshiftRight', hs d hd]
  have hb : ((x.toBitVec.sshiftRight d) &&& 1#32).getLsbD 0 = x.toBitVec.getLsbD d := by
    rw [BitVec.getLsbD_and, BitVec.getLsbD_sshiftRight]
    simp [hd]
  constructor
  · intro h
    rw [← hb, ← e, h]
    rfl
  · intro h
    rcases qtb01 x (nI d) with h2 | h2
    · unfold qtb at h2
      rw [i32_and31 hd] at h2
      exact h2
    · unfold qtb at h2
      rw [i32_and31 hd] at h2
      rw [← hb, ← e, h2] at h
      exact absurd h (by decide)
theorem qtb_or {x y : Int32} {d : Nat} (hd : d < 32) : qtb (x ||| y) (nI d) = 0 ↔ qtb x (nI d) = 0 ∧ qtb y (nI d) = 0 := by
  rw [qtb_get hd, qtb_get hd, qtb_get hd, Int32.toBitVec_or, BitVec.getLsbD_or]
  simp
theorem qtb_and {x y : Int32} {d : Nat} (hd : d < 32) : qtb (x &&& y) (nI d) = 0 ↔ qtb x (nI d) = 0 ∨ qtb y (nI d) = 0 := by
  rw [qtb_get hd, qtb_get hd, qtb_get hd, Int32.toBitVec_and, BitVec.getLsbD_and]
  cases x.toBitVec.getLsbD d <;> simp
theorem qtb_bit {c d : Nat} (hc : c < 31) (hd : d < 32) : qtb (qbit c) (nI d) = 0 ↔ ¬ d = c := by
  have : ∀ c, c < 31 → ∀ d, d < 32 → (qtb (qbit c) (nI d) = 0 ↔ ¬ d = c) := by decide +kernel
  exact this c hc d hd
theorem qtb_nbit {c d : Nat} (hc : c < 31) (hd : d < 32) : qtb (qbit c ^^^ -1) (nI d) = 0 ↔ d = c := by
  have : ∀ c, c < 31 → ∀ d, d < 32 → (qtb (qbit c ^^^ -1) (nI d) = 0 ↔ d = c) := by decide +kernel
  exact this c hc d hd
theorem qtb_0 {d : Nat} (hd : d < 32) : qtb 0 (nI d) = 0 := by
  have : ∀ d, d < 32 → qtb 0 (nI d) = 0 := by decide +kernel
  exact this d hd
theorem qtb_m1 {d : Nat} (hd : d < 32) : ¬ qtb (-1) (nI d) = 0 := by
  have : ∀ d, d < 32 → ¬ qtb (-1) (nI d) = 0 := by decide +kernel
  exact this d hd
/-- two sets are one if they hold the same -/
theorem qtb_ext {x y : Int32} (h : ∀ d, d < 32 → (qtb x (nI d) = 0 ↔ qtb y (nI d) = 0)) : x = y := by
  apply Int32.toBitVec_inj.mp
  apply BitVec.eq_of_getLsbD_eq
  intro d hd
  have := h d hd
  rw [qtb_get hd, qtb_get hd] at this
  cases hx : x.toBitVec.getLsbD d <;> cases hy : y.toBitVec.getLsbD d <;> simp_all
theorem qtb_qor {f : Nat → Int32} {d : Nat} (hd : d < 32) : ∀ n, qtb (qor f n) (nI d) = 0 ↔ ∀ k, k < n → qtb (f k) (nI d) = 0
  | 0 => by
    unfold qor
    exact ⟨fun _ k hk => absurd hk (Nat.not_lt_zero _), fun _ => qtb_0 hd⟩
  | n + 1 => by
    unfold qor
    rw [qtb_or hd, qtb_qor hd n]
    constructor
    · intro h k hk
      by_cases e : k = n
      · subst e; exact h.2
      · exact h.1 k (by omega)
    · intro h
      exact ⟨fun k hk => h k (by omega), h n (by omega)⟩
theorem qtb_nI {m d : Nat} (hm : m < 2 ^ 31) (hd : d < 32) : qtb (nI m) (nI d) = 0 ↔ m.testBit d = false := by
  rw [qtb_get hd]
  show (BitVec.ofNat 32 m).getLsbD d = false ↔ _
  rw [BitVec.getLsbD_ofNat]
  simp [hd]
