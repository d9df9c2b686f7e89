/-! plain lemmas for Letting -/
theorem qor_cong {f g : Nat → Int32} : ∀ n : Nat, (∀ k, k < n → f k = g k) → qor f n = qor g n
  | 0, _ => rfl
  | n + 1, h => by
    unfold qor
    rw [qor_cong n (fun k hk => h k (by omega)), h n (by omega)]
theorem qsum_cong {f g : Nat → Int32} : ∀ n : Nat, (∀ k, k < n → f k = g k) → qsum f n = qsum g n
  | 0, _ => rfl
  | n + 1, h => by
    unfold qsum
    rw [qsum_cong n (fun k hk => h k (by omega)), h n (by omega)]
theorem qbl_cong {n : Nat} {lft : Prop} [Decidable lft] {I : Int32} {kp : Nat → Prop} [DecidablePred kp] {f g : Nat → Int32} (h : ∀ k, k < n → f k = g k) : ∀ k : Nat, k ≤ n → (∀ a, a < n → (qbl n lft I kp f k).1 a = (qbl n lft I kp g k).1 a) ∧ (qbl n lft I kp f k).2 = (qbl n lft I kp g k).2
  | 0, _ => ⟨h, rfl⟩
  | k + 1, hk => by
    obtain ⟨h1, h2⟩ := qbl_cong (lft := lft) (I := I) (kp := kp) h k (by omega)
    have ha : (if lft then n - 1 - k else k) < n := by
      by_cases hl : lft
      · rw [if_pos hl]; omega
      · rw [if_neg hl]; omega
    simp only [qbl]
    generalize (if lft then n - 1 - k else k) = a at ha ⊢
    rw [h2]
    refine ⟨fun b hb => ?_, rfl⟩
    by_cases hba : b = a
    · subst hba
      simp only [upd, if_pos, h1 b hb]
    · simp only [upd, if_neg hba, h1 b hb]
theorem qfenced_cong {c d : Nat → Int32} {st : Int32} {n : Nat} (h : ∀ p, p < n → c p = d p) : qfenced c st n = qfenced d st n := qor_cong n (fun k hk => by rw [h k hk])
theorem qhour_cong {n posts : Nat} {B : Int32} {c d : Nat → Int32} {s I lp : Int32} {f g : Nat → Int32} {x y : Int32} (hf : ∀ k, k < n → f k = g k) (hc : ∀ p, p < posts → c p = d p) : (∀ a, a < n → (qhour n posts B c s I lp (f, x, y)).1 a = (qhour n posts B d s I lp (g, x, y)).1 a) ∧ (qhour n posts B c s I lp (f, x, y)).2 = (qhour n posts B d s I lp (g, x, y)).2 := by
  have hk : ∀ st, qkeep n posts c s st = qkeep n posts d s st := fun st => by
    unfold qkeep
    rw [qfenced_cong hc]
  refine ⟨?_, rfl⟩
  simp only [qhour, hk]
  exact (qbl_cong hf n (Nat.le_refl n)).1
theorem qpass_cong {n posts winds : Nat} {B : Int32} {c d strong fall : Nat → Int32} {lp : Int32} {f g : Nat → Int32} {x y : Int32} (hf : ∀ k, k < n → f k = g k) (hc : ∀ p, p < posts → c p = d p) : ∀ k : Nat, (∀ a, a < n → (qpass n posts winds B c strong fall lp (f, x, y) k).1 a = (qpass n posts winds B d strong fall lp (g, x, y) k).1 a) ∧ (qpass n posts winds B c strong fall lp (f, x, y) k).2 = (qpass n posts winds B d strong fall lp (g, x, y) k).2
  | 0 => ⟨hf, rfl⟩
  | k + 1 => by
    obtain ⟨h1, h2⟩ := qpass_cong (winds := winds) (B := B) (strong := strong) (fall := fall) (lp := lp) (x := x) (y := y) hf hc k
    simp only [qpass]
    generalize qpass n posts winds B c strong fall lp (f, x, y) k = t at h1 h2 ⊢
    generalize qpass n posts winds B d strong fall lp (g, x, y) k = u at h1 h2 ⊢
    obtain ⟨t1, t2, t3⟩ := t
    obtain ⟨u1, u2, u3⟩ := u
    cases h2
    exact qhour_cong h1 hc
theorem qopen_cong {road D : Int32} {f g : Nat → Int32} {n : Nat} (h : ∀ k, k < n → f k = g k) : qopen road D f n = qopen road D g n := qor_cong n (fun k hk => by rw [h k hk])
/-- the road is open behind each of the first n hours, from t on -/
def qstay (nC nP nW : Nat) (B D road : Int32) (cell strong fall : Nat → Int32) (lp : Int32) (t : (Nat → Int32) × Int32 × Int32) (n : Nat) : Prop := ∀ k, k ≤ n → qopen road D (qpass nC nP nW B cell strong fall lp t k).1 nC = road
theorem qstay_cong {nC nP nW : Nat} {B D road : Int32} {c d strong fall : Nat → Int32} {lp : Int32} {f g : Nat → Int32} {x y : Int32} {n : Nat} (hf : ∀ k, k < nC → f k = g k) (hc : ∀ p, p < nP → c p = d p) : qstay nC nP nW B D road c strong fall lp (f, x, y) n ↔ qstay nC nP nW B D road d strong fall lp (g, x, y) n := by
  unfold qstay
  constructor <;> intro h k hk
  · exact (qopen_cong (fun a ha => ((qpass_cong hf hc k).1 a ha).symm)).trans (h k hk)
  · exact (qopen_cong (fun a ha => (qpass_cong hf hc k).1 a ha)).trans (h k hk)
theorem qall_nI {n : Nat} (h : n ≤ 12) : qall n = nI (2 ^ n - 1) := by
  have : ∀ n, n < 13 → qall n = nI (2 ^ n - 1) := by decide +kernel
  exact this n (by omega)
theorem qbit_nI {n : Nat} (h : n ≤ 12) : qbit n = nI (2 ^ n) := by
  have : ∀ n, n < 13 → qbit n = nI (2 ^ n) := by decide +kernel
  exact this n (by omega)
theorem nI_or (a b : Nat) : nI a ||| nI b = nI (a ||| b) := by
  apply Int32.toBitVec_inj.mp
  show BitVec.ofNat 32 a ||| BitVec.ofNat 32 b = BitVec.ofNat 32 (a ||| b)
  apply BitVec.eq_of_toNat_eq
  simp [BitVec.toNat_or, BitVec.toNat_ofNat, Nat.or_mod_two_pow]
theorem nI_and (a b : Nat) : nI a &&& nI b = nI (a &&& b) := by
  apply Int32.toBitVec_inj.mp
  show BitVec.ofNat 32 a &&& BitVec.ofNat 32 b = BitVec.ofNat 32 (a &&& b)
  apply BitVec.eq_of_toNat_eq
  simp [BitVec.toNat_and, BitVec.toNat_ofNat, Nat.and_mod_two_pow]
/-- a set of posts below 2^6 -/
def qset6 (x : Int32) : Prop := ∃ m, m < 64 ∧ x = nI m
theorem qset6_0 : qset6 0 := ⟨0, by decide, rfl⟩
theorem qset6_or {x : Int32} (h : qset6 x) {q : Nat} (hq : q < 6) : qset6 (x ||| qbit q) := by
  obtain ⟨m, hm, rfl⟩ := h
  rw [qbit_nI (by omega), nI_or]
  exact ⟨_, Nat.or_lt_two_pow (n := 6) hm (by exact Nat.pow_lt_pow_right (by decide) hq), rfl⟩
theorem qset6_and {x : Int32} (h : qset6 x) (y : Int32) : qset6 (x &&& y) := by
  obtain ⟨m, hm, rfl⟩ := h
  obtain ⟨k, hk, rfl⟩ : ∃ k, k < 2 ^ 32 ∧ y = nI k := ⟨y.toBitVec.toNat, y.toBitVec.isLt, by
    apply Int32.toBitVec_inj.mp
    show y.toBitVec = BitVec.ofNat 32 _
    simp⟩
  rw [nI_and]
  exact ⟨_, Nat.lt_of_le_of_lt Nat.and_le_left hm, rfl⟩
/-- a crow, or nobody -/
def qcw (nK : Nat) (x : Int32) : Prop := x = -1 ∨ ∃ c, c < nK ∧ x = nI c
theorem qcw_nat {nK : Nat} (hK : nK ≤ 5) {x : Int32} (h : qcw nK x) (hx : ¬ x = -1) : x = nI x.toNatClampNeg ∧ x.toNatClampNeg < nK := by
  rcases h with h | ⟨c, hc, rfl⟩
  · exact absurd h hx
  · rw [nIc (by omega)]
    exact ⟨rfl, hc⟩
def qWok (nP nK : Nat) (t : qWy) : Prop := (∀ q, q < nP → qcw nK (t.1 q)) ∧ qset6 t.2.1
theorem qsettle_ok {nK : Nat} (hK : nK ≤ 5) : ∀ (n q le : Nat) (t : qWy), q + n ≤ 6 → le ≤ nK → (∀ k, k < q → qcw nK (t.1 k)) → qset6 t.2.1 → qWok (q + n) nK (qsettle nK n q le t)
  | 0, q, le, t, _, _, h1, h2 => ⟨h1, h2⟩
  | n + 1, q, le, t, hq, hle, h1, h2 => by
    simp only [qsettle]
    have hc := qleast_ok t.2.2 (nK - le) le (by omega)
    generalize qleast t.2.2 le (nK - le) = c at hc ⊢
    have hcw : qcw nK c := by
      rcases hc with h | ⟨d, h3, h4, h5⟩
      · exact Or.inl h
      · exact Or.inr ⟨d, by omega, h5⟩
    have hrow : ∀ k, k < q + 1 → qcw nK (upd t.1 q c k) := fun k hk => by
      by_cases hkq : k = q
      · subst hkq
        simpa [upd] using hcw
      · simpa [upd, hkq] using h1 k (by omega)
    have := qsettle_ok hK n (q + 1) 0 (if c = -1 then (upd t.1 q c, t.2.1, t.2.2) else (upd t.1 q c, t.2.1 ||| qbit q, t.2.2 ||| ((1 : Int32) <<< (c &&& 31)))) (by omega) (by omega) (by
      by_cases hz : c = -1
      · rw [if_pos hz]; exact hrow
      · rw [if_neg hz]; exact hrow) (by
      by_cases hz : c = -1
      · rw [if_pos hz]; exact h2
      · rw [if_neg hz]; exact qset6_or h2 (by omega))
    rw [show q + (n + 1) = q + 1 + n by omega]
    exact this
theorem qadv_ok {nP nK : Nat} (hK : nK ≤ 5) (hP : nP ≤ 6) {t t' : qWy} (h : qWok nP nK t) : ∀ j, j ≤ nP → qadv nP nK t j = some t' → qWok nP nK t'
  | 0, _, e => by cases e
  | j + 1, hj, e => by
    unfold qadv at e
    by_cases hz : t.1 j = -1
    · rw [if_pos hz] at e
      exact qadv_ok hK hP h j (by omega) e
    · rw [if_neg hz] at e
      cases e
      have hc := qcw_nat hK (h.1 j (by omega)) hz
      have := qsettle_ok hK (nP - j) j ((t.1 j).toNatClampNeg + 1) (t.1, t.2.1 &&& (qbit j ^^^ -1), t.2.2 &&& (((1 : Int32) <<< (t.1 j &&& 31)) ^^^ -1)) (by omega) (by omega) (fun k hk => h.1 k (by omega)) (qset6_and h.2 _)
      rw [show j + (nP - j) = nP by omega] at this
      exact this
/-- what a way brings -/
def qspoons (way bid per view : Nat → Int32) (n : Nat) : Int32 := qsum (fun q => if way q = -1 then 0 else bid (way q).toNatClampNeg + per (way q).toNatClampNeg * view q) n
/-- the better of the best so far and the way t, if it opens -/
noncomputable def qbr (nP : Nat) (Op : Nat → Prop) (sp : (Nat → Int32) → Int32) (t : qWy) (br : Int32 × (Nat → Int32)) : Int32 × (Nat → Int32) := @ite _ (br.1 < sp t.1 ∧ Op t.2.1.toNatClampNeg) (Classical.propDecidable _) (sp t.1, va_cpy t.1 br.2 0 0 nP) br
theorem qbr_yes {nP : Nat} {Op : Nat → Prop} {sp : (Nat → Int32) → Int32} {t : qWy} {br : Int32 × (Nat → Int32)} (h : br.1 < sp t.1 ∧ Op t.2.1.toNatClampNeg) : qbr nP Op sp t br = (sp t.1, va_cpy t.1 br.2 0 0 nP) := if_pos h
theorem qbr_no {nP : Nat} {Op : Nat → Prop} {sp : (Nat → Int32) → Int32} {t : qWy} {br : Int32 × (Nat → Int32)} (h : ¬ (br.1 < sp t.1 ∧ Op t.2.1.toNatClampNeg)) : qbr nP Op sp t br = br := if_neg h
/-- the best way from t on, of at most fu, that opens -/
noncomputable def qfm (nP nK : Nat) (Op : Nat → Prop) (sp : (Nat → Int32) → Int32) : Nat → qWy → Int32 × (Nat → Int32) → Int32 × (Nat → Int32)
  | 0, _, br => br
  | fu + 1, t, br =>
    match qadv nP nK t nP with
    | none => qbr nP Op sp t br
    | some t' => qfm nP nK Op sp fu t' (qbr nP Op sp t br)
theorem qfm_none {nP nK : Nat} {Op : Nat → Prop} {sp : (Nat → Int32) → Int32} {fu : Nat} {t : qWy} {br : Int32 × (Nat → Int32)} (h : qadv nP nK t nP = none) : qfm nP nK Op sp (fu + 1) t br = qbr nP Op sp t br := by
  simp only [qfm, h]
theorem qfm_some {nP nK : Nat} {Op : Nat → Prop} {sp : (Nat → Int32) → Int32} {fu : Nat} {t t' : qWy} {br : Int32 × (Nat → Int32)} (h : qadv nP nK t nP = some t') : qfm nP nK Op sp (fu + 1) t br = qfm nP nK Op sp fu t' (qbr nP Op sp t br) := by
  simp only [qfm, h]
/-- how many bits, as the library counts -/
def qbc (a : Int32) : Int32 :=
  let x0 := a - ((a.toUInt32 >>> ((1 : Int32).toUInt32 &&& Int32.toUInt32 31)).toInt32 &&& 1431655765)
  let x1 := (x0 &&& 858993459) + ((x0.toUInt32 >>> ((2 : Int32).toUInt32 &&& Int32.toUInt32 31)).toInt32 &&& 858993459)
  let x2 := (x1 + (x1.toUInt32 >>> ((4 : Int32).toUInt32 &&& Int32.toUInt32 31)).toInt32) &&& 252645135
  let x3 := x2 + (x2.toUInt32 >>> ((8 : Int32).toUInt32 &&& Int32.toUInt32 31)).toInt32
  let x4 := x3 + (x3.toUInt32 >>> ((16 : Int32).toUInt32 &&& Int32.toUInt32 31)).toInt32
  x4 &&& 63
/-- what is known of sets of posts: 0 nothing, 1 it opens, 2 it doesn't -/
def qmemo (Op : Nat → Prop) (f : Nat → Int32) : Prop := ∀ m, m < 64 → f m = 0 ∨ (f m = 1 ∧ Op m) ∨ (f m = 2 ∧ ¬ Op m)
theorem qmemo_up {Op : Nat → Prop} {f : Nat → Int32} {mm : Nat} {v : Int32} (h : qmemo Op f) (hv : (v = 1 ∧ Op mm) ∨ (v = 2 ∧ ¬ Op mm)) : qmemo Op (upd f mm v) := by
  intro k hk
  by_cases hz : k = mm
  · subst hz
    simp only [upd, if_true]
    exact Or.inr hv
  · simpa [upd, hz] using h k hk
def qbcn (m : Nat) : Nat := (qbc (nI m)).toNatClampNeg
theorem qbcn_ok {m : Nat} (h : m < 64) : qbc (nI m) = nI (qbcn m) ∧ qbcn m ≤ 6 := by
  have : ∀ m, m < 64 → qbc (nI m) = nI (qbcn m) ∧ qbcn m ≤ 6 := by decide +kernel
  exact this m h
theorem qbcn_le {n m : Nat} (hn : n ≤ 6) (h : m < 2 ^ n) : qbcn m ≤ n := by
  have : ∀ n, n < 7 → ∀ m, m < 2 ^ n → qbcn m ≤ n := by decide +kernel
  exact this n (by omega) m h
theorem q2p {n : Nat} (h : n ≤ 6) : 1 ≤ 2 ^ n ∧ 2 ^ n ≤ 64 := by
  have : ∀ n, n < 7 → 1 ≤ 2 ^ n ∧ 2 ^ n ≤ 64 := by decide
  exact this n (by omega)
theorem q01_ne0 {c : Prop} [Decidable c] : (¬ q01 c = 0) ↔ c := by
  rw [q01_eq0]
  exact Classical.not_not
theorem q01_01 (c : Prop) [Decidable c] : q01 c = 0 ∨ q01 c = 1 := by
  unfold q01
  by_cases h : c
  · rw [if_pos h]; exact Or.inr rfl
  · rw [if_neg h]; exact Or.inl rfl
theorem nar01 {x : Int32} (h : x = 0 ∨ x = 1) : narrow .boolean (.int x) = .int x := by
  rcases h with h | h <;> subst h <;> rfl
