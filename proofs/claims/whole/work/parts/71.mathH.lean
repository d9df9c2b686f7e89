/-! an hour, both sides -/
theorem hq_bl {n : Nat} {l1 l2 : Prop} [Decidable l1] [Decidable l2] {I : Int32} {k1 k2 : Nat → Prop} [DecidablePred k1] [DecidablePred k2] {f g : Nat → Int32} (hl : l1 ↔ l2) (hk : ∀ a, a < n → (k1 a ↔ k2 a)) (h : ∀ a, a < n → f a = g a) : ∀ k : Nat, k ≤ n → (∀ a, a < n → (qbl n l1 I k1 f k).1 a = (qbl n l2 I k2 g k).1 a) ∧ (qbl n l1 I k1 f k).2 = (qbl n l2 I k2 g k).2
  | 0, _ => ⟨h, rfl⟩
  | k + 1, hn => by
    obtain ⟨h1, h2⟩ := hq_bl (I := I) hl hk h k (by omega)
    have ha : (if l1 then n - 1 - k else k) = (if l2 then n - 1 - k else k) := by
      by_cases z : l1
      · rw [if_pos z, if_pos (hl.mp z)]
      · rw [if_neg z, if_neg (fun y => z (hl.mpr y))]
    have hb : (if l2 then n - 1 - k else k) < n := by
      by_cases z : l2
      · rw [if_pos z]; omega
      · rw [if_neg z]; omega
    simp only [qbl]
    rw [ha]
    generalize (if l2 then n - 1 - k else k) = a at hb ⊢
    rw [h2]
    generalize I + (qbl n l2 I k2 g k).2 = co
    have hke : (if k1 a then co else co / 2) = (if k2 a then co else co / 2) := by
      by_cases z : k1 a
      · rw [if_pos z, if_pos ((hk a hb).mp z)]
      · rw [if_neg z, if_neg (fun y => z ((hk a hb).mpr y))]
    rw [hke, h1 a hb]
    refine ⟨fun b hb2 => ?_, rfl⟩
    by_cases e : b = a
    · subst e; rw [upd_s, upd_s]
    · rw [upd_o _ _ e, upd_o _ _ e]; exact h1 b hb2
theorem hq_all {n : Nat} {lft : Prop} [Decidable lft] {I : Int32} {kp : Nat → Prop} [DecidablePred kp] {f : Nat → Int32} (hl : ¬ lft) (hk : ∀ a, a < n → kp a) : ∀ k : Nat, k ≤ n → (∀ a, (qbl n lft I kp f k).1 a = if a < k then qmin9 (f a + I) else f a) ∧ (qbl n lft I kp f k).2 = 0
  | 0, _ => ⟨fun a => by rw [if_neg (Nat.not_lt_zero a)]; rfl, rfl⟩
  | k + 1, hn => by
    obtain ⟨h1, h2⟩ := hq_all (I := I) (f := f) hl hk k (by omega)
    simp only [qbl]
    rw [if_neg hl, h2, if_pos (hk k (by omega)), h1 k, if_neg (Nat.lt_irrefl k), Int32.add_zero]
    refine ⟨fun a => ?_, Int32.sub_self _⟩
    by_cases e : a = k
    · subst e; rw [upd_s, if_pos (by omega)]
    · rw [upd_o _ _ e, h1 a]
      by_cases h3 : a < k
      · rw [if_pos h3, if_pos (by omega)]
      · rw [if_neg h3, if_neg (by omega)]
theorem hq_mst {f : Nat → Int32} {d : Nat} (hd : d < 32) : ∀ k, k ≤ 6 → (qtb (mst f k) (nI d) = 0 ↔ qtb (f 24) (nI d) = 0 ∨ (d < k ∧ f (18 + d) < 0))
  | 0, _ => ⟨Or.inl, fun h => h.elim id (fun z => absurd z.1 (Nat.not_lt_zero _))⟩
  | k + 1, hk => by
    unfold mst
    rw [qtb_and hd, hq_mst hd k (by omega)]
    by_cases hz : f (18 + k) < 0
    · rw [if_pos hz, qtb_nbit (by omega) hd]
      constructor
      · rintro ((h | h) | h)
        · exact Or.inl h
        · exact Or.inr ⟨by omega, h.2⟩
        · subst h; exact Or.inr ⟨by omega, hz⟩
      · rintro (h | h)
        · exact Or.inl (Or.inl h)
        · by_cases e : d = k
          · exact Or.inr e
          · exact Or.inl (Or.inr ⟨by omega, h.2⟩)
    · rw [if_neg hz]
      have hm := qtb_m1 hd
      constructor
      · rintro ((h | h) | h)
        · exact Or.inl h
        · exact Or.inr ⟨by omega, h.2⟩
        · exact absurd h hm
      · rintro (h | h)
        · exact Or.inl (Or.inl h)
        · by_cases e : d = k
          · subst e; exact absurd h.2 hz
          · exact Or.inl (Or.inr ⟨by omega, h.2⟩)
theorem hq_abs (s : Int32) : qabs (s - 9) = mforce s := by
  unfold qabs mforce
  by_cases h : s - 9 < 0
  · rw [if_pos h, if_neg (Int32.not_le.mpr h), Int32.zero_sub]
  · rw [if_neg h, if_pos (Int32.not_lt.mp h)]
/-- a set of the first n -/
def hset (n : Nat) (x : Int32) : Prop := ∀ d, d < 32 → n ≤ d → qtb x (nI d) = 0
theorem hset_and {n : Nat} {x : Int32} (h : hset n x) (y : Int32) : hset n (x &&& y) := fun d h1 h2 => (qtb_and h1).mpr (Or.inl (h d h1 h2))
theorem hset_all {n : Nat} (hn : n ≤ 6) : hset n (qall n) := by
  have : ∀ n, n < 7 → ∀ d, d < 32 → n ≤ d → qtb (qall n) (nI d) = 0 := by decide +kernel
  exact this n (by omega)
theorem hset_or {n : Nat} (hn : n ≤ 12) {x : Int32} (h : hset n x) {k : Nat} (hk : k < n) : hset n (x ||| qbit k) := fun d h1 h2 => (qtb_or h1).mpr ⟨h d h1 h2, (qtb_bit (by omega) h1).mpr (by omega)⟩
theorem hq_st {nP : Nat} (hP : nP ≤ 6) {B s lp : Int32} {f : Nat → Int32} (hlp : ∀ p, p < nP → (qtb lp (nI p) = 0 ↔ f (18 + p) < 0)) (hs : hset nP (f 24)) : qhst B s lp (f 24) = mst f (if B < mforce s then nP else 0) := by
  unfold qhst
  rw [hq_abs]
  by_cases h : mforce s ≤ B
  · rw [if_pos h, if_neg (Int32.not_lt.mpr h)]
    rfl
  · rw [if_neg h, if_pos (Int32.not_le.mp h)]
    apply qtb_ext
    intro d hd
    rw [qtb_and hd, hq_mst hd nP hP]
    by_cases hdn : d < nP
    · rw [hlp d hdn]
      simp [hdn]
    · have := hs d hd (by omega)
      simp [this]
theorem hq_fen {f : Nat → Int32} {a : Int32} : ∀ n, mfen f a n = true ↔ ∃ k, k < n ∧ f (12 + k) = a ∧ ¬ qtb (f 24) (nI k) = 0
  | 0 => by
    simp [mfen]
  | n + 1 => by
    unfold mfen
    rw [Bool.or_eq_true, hq_fen n]
    simp only [Bool.and_eq_true, decide_eq_true_eq]
    constructor
    · rintro (⟨k, h1, h2⟩ | h)
      · exact ⟨k, by omega, h2⟩
      · exact ⟨n, by omega, h⟩
    · rintro ⟨k, h1, h2⟩
      by_cases e : k = n
      · subst e; exact Or.inr h2
      · exact Or.inl ⟨k, by omega, h2⟩
theorem hq_fenced {cell : Nat → Int32} {st : Int32} {n : Nat} (hc : ∀ k, k < n → ∃ c, c < 12 ∧ cell k = nI c) {a : Nat} (ha : a < 12) : (¬ qtb (qfenced cell st n) (nI a) = 0) ↔ ∃ k, k < n ∧ cell k = nI a ∧ ¬ qtb st (nI k) = 0 := by
  unfold qfenced
  rw [qtb_qor (by omega)]
  constructor
  · intro h
    refine Classical.byContradiction (fun hn => h (fun k hk => ?_))
    by_cases h1 : qtb st (nI k) = 0
    · rw [if_pos h1]; exact qtb_0 (by omega)
    · rw [if_neg h1]
      obtain ⟨c, hc1, hc2⟩ := hc k hk
      rw [hc2]
      refine (qtb_bit (c := c) (by omega) (by omega)).mpr (fun e => hn ⟨k, hk, ?_, h1⟩)
      rw [hc2, e]
  · rintro ⟨k, hk, h1, h2⟩ h
    have := h k hk
    rw [if_neg h2, h1] at this
    exact (qtb_bit (c := a) (by omega) (by omega)).mp this rfl
theorem hq_kall {n a : Nat} (hn : n ≤ 12) (ha : a < n) : ¬ qtb (qall n) (nI a) = 0 := by
  have : ∀ n, n < 13 → ∀ a, a < n → ¬ qtb (qall n) (nI a) = 0 := by decide +kernel
  exact this n (by omega) a ha
/-- what an hour needs: the row f of the reference, and the class's rows beside it -/
def hR (nC nP : Nat) (cell : Nat → Int32) (lp : Int32) (t : (Nat → Int32) × Int32 × Int32) (f : Nat → Int32) : Prop :=
  (∀ k, k < nC → t.1 k = f k) ∧ (∀ k, k < nP → cell k = f (12 + k) ∧ ∃ c, c < 12 ∧ cell k = nI c) ∧ (∀ p, p < nP → (qtb lp (nI p) = 0 ↔ f (18 + p) < 0)) ∧ (t.2.1 = f 24 ∧ hset nP (f 24)) ∧ t.2.2 = f 35
theorem hq_hour {nC nP : Nat} (hC : nC ≤ 12) (hP : nP ≤ 6) {B s I lp : Int32} {cell : Nat → Int32} {t : (Nat → Int32) × Int32 × Int32} {f : Nat → Int32} (h : hR nC nP cell lp t f) : hR nC nP cell lp (qhour nC nP B cell s I lp t) (mhour nC nP B s I f) := by
  obtain ⟨h1, h2, h3, ⟨h4, h5⟩, h6⟩ := h
  have hst := hq_st (B := B) (s := s) hP h3 h5
  have e24 : mhour nC nP B s I f 24 = mst f (if B < mforce s then nP else 0) := by
    unfold mhour
    rw [upd_o _ _ (by decide), mrow2_out (by omega), mrow1, upd_s]
  refine ⟨?_, fun k hk => ?_, fun p hp => ?_, ⟨?_, ?_⟩, ?_⟩
  · intro k hk
    unfold qhour
    show (qbl nC (s - 9 < 0) I _ t.1 nC).1 k = _
    unfold mhour
    rw [upd_o _ _ (by omega), h4, hst]
    have hg : ∀ a, a < nC → t.1 a = mrow1 nP B s f a := fun a ha => by
      unfold mrow1
      rw [upd_o _ _ (by omega)]
      exact h1 a ha
    have g24 : mrow1 nP B s f 24 = mst f (if B < mforce s then nP else 0) := by unfold mrow1; rw [upd_s]
    have g12 : ∀ j, 12 ≤ j → j ≠ 24 → mrow1 nP B s f j = f j := fun j _ hj => by unfold mrow1; rw [upd_o _ _ hj]
    generalize mst f (if B < mforce s then nP else 0) = st at g24 ⊢
    generalize mrow1 nP B s f = g at hg g24 g12 ⊢
    unfold mrow2 qkeep
    by_cases hw : s - 9 = 0
    · rw [if_pos hw, if_pos hw]
      have hall := (hq_all (n := nC) (lft := s - 9 < 0) (I := I) (kp := fun a => ¬ qtb (qall nC) (nI a) = 0) (f := t.1) (by rw [hw]; decide) (fun a ha => hq_kall hC ha) nC (Nat.le_refl _)).1 k
      rw [hall, if_pos hk, qmap_in hk, hg k hk]
    · rw [if_neg hw, if_neg hw]
      refine (hq_bl (n := nC) (l1 := s - 9 < 0) (l2 := s - 9 ≤ 0) (I := I) ?_ (fun a ha => ?_) hg nC (Nat.le_refl _)).1 k hk
      · rw [Int32.le_iff_lt_or_eq]
        exact ⟨Or.inl, fun z => z.elim id (fun y => absurd y hw)⟩
      · rw [hq_fenced (fun k hk => (h2 k hk).2) (by omega), hq_fen]
        constructor
        · rintro ⟨k, hk1, hk2, hk3⟩
          exact ⟨k, hk1, by rw [g12 _ (by omega) (by omega), ← (h2 k hk1).1, hk2], by rw [g24]; exact hk3⟩
        · rintro ⟨k, hk1, hk2, hk3⟩
          rw [g12 _ (by omega) (by omega), ← (h2 k hk1).1] at hk2
          rw [g24] at hk3
          exact ⟨k, hk1, hk2, hk3⟩
  · rw [mhour_hi hC (by omega) (by omega) (by omega)]
    exact h2 k hk
  · rw [mhour_hi hC (by omega) (by omega) (by omega)]
    exact h3 p hp
  · rw [e24]
    show qhst B s lp t.2.1 = _
    rw [h4, hst]
  · rw [e24, ← hst]
    unfold qhst
    split
    · exact h5
    · exact hset_and h5 lp
  · rw [mhour_35 hC]
    show t.2.2 + 1 = _
    rw [h6]
/-- snow is from 0 to 9999 -/
def hsn (nC : Nat) (f : Nat → Int32) : Prop := ∀ a, a < nC → ∃ x, x ≤ 9999 ∧ f a = nI x
theorem hq_min9 {x : Nat} (h : x < 100000) : qmin9 (nI x) = nI (min x 9999) := by
  unfold qmin9
  show (if nI x < nI 9999 then nI x else nI 9999) = _
  by_cases h2 : x < 9999
  · rw [if_pos ((nI_ltI (by omega) (by omega)).mpr h2), Nat.min_eq_left (by omega)]
  · rw [if_neg (fun z => h2 ((nI_ltI (by omega) (by omega)).mp z)), Nat.min_eq_right (by omega)]
/-- snow only grows -/
def hgr (nC : Nat) (f g : Nat → Int32) : Prop := ∀ a, a < nC → ∃ x y, x ≤ y ∧ y ≤ 9999 ∧ f a = nI x ∧ g a = nI y
theorem hq_grow {n : Nat} {lft : Prop} [Decidable lft] {i : Nat} (hi : i ≤ 30) (hn : n ≤ 12) {kp : Nat → Prop} [DecidablePred kp] {f : Nat → Int32} (h : hsn n f) : ∀ k : Nat, k ≤ n → hgr n f (qbl n lft (nI i) kp f k).1 ∧ ∃ bl, bl ≤ 30 * k ∧ (qbl n lft (nI i) kp f k).2 = nI bl
  | 0, _ => ⟨fun a ha => by
      obtain ⟨x, hx, e⟩ := h a ha
      exact ⟨x, x, Nat.le_refl _, hx, e, e⟩, 0, by omega, rfl⟩
  | k + 1, hk => by
    obtain ⟨h1, bl, hb, h2⟩ := hq_grow (lft := lft) (kp := kp) hi hn h k (by omega)
    have ha : (if lft then n - 1 - k else k) < n := by
      by_cases z : lft
      · rw [if_pos z]; omega
      · rw [if_neg z]; omega
    simp only [qbl]
    generalize (if lft then n - 1 - k else k) = a at ha ⊢
    rw [h2, nI_add]
    have hke : ∃ kt, kt ≤ i + bl ∧ (if kp a then nI (i + bl) else nI (i + bl) / 2) = nI kt := by
      by_cases z : kp a
      · rw [if_pos z]; exact ⟨i + bl, Nat.le_refl _, rfl⟩
      · rw [if_neg z, show (2 : Int32) = nI 2 from rfl, pk_div (by omega) (by omega) (by omega)]
        exact ⟨(i + bl) / 2, by omega, rfl⟩
    obtain ⟨kt, hkt, e⟩ := hke
    rw [e]
    refine ⟨fun b hb2 => ?_, i + bl - kt, by omega, pk_sub hkt⟩
    obtain ⟨x, y, hxy, hy, e1, e2⟩ := h1 b hb2
    by_cases eb : b = a
    · subst eb
      rw [upd_s, e2, nI_add, hq_min9 (by omega)]
      exact ⟨x, min (y + kt) 9999, by omega, by omega, e1, rfl⟩
    · rw [upd_o _ _ eb]
      exact ⟨x, y, hxy, hy, e1, e2⟩
theorem hgr_hour {nC nP : Nat} (hC : nC ≤ 12) {B s lp : Int32} {i : Nat} (hi : i ≤ 30) {cell : Nat → Int32} {t : (Nat → Int32) × Int32 × Int32} (h : hsn nC t.1) : hgr nC t.1 (qhour nC nP B cell s (nI i) lp t).1 := (hq_grow hi hC h nC (Nat.le_refl _)).1
theorem hgr_sn {nC : Nat} {f g : Nat → Int32} (h : hgr nC f g) : hsn nC g := fun a ha => by
  obtain ⟨x, y, _, hy, _, e⟩ := h a ha
  exact ⟨y, hy, e⟩
theorem hgr_rf {nC : Nat} {f : Nat → Int32} (h : hsn nC f) : hgr nC f f := fun a ha => by
  obtain ⟨x, hx, e⟩ := h a ha
  exact ⟨x, x, Nat.le_refl _, hx, e, e⟩
theorem hgr_tr {nC : Nat} {f g h : Nat → Int32} (h1 : hgr nC f g) (h2 : hgr nC g h) : hgr nC f h := fun a ha => by
  obtain ⟨x, y, h3, h4, h5, h6⟩ := h1 a ha
  obtain ⟨x2, y2, h7, h8, h9, h10⟩ := h2 a ha
  have := (nI_eq (by omega) (by omega)).mp (h6.symm.trans h9)
  exact ⟨x, y2, by omega, h8, h5, h10⟩
theorem hgr_le {nC : Nat} {f g : Nat → Int32} (h : hgr nC f g) {a : Nat} (ha : a < nC) : f a ≤ g a := by
  obtain ⟨x, y, h3, h4, h5, h6⟩ := h a ha
  rw [h5, h6]
  exact nI_le h3 (by omega)
/-- winds that both sides have -/
def hW (nW : Nat) (s1 f1 s2 f2 : Nat → Int32) : Prop := ∀ k, k < nW → s1 k = s2 k ∧ f1 k = f2 k ∧ ∃ i, i ≤ 30 ∧ f1 k = nI i
theorem hq_wind {nW : Nat} (hb : nW ≤ 10) {s1 f1 s2 f2 : Nat → Int32} (h : hW nW s1 f1 s2 f2) {x : Nat} (hx : x < 2 ^ 31) : qwind nW s1 f1 (nI x) = qwind nW s2 f2 (nI x) ∧ ∃ i, i ≤ 30 ∧ (qwind nW s1 f1 (nI x)).2 = nI i := by
  unfold qwind
  by_cases h0 : nW = 0
  · rw [if_pos h0, if_pos h0]
    exact ⟨rfl, 0, by omega, rfl⟩
  · rw [if_neg h0, if_neg h0, pk_rem hx (by omega) (by omega), nI_clamp (Nat.lt_of_lt_of_le (Nat.mod_lt _ (by omega)) (by omega))]
    obtain ⟨e1, e2, e3⟩ := h (x % nW) (Nat.mod_lt _ (by omega))
    rw [e1, e2]
    exact ⟨rfl, by rw [← e2]; exact e3⟩
/-- n hours: the same on both sides, snow grows -/
theorem hq_pass {nC nP nW : Nat} (hC : nC ≤ 12) (hP : nP ≤ 6) (hWb : nW ≤ 10) {B lp : Int32} {cell s1 f1 s2 f2 : Nat → Int32} (hw : hW nW s1 f1 s2 f2) {t : (Nat → Int32) × Int32 × Int32} {f : Nat → Int32} (h : hR nC nP cell lp t f) (hs : hsn nC t.1) {x : Nat} (hx : t.2.2 = nI x) (hxb : x < 100000) : ∀ n, n < 100000 → hR nC nP cell lp (qpass nC nP nW B cell s1 f1 lp t n) (mpass nC nP nW B s2 f2 f n) ∧ hsn nC (qpass nC nP nW B cell s1 f1 lp t n).1 ∧ (qpass nC nP nW B cell s1 f1 lp t n).2.2 = nI (x + n)
  | 0, _ => ⟨h, hs, hx⟩
  | n + 1, hn => by
    obtain ⟨h1, h2, h3⟩ := hq_pass hC hP hWb (B := B) hw h hs hx hxb n (by omega)
    simp only [qpass, mpass]
    have h4 := h1.2.2.2.2
    rw [← h4, h3]
    obtain ⟨e1, i, hi, e2⟩ := hq_wind hWb hw (x := x + n) (by omega)
    rw [← e1]
    refine ⟨hq_hour hC hP h1, ?_, ?_⟩
    · rw [e2]
      exact hgr_sn (hgr_hour hC hi h2)
    · show (qpass nC nP nW B cell s1 f1 lp t n).2.2 + 1 = _
      rw [h3, nI_1]
      rfl
theorem hq_pgrow {nC nP nW : Nat} (hC : nC ≤ 12) (hP : nP ≤ 6) (hWb : nW ≤ 10) {B lp : Int32} {cell s1 f1 s2 f2 : Nat → Int32} (hw : hW nW s1 f1 s2 f2) {t : (Nat → Int32) × Int32 × Int32} {f : Nat → Int32} (h : hR nC nP cell lp t f) (hs : hsn nC t.1) {x : Nat} (hx : t.2.2 = nI x) (hxb : x < 100000) (m : Nat) : ∀ n, m + n < 100000 → hgr nC (qpass nC nP nW B cell s1 f1 lp t m).1 (qpass nC nP nW B cell s1 f1 lp t (m + n)).1
  | 0, hm => hgr_rf (hq_pass hC hP hWb hw h hs hx hxb m (by omega)).2.1
  | n + 1, hn => by
    refine hgr_tr (hq_pgrow hC hP hWb hw h hs hx hxb m n (by omega)) ?_
    obtain ⟨h1, h2, h3⟩ := hq_pass hC hP hWb (B := B) hw h hs hx hxb (m + n) (by omega)
    show hgr nC _ (qpass nC nP nW B cell s1 f1 lp t (m + n + 1)).1
    obtain ⟨e1, i, hi, e2⟩ := hq_wind hWb hw (x := x + (m + n)) (by omega)
    have e : qpass nC nP nW B cell s1 f1 lp t (m + n + 1) = qhour nC nP B cell (qwind nW s1 f1 (qpass nC nP nW B cell s1 f1 lp t (m + n)).2.2).1 (qwind nW s1 f1 (qpass nC nP nW B cell s1 f1 lp t (m + n)).2.2).2 lp (qpass nC nP nW B cell s1 f1 lp t (m + n)) := rfl
    rw [e, h3, e2]
    exact hgr_hour hC hi h2
theorem hq_open {road D : Int32} {f : Nat → Int32} {n : Nat} (hn : n ≤ 12) (hr : hset n road) : qopen road D f n = road ↔ ∀ a, a < n → ¬ qtb road (nI a) = 0 → f a ≤ D := by
  have hb : ∀ d, d < 32 → (qtb (qopen road D f n) (nI d) = 0 ↔ ¬ (d < n ∧ (¬ qtb road (nI d) = 0) ∧ f d ≤ D)) := by
    intro d hd
    unfold qopen
    rw [qtb_qor hd]
    constructor
    · rintro h ⟨h1, h2⟩
      have := h d h1
      rw [if_pos h2] at this
      exact (qtb_bit (by omega) hd).mp this rfl
    · intro h k hk
      by_cases h2 : (¬ qtb road (nI k) = 0) ∧ f k ≤ D
      · rw [if_pos h2]
        exact (qtb_bit (by omega) hd).mpr (fun e => h (by subst e; exact ⟨hk, h2⟩))
      · rw [if_neg h2]
        exact qtb_0 hd
  constructor
  · intro h a ha hq
    have := hb a (by omega)
    rw [h] at this
    by_cases hle : f a ≤ D
    · exact hle
    · exact absurd (this.mpr (fun z => hle z.2.2)) hq
  · intro h
    apply qtb_ext
    intro d hd
    rw [hb d hd]
    constructor
    · intro h1
      refine Classical.byContradiction (fun h2 => ?_)
      have hdn : d < n := by
        rcases Nat.lt_or_ge d n with h3 | h3
        · exact h3
        · exact absurd (hr d hd h3) h2
      exact h1 ⟨hdn, h2, h d hdn h2⟩
    · intro h1 h2
      exact h2.2.1 h1
theorem hq_stay {nC nP nW : Nat} (hC : nC ≤ 12) (hP : nP ≤ 6) (hWb : nW ≤ 10) {B D road lp : Int32} (hr : hset nC road) {cell s1 f1 s2 f2 : Nat → Int32} (hw : hW nW s1 f1 s2 f2) {t : (Nat → Int32) × Int32 × Int32} {f : Nat → Int32} (h : hR nC nP cell lp t f) (hs : hsn nC t.1) {x : Nat} (hx : t.2.2 = nI x) (hxb : x < 90000) {n : Nat} (hn : n ≤ 1000) : qstay nC nP nW B D road cell s1 f1 lp t n ↔ qopen road D (mpass nC nP nW B s2 f2 f n) nC = road := by
  have hp := hq_pass hC hP hWb (B := B) hw h hs hx (by omega) n (by omega)
  have e : qopen road D (qpass nC nP nW B cell s1 f1 lp t n).1 nC = qopen road D (mpass nC nP nW B s2 f2 f n) nC := qopen_cong hp.1.1
  rw [← e]
  unfold qstay
  constructor
  · intro h1
    exact h1 n (Nat.le_refl n)
  · intro h1 k hk
    rw [hq_open hC hr] at h1 ⊢
    intro a ha hq
    have hg := hq_pgrow hC hP hWb (B := B) hw h hs hx (by omega) k (n - k) (by omega)
    rw [show k + (n - k) = n by omega] at hg
    exact Int32.le_trans (hgr_le hg ha) (h1 a ha hq)
/-- what the posts of a set, let, do: both sides alike -/
theorem hq_opn {nC nP nW : Nat} (hC : nC ≤ 12) (hP : nP ≤ 6) (hWb : nW ≤ 10) {B D road : Int32} (hr : hset nC road) {cell s1 f1 s2 f2 : Nat → Int32} (hw : hW nW s1 f1 s2 f2) {sn : Nat → Int32} {f : Nat → Int32} (h1 : ∀ k, k < nC → sn k = f k) (h2 : ∀ k, k < nP → cell k = f (12 + k) ∧ ∃ c, c < 12 ∧ cell k = nI c) (hs : hsn nC sn) {x : Nat} {hrs : Int32} (h35 : hrs = f 35) (hx : hrs = nI x) (hxb : x < 90000) {n : Nat} (hn : n ≤ 1000) {m : Nat} (hm : m < 64) : qstay nC nP nW B D road cell s1 f1 (nI m) (sn, qall nP, hrs) n ↔ mopn nC nP nW B D road s2 f2 f n m := by
  refine hq_stay hC hP hWb hr hw ⟨fun k hk => ?_, fun k hk => ?_, fun p hp => ?_, ⟨?_, ?_⟩, ?_⟩ hs hx hxb hn
  · rw [upd_o _ _ (by omega)]
    unfold mput
    rw [if_neg (by omega)]
    exact h1 k hk
  · rw [upd_o _ _ (by omega)]
    unfold mput
    rw [if_neg (by omega)]
    exact h2 k hk
  · rw [upd_o _ _ (by omega)]
    unfold mput
    rw [if_pos (by omega), show 18 + p - 18 = p by omega]
    by_cases hq : qtb (nI m) (nI p) = 0
    · rw [if_pos hq]
      exact ⟨fun _ => by decide, fun _ => hq⟩
    · rw [if_neg hq]
      exact ⟨fun z => absurd z hq, fun z => absurd z (by decide)⟩
  · rw [upd_s]
  · rw [upd_s]
    exact hset_all hP
  · rw [upd_o _ _ (by decide)]
    unfold mput
    rw [if_neg (by omega)]
    exact h35
/-- the fewest: one answer -/
theorem mFew_uniq {Op Op' : Nat → Prop} {mm : Nat} (hm : mm ≤ 64) {r r' : Int32} (h : ∀ m, m < mm → (Op m ↔ Op' m)) (h1 : mFew Op mm r) (h2 : mFew Op' mm r') : r = r' := by
  rcases h1 with ⟨e1, h1⟩ | ⟨k, hk, e1, ho, h1⟩
  · rcases h2 with ⟨e2, h2⟩ | ⟨k2, hk2, e2, ho2, h2⟩
    · rw [e1, e2]
    · exact absurd ((h k2 hk2).mpr ho2) (h1 k2 hk2)
  · rcases h2 with ⟨e2, h2⟩ | ⟨k2, hk2, e2, ho2, h2⟩
    · exact absurd ((h k hk).mp ho) (h2 k hk)
    · have a1 := h1 k2 hk2 ((h k2 hk2).mpr ho2)
      have a2 := h2 k hk ((h k hk).mp ho)
      have : k = k2 := by omega
      rw [e1, e2, this]
/-! draws -/
theorem hq_draw {x : Nat} (hx : x < 2 ^ 31) : ∃ y, y < 2 ^ 31 ∧ qdraw (nI x) = nI y := by
  unfold qdraw
  rw [nI_l hx, show (1103515245 : Int64) = lN 1103515245 from rfl, show (12345 : Int64) = lN 12345 from rfl, show (2147483648 : Int64) = lN 2147483648 from rfl, lN_mul, lN_add, pk_lRem (by omega) (by omega) (by omega), lN_i]
  exact ⟨_, Nat.mod_lt _ (by omega), rfl⟩
theorem hq_rem {x n : Nat} (hx : x < 2 ^ 31) (hn : 0 < n) (hn2 : n < 1000) : qrem (nI x / 65536) (nI n) = nI (x / 65536 % n) := by
  unfold qrem
  rw [show (65536 : Int32) = nI 65536 from rfl, pk_div hx (by omega) (by omega), pk_rem (by omega) hn (by omega)]
theorem hq_drift {nC nP : Nat} (hC : nC ≤ 12) (hP : nP ≤ 6) {B lp : Int32} {cell : Nat → Int32} {t : (Nat → Int32) × Int32 × Int32} {f : Nat → Int32} {sd : Int32} (h : hR nC nP cell lp t f) (hs : hsn nC t.1) {x : Nat} (hx : t.2.2 = nI x) {y : Nat} (hy : y < 2 ^ 31) (hsd : sd = nI y) : ∀ n, hR nC nP cell lp (qdrift nC nP B cell lp (t, sd) n).1 (mdrift nC nP B (f, sd) n).1 ∧ (qdrift nC nP B cell lp (t, sd) n).2 = (mdrift nC nP B (f, sd) n).2 ∧ hsn nC (qdrift nC nP B cell lp (t, sd) n).1.1 ∧ (qdrift nC nP B cell lp (t, sd) n).1.2.2 = nI (x + n) ∧ ∃ z, z < 2 ^ 31 ∧ (qdrift nC nP B cell lp (t, sd) n).2 = nI z
  | 0 => ⟨h, rfl, hs, hx, y, hy, hsd⟩
  | n + 1 => by
    obtain ⟨h1, h2, h3, h4, z, hz, h5⟩ := hq_drift hC hP (B := B) h hs hx hy hsd n
    simp only [qdrift, mdrift]
    rw [← h2]
    generalize qdrift nC nP B cell lp (t, sd) n = u at *
    obtain ⟨z1, hz1, e1⟩ := hq_draw hz
    obtain ⟨z2, hz2, e2⟩ := hq_draw hz1
    refine ⟨hq_hour hC hP h1, rfl, ?_, ?_, z2, hz2, by rw [h5, e1, e2]⟩
    · rw [h5, e1, e2, show (11 : Int32) = nI 11 from rfl, hq_rem hz2 (by omega) (by omega)]
      exact hgr_sn (hgr_hour hC (by omega) h3)
    · show u.1.2.2 + 1 = _
      rw [h4, nI_1]
      rfl
