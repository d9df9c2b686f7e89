/-! the reference's ways to let: codes -/
def mdg (nP m p : Nat) : Nat := m / 6 ^ (nP - 1 - p) % 6
def mdv (d : Nat) : Int32 := if d = 5 then -1 else nI d
def mway (nP m : Nat) : Nat → Int32 := fun p => mdv (mdg nP m p)
def mG (nP nK m j : Nat) : Prop := ∀ q, j ≤ q → q < nP → (mdg nP m q = 5 ∨ (mdg nP m q < nK ∧ ∀ q', q < q' → q' < nP → ¬ mdg nP m q' = mdg nP m q))
def mT (nP m j : Nat) (tk : Int32) : Prop := ∀ c, c < 6 → (qtb tk (nI c) = 0 ↔ ∀ q, j ≤ q → q < nP → ¬ mdg nP m q = c)
theorem mdg_lt (nP m p : Nat) : mdg nP m p < 6 := Nat.mod_lt _ (by decide)
theorem mG_n (nP nK m : Nat) : mG nP nK m nP := fun q h1 h2 => by omega
theorem mT_n (nP m : Nat) : mT nP m nP 0 := fun c hc => ⟨fun _ q h1 h2 => by omega, fun _ => qtb_0 (by omega)⟩
theorem mG_step {nP nK m j : Nat} (hj : ¬ j = 0) (hjn : j ≤ nP) : mG nP nK m (j - 1) ↔ mG nP nK m j ∧ (mdg nP m (j - 1) = 5 ∨ (mdg nP m (j - 1) < nK ∧ ∀ q, j ≤ q → q < nP → ¬ mdg nP m q = mdg nP m (j - 1))) := by
  constructor
  · intro h
    refine ⟨fun q h1 h2 => h q (by omega) h2, ?_⟩
    rcases h (j - 1) (Nat.le_refl _) (by omega) with h3 | ⟨h3, h4⟩
    · exact Or.inl h3
    · exact Or.inr ⟨h3, fun q h5 h6 => h4 q (by omega) h6⟩
  · intro ⟨h1, h2⟩ q h3 h4
    by_cases e : q = j - 1
    · subst e
      rcases h2 with h5 | ⟨h5, h6⟩
      · exact Or.inl h5
      · exact Or.inr ⟨h5, fun q' h7 h8 => h6 q' (by omega) h8⟩
    · exact h1 q (by omega) h4
theorem mT_step {nP m j : Nat} {tk : Int32} (hj : ¬ j = 0) (hjn : j ≤ nP) (h : mT nP m j tk) : mT nP m (j - 1) (tk ||| qbit (mdg nP m (j - 1))) := by
  intro c hc
  have hd := mdg_lt nP m (j - 1)
  rw [qtb_or (by omega), h c hc, qtb_bit (by omega) (by omega)]
  constructor
  · intro ⟨h1, h2⟩ q h3 h4
    by_cases e : q = j - 1
    · subst e; exact fun z => h2 z.symm
    · exact h1 q (by omega) h4
  · intro h1
    exact ⟨fun q h2 h3 => h1 q (by omega) h3, fun z => h1 (j - 1) (Nat.le_refl _) (by omega) z.symm⟩
theorem mdg_at {nP m j lf : Nat} (hj : ¬ j = 0) (hjn : j ≤ nP) (h : lf = m / 6 ^ (nP - j)) : lf % 6 = mdg nP m (j - 1) := by
  unfold mdg
  rw [h, show nP - 1 - (j - 1) = nP - j by omega]
theorem mdg_next {nP m j lf : Nat} (hj : ¬ j = 0) (hjn : j ≤ nP) (h : lf = m / 6 ^ (nP - j)) : lf / 6 = m / 6 ^ (nP - (j - 1)) := by
  rw [h, Nat.div_div_eq_div_mul, show nP - (j - 1) = (nP - j) + 1 by omega, Nat.pow_succ]
theorem mway_cw (nP m p : Nat) : qcw 5 (mway nP m p) := by
  unfold mway mdv
  have := mdg_lt nP m p
  by_cases h : mdg nP m p = 5
  · rw [if_pos h]; exact Or.inl rfl
  · rw [if_neg h]; exact Or.inr ⟨_, by omega, rfl⟩
theorem qcw_neg {n : Nat} (hn : n ≤ 100) {x : Int32} (h : qcw n x) : x < 0 ↔ x = -1 := by
  rcases h with h | ⟨c, hc, h⟩
  · subst h; decide
  · subst h
    exact ⟨fun z => absurd z (nI_pos (by omega)), fun z => absurd z (nI_nm1 (by omega))⟩
theorem q6p {n : Nat} (h : n ≤ 6) : 1 ≤ 6 ^ n ∧ 6 ^ n ≤ 46656 := by
  have : ∀ n, n < 7 → 1 ≤ 6 ^ n ∧ 6 ^ n ≤ 46656 := by decide
  exact this n (by omega)
/-- crows on posts from a set -/
def mput (f : Nat → Int32) (m k : Nat) : Nat → Int32 := fun j => if 18 ≤ j ∧ j < 18 + k then (if qtb (nI m) (nI (j - 18)) = 0 then -1 else 0) else f j
theorem mput_0 (f : Nat → Int32) (m : Nat) : mput f m 0 = f := by
  funext j
  unfold mput
  rw [if_neg (by omega)]
theorem mput_s (f : Nat → Int32) (m k : Nat) (v : Int32) (hv : v = if qtb (nI m) (nI k) = 0 then -1 else 0) : upd (mput f m k) (18 + k) v = mput f m (k + 1) := by
  funext j
  subst hv
  by_cases h : j = 18 + k
  · subst h
    rw [upd_s]
    unfold mput
    rw [if_pos (show 18 ≤ 18 + k ∧ 18 + k < 18 + (k + 1) by omega), show 18 + k - 18 = k by omega]
  · rw [upd_o _ _ h]
    unfold mput
    by_cases h2 : 18 ≤ j ∧ j < 18 + k
    · rw [if_pos h2, if_pos (show 18 ≤ j ∧ j < 18 + (k + 1) by omega)]
    · rw [if_neg h2, if_neg (show ¬ (18 ≤ j ∧ j < 18 + (k + 1)) by omega)]
/-- does the road open, in the reference, where just the posts of m are let? -/
abbrev mopn (nC nP nW : Nat) (B D road : Int32) (strong fall f : Nat → Int32) (n m : Nat) : Prop := qopen road D (mpass nC nP nW B strong fall (upd (mput f m nP) 24 (qall nP)) n) nC = road
noncomputable def mbr (nP nK : Nat) (Op : Nat → Prop) (sp : (Nat → Int32) → Int32) (m : Nat) (br : Int32 × (Nat → Int32)) : Int32 × (Nat → Int32) := @ite _ (mG nP nK m 0 ∧ Op (qlets (mway nP m) nP).toNatClampNeg ∧ br.1 < sp (mway nP m)) (Classical.propDecidable _) (sp (mway nP m), qmap (fun k _ => mway nP m k) br.2 nP) br
theorem mbr_yes {nP nK : Nat} {Op : Nat → Prop} {sp : (Nat → Int32) → Int32} {m : Nat} {br : Int32 × (Nat → Int32)} (h : mG nP nK m 0 ∧ Op (qlets (mway nP m) nP).toNatClampNeg ∧ br.1 < sp (mway nP m)) : mbr nP nK Op sp m br = (sp (mway nP m), qmap (fun k _ => mway nP m k) br.2 nP) := if_pos h
theorem mbr_no {nP nK : Nat} {Op : Nat → Prop} {sp : (Nat → Int32) → Int32} {m : Nat} {br : Int32 × (Nat → Int32)} (h : ¬ (mG nP nK m 0 ∧ Op (qlets (mway nP m) nP).toNatClampNeg ∧ br.1 < sp (mway nP m))) : mbr nP nK Op sp m br = br := if_neg h
noncomputable def mfm (nP nK : Nat) (Op : Nat → Prop) (sp : (Nat → Int32) → Int32) (br : Int32 × (Nat → Int32)) : Nat → Int32 × (Nat → Int32)
  | 0 => br
  | m + 1 => mbr nP nK Op sp m (mfm nP nK Op sp br m)
noncomputable def mfs (nP nK : Nat) (F : (Nat → Int32) → Prop) (m : Nat) (br : Int32 × (Nat → Int32)) : Int32 × (Nat → Int32) := @ite _ (mG nP nK m 0 ∧ F (mway nP m)) (Classical.propDecidable _) (br.1 + 1, qmap (fun p x => x ||| ((1 : Int32) <<< ((if mway nP m p < 0 then 5 else mway nP m p) &&& 31))) br.2 nP) br
theorem mfs_yes {nP nK : Nat} {F : (Nat → Int32) → Prop} {m : Nat} {br : Int32 × (Nat → Int32)} (h : mG nP nK m 0 ∧ F (mway nP m)) : mfs nP nK F m br = (br.1 + 1, qmap (fun p x => x ||| ((1 : Int32) <<< ((if mway nP m p < 0 then 5 else mway nP m p) &&& 31))) br.2 nP) := if_pos h
theorem mfs_no {nP nK : Nat} {F : (Nat → Int32) → Prop} {m : Nat} {br : Int32 × (Nat → Int32)} (h : ¬ (mG nP nK m 0 ∧ F (mway nP m))) : mfs nP nK F m br = br := if_neg h
noncomputable def mfw (nP nK : Nat) (F : (Nat → Int32) → Prop) (br : Int32 × (Nat → Int32)) : Nat → Int32 × (Nat → Int32)
  | 0 => br
  | m + 1 => mfs nP nK F m (mfw nP nK F br m)
theorem qfits_s {k : Nat} {seen : Nat → Int32} {all : Int32} {way : Nat → Int32} : qfits (k + 1) seen all way ↔ qfits k seen all way ∧ (¬ seen k = 0 → qmay (seen k) all (way k)) := by
  constructor
  · intro h
    exact ⟨fun p hp => h p (by omega), h k (by omega)⟩
  · intro ⟨h1, h2⟩ p hp hs
    by_cases e : p = k
    · subst e; exact h2 hs
    · exact h1 p (by omega) hs
theorem qlets_cong {f g : Nat → Int32} {n : Nat} (h : ∀ p, p < n → f p = g p) : qlets f n = qlets g n := qor_cong n (fun k hk => by rw [h k hk])
theorem qlets_lt {f : Nat → Int32} : ∀ n, n ≤ 6 → ∃ m, m < 2 ^ n ∧ qlets f n = nI m
  | 0, _ => ⟨0, by decide, rfl⟩
  | n + 1, h => by
    obtain ⟨m, hm, e⟩ := qlets_lt n (by omega)
    have hp : 2 ^ (n + 1) = 2 * 2 ^ n := by rw [Nat.pow_succ]; omega
    show ∃ m, m < _ ∧ qlets f n ||| (if f n = -1 then 0 else qbit n) = nI m
    rw [e]
    by_cases hz : f n = -1
    · rw [if_pos hz, i32_or0]
      exact ⟨m, by omega, rfl⟩
    · rw [if_neg hz, qbit_nI (by omega), nI_or]
      exact ⟨_, Nat.or_lt_two_pow (by omega) (by rw [hp]; have := q2p (show n ≤ 6 by omega); omega), rfl⟩
theorem qspoons_cong {f g bid per view : Nat → Int32} {n : Nat} (h : ∀ p, p < n → f p = g p) : qspoons f bid per view n = qspoons g bid per view n := qsum_cong n (fun k hk => by rw [h k hk])
theorem qfits_way {nP : Nat} {seen : Nat → Int32} {all : Int32} {f g : Nat → Int32} (h : ∀ p, p < nP → f p = g p) : qfits nP seen all f ↔ qfits nP seen all g := by
  constructor <;> intro hq p hp hn
  · rw [← h p hp]; exact hq p hp hn
  · rw [h p hp]; exact hq p hp hn
theorem qbits_n {m : Nat} (h : m < 64) : qsum (fun k => qtb (nI m) (nI k)) 6 = nI (qbcn m) := by
  have : ∀ m, m < 64 → qsum (fun k => qtb (nI m) (nI k)) 6 = nI (qbcn m) := by decide +kernel
  exact this m h
def mFew (Op : Nat → Prop) (mm : Nat) (be : Int32) : Prop := (be = -1 ∧ ∀ m2, m2 < mm → ¬ Op m2) ∨ (∃ k, k < mm ∧ be = nI k ∧ Op k ∧ ∀ m2, m2 < mm → Op m2 → qbcn k < qbcn m2 ∨ (qbcn k = qbcn m2 ∧ k ≤ m2))
theorem mFew_skip {Op : Nat → Prop} {mm : Nat} {be : Int32} (h : mFew Op mm be) (hn : ¬ Op mm) : mFew Op (mm + 1) be := by
  rcases h with ⟨h1, h2⟩ | ⟨k, h1, h2, h3, h4⟩
  · refine Or.inl ⟨h1, fun m2 hm2 => ?_⟩
    by_cases e : m2 = mm
    · subst e; exact hn
    · exact h2 m2 (by omega)
  · refine Or.inr ⟨k, by omega, h2, h3, fun m2 hm2 ho => ?_⟩
    by_cases e : m2 = mm
    · subst e; exact absurd ho hn
    · exact h4 m2 (by omega) ho
theorem mFew_new {Op : Nat → Prop} {mm : Nat} (hm : mm < 64) {be : Int32} (h : mFew Op mm be) (hb : be < 0) (ho : Op mm) : mFew Op (mm + 1) (nI mm) := by
  rcases h with ⟨h1, h2⟩ | ⟨k, h1, h2, h3, h4⟩
  · refine Or.inr ⟨mm, by omega, rfl, ho, fun m2 hm2 ho2 => ?_⟩
    by_cases e : m2 = mm
    · subst e; exact Or.inr ⟨rfl, Nat.le_refl _⟩
    · exact absurd ho2 (h2 m2 (by omega))
  · subst h2
    exact absurd hb (nI_pos (by omega))
theorem mFew_keep {Op : Nat → Prop} {mm : Nat} (hm : mm < 64) {be : Int32} (h : mFew Op mm be) (hb : ¬ be < 0) (hc : qsum (fun k => qtb be (nI k)) 6 ≤ qsum (fun k => qtb (nI mm) (nI k)) 6) : mFew Op (mm + 1) be := by
  rcases h with ⟨h1, h2⟩ | ⟨k, h1, h2, h3, h4⟩
  · subst h1; exact absurd (by decide) hb
  · subst h2
    refine Or.inr ⟨k, by omega, rfl, h3, fun m2 hm2 ho => ?_⟩
    by_cases e : m2 = mm
    · subst e
      rw [qbits_n (by omega), qbits_n hm] at hc
      have := (nI_leI (Nat.lt_of_le_of_lt (qbcn_ok (show k < 64 by omega)).2 (by decide)) (Nat.lt_of_le_of_lt (qbcn_ok hm).2 (by decide))).mp hc
      omega
    · exact h4 m2 (by omega) ho
theorem mFew_less {Op : Nat → Prop} {mm : Nat} (hm : mm < 64) {be : Int32} (h : mFew Op mm be) (hb : ¬ be < 0) (hc : qsum (fun k => qtb (nI mm) (nI k)) 6 < qsum (fun k => qtb be (nI k)) 6) (ho : Op mm) : mFew Op (mm + 1) (nI mm) := by
  rcases h with ⟨h1, h2⟩ | ⟨k, h1, h2, h3, h4⟩
  · subst h1; exact absurd (by decide) hb
  · subst h2
    rw [qbits_n hm, qbits_n (show k < 64 by omega)] at hc
    have h5 := (nI_ltI (Nat.lt_of_le_of_lt (qbcn_ok hm).2 (by decide)) (Nat.lt_of_le_of_lt (qbcn_ok (show k < 64 by omega)).2 (by decide))).mp hc
    refine Or.inr ⟨mm, by omega, rfl, ho, fun m2 hm2 ho2 => ?_⟩
    by_cases e : m2 = mm
    · subst e; exact Or.inr ⟨rfl, Nat.le_refl _⟩
    · have := h4 m2 (by omega) ho2
      omega
