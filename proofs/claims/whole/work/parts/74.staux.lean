/-! what both sides read off alike -/
theorem qor_tail {f g : Nat → Int32} {n : Nat} (h : ∀ k, k < n → f k = g k) : ∀ m, (∀ k, n ≤ k → k < n + m → f k = 0) → qor f (n + m) = qor g n
  | 0, _ => qor_cong n h
  | m + 1, hz => by
    show qor f (n + m) ||| f (n + m) = _
    rw [qor_tail h m (fun k h1 h2 => hz k h1 (by omega)), hz (n + m) (by omega) (by omega), i32_or0]
theorem qsum_tail {f g : Nat → Int32} {n : Nat} (h : ∀ k, k < n → f k = g k) : ∀ m, (∀ k, n ≤ k → k < n + m → f k = 0) → qsum f (n + m) = qsum g n
  | 0, _ => qsum_cong n h
  | m + 1, hz => by
    show qsum f (n + m) + f (n + m) = _
    rw [qsum_tail h m (fun k h1 h2 => hz k h1 (by omega)), hz (n + m) (by omega) (by omega), Int32.add_zero]
theorem qtb_lets {f : Nat → Int32} {p : Nat} (hp : p < 6) : qtb (qlets f 6) (nI p) = 0 ↔ f p = -1 := by
  unfold qlets
  rw [qtb_qor (by omega)]
  constructor
  · intro h
    have := h p hp
    by_cases e : f p = -1
    · exact e
    · rw [if_neg e] at this
      exact absurd rfl ((qtb_bit (by omega) (by omega)).mp this)
  · intro h k hk
    by_cases e : f k = -1
    · rw [if_pos e]; exact qtb_0 (by omega)
    · rw [if_neg e]
      exact (qtb_bit (by omega) (by omega)).mpr (fun z => e (by rw [← z]; exact h))
theorem rWin_let {nC nP nK : Nat} (hP : nP ≤ 6) (hK : nK ≤ 5) {sn ce cr bi pa f : Nat → Int32} {st hr sp : Int32} (h : rWin nC nP nK sn ce cr bi pa st hr sp f) {k : Nat} (hk : k < nP) : cr k = -1 ↔ f (18 + k) < 0 := by
  obtain ⟨_, _, ⟨a4, a5, a6, a7⟩, _⟩ := h
  rw [← a4 k hk]
  exact (qcw_neg (by omega) (a5 k (by omega))).symm
theorem rWin_lets {nC nP nK : Nat} (hP : nP ≤ 6) (hK : nK ≤ 5) {sn ce cr bi pa f : Nat → Int32} {st hr sp : Int32} (h : rWin nC nP nK sn ce cr bi pa st hr sp f) : qlets cr 6 = mlet f nP := by
  unfold qlets mlet
  rw [show 6 = nP + (6 - nP) by omega]
  refine qor_tail (fun k hk => ?_) (6 - nP) (fun k h1 h2 => ?_)
  · have := rWin_let hP hK h hk
    by_cases e : cr k = -1
    · rw [if_pos e, if_pos (this.mp e)]
    · rw [if_neg e, if_neg (fun z => e (this.mpr z))]
  · rw [if_pos (h.2.2.1.2.2.1 k h1 (by omega))]
theorem rWin_hR {nC nP nK : Nat} (hC : nC ≤ 12) (hP : nP ≤ 6) (hK : nK ≤ 5) {sn ce cr bi pa f : Nat → Int32} {st hr sp : Int32} (h : rWin nC nP nK sn ce cr bi pa st hr sp f) : hR nC nP ce (qlets cr 6) (sn, st, hr) f ∧ hsn nC sn := by
  have hl := fun k hk => rWin_let hP hK h (k := k) hk
  obtain ⟨⟨a1, a2⟩, a3, ⟨a4, a5, a6, a7⟩, a8, a9, ⟨a10, a10'⟩, a11, a12⟩ := h
  refine ⟨⟨fun k hk => (a1 k hk).1, fun k hk => ?_, fun p hp => ?_, ⟨a10, a10 ▸ a10'⟩, a11.1⟩, fun k hk => (a1 k hk).2⟩
  · obtain ⟨e, c, hc, e2⟩ := a3 k hk
    exact ⟨e, c, by omega, e2⟩
  · rw [qtb_lets (by omega)]
    exact hl p hp
theorem rWin_sum {nC nP nK : Nat} (hC : nC ≤ 12) {sn ce cr bi pa f : Nat → Int32} {st hr sp : Int32} (h : rWin nC nP nK sn ce cr bi pa st hr sp f) : qsum sn 12 = qsum f nC := by
  rw [show 12 = nC + (12 - nC) by omega]
  exact qsum_tail (fun k hk => (h.1.1 k hk).1) (12 - nC) (fun k h1 h2 => h.1.2 k h1 (by omega))
theorem qfind_is {f : Nat → Int32} {c : Int32} : ∀ (n s k : Nat), s ≤ k → k < s + n → f k = c → (∀ j, s ≤ j → j < k → ¬ f j = c) → qfind f c s n = nI k
  | 0, s, k, h1, h2, _, _ => by omega
  | n + 1, s, k, h1, h2, h3, h4 => by
    unfold qfind
    by_cases e : s = k
    · subst e; rw [if_pos h3]
    · rw [if_neg (h4 s (Nat.le_refl _) (by omega))]
      exact qfind_is n (s + 1) k (by omega) (by omega) h3 (fun j h5 h6 => h4 j (by omega) h6)
theorem qfind_cong {f g : Nat → Int32} {c : Int32} : ∀ (n s : Nat), (∀ j, s ≤ j → j < s + n → f j = g j) → qfind f c s n = qfind g c s n
  | 0, _, _ => rfl
  | n + 1, s, h => by
    unfold qfind
    rw [h s (Nat.le_refl _) (by omega), qfind_cong n (s + 1) (fun j h1 h2 => h j (by omega) (by omega))]
theorem qfree_cong {f g : Nat → Int32} {nC nP : Nat} {c : Int32} (h : ∀ j, j < nP → f j = g j) : qfree f nC nP c = qfree g nC nP c := by
  unfold qfree
  rw [qfind_cong nP 0 (fun j _ hj => h j (by omega))]
theorem mpost_is {f : Nat → Int32} {c : Int32} : ∀ (n k : Nat), k < n → f (18 + k) = c → (∀ j, k < j → j < n → ¬ f (18 + j) = c) → mpost f c n = nI k
  | 0, k, h, _, _ => by omega
  | n + 1, k, h, h2, h3 => by
    unfold mpost
    by_cases e : k = n
    · subst e; rw [if_pos h2]
    · rw [if_neg (h3 n (by omega) (by omega))]
      exact mpost_is n k (by omega) h2 (fun j h4 h5 => h3 j h4 (by omega))
theorem mpost_no {f : Nat → Int32} {c : Int32} : ∀ (n : Nat), (∀ j, j < n → ¬ f (18 + j) = c) → mpost f c n = -1
  | 0, _ => rfl
  | n + 1, h => by
    unfold mpost
    rw [if_neg (h n (by omega))]
    exact mpost_no n (fun j hj => h j (by omega))
theorem rWin_post {nC nP nK : Nat} (hP : nP ≤ 6) (hK : nK ≤ 5) {sn ce cr bi pa f : Nat → Int32} {st hr sp : Int32} (h : rWin nC nP nK sn ce cr bi pa st hr sp f) {c : Nat} (hc : c < nK) : qfind cr (nI c) 0 6 = mpost f (nI c) nP := by
  obtain ⟨_, _, ⟨a4, a5, a6, a7⟩, _⟩ := h
  by_cases he : ∃ k, k < 6 ∧ cr k = nI c
  · obtain ⟨k, hk, e⟩ := he
    have hkn : k < nP := by
      rcases Nat.lt_or_ge k nP with h | h
      · exact h
      · exact absurd ((a6 k h hk).symm.trans e).symm (nI_nm1 (by omega))
    have hu : ∀ j, j < 6 → ¬ j = k → ¬ cr j = nI c := fun j hj hne z => hne (a7 j k hj hk (z.trans e.symm) (by rw [z]; exact nI_nm1 (by omega)))
    rw [qfind_is 6 0 k (by omega) (by omega) e (fun j _ hj => hu j (by omega) (by omega)), mpost_is nP k hkn (by rw [← a4 k hkn]; exact e) (fun j h1 h2 => by rw [← a4 j h2]; exact hu j (by omega) (by omega))]
  · rw [(qfind_m1 (f := cr) (c := nI c) 6 0 (by omega)).mpr (fun j _ hj z => he ⟨j, by omega, z⟩), mpost_no nP (fun j hj z => he ⟨j, by omega, by rw [a4 j hj]; exact z⟩)]
theorem qir_some {a : Int32} {lo hi k : Nat} (hl : lo < 100000) (hh : hi < 100000) (h : qir a lo hi = some k) : lo ≤ k ∧ k ≤ hi ∧ a = nI k := by
  unfold qir at h
  by_cases hz : nI lo ≤ a ∧ a ≤ nI hi
  · rw [if_pos hz] at h
    cases h
    obtain ⟨j, h1, h2, rfl⟩ := qin_of (l := lo) (h := hi) rfl rfl hl hh hz
    rw [nI_clamp (by omega)]
    exact ⟨h1, h2, rfl⟩
  · rw [if_neg hz] at h
    cases h
theorem qix_some {a : Int32} {n k : Nat} (hn : n < 100000) (h : qix a n = some k) : k < n ∧ a = nI k := by
  unfold qix at h
  by_cases h0 : n = 0
  · rw [if_pos h0] at h; cases h
  · rw [if_neg h0] at h
    obtain ⟨_, h2, h3⟩ := qir_some (by omega) (by omega) h
    exact ⟨by omega, h3⟩
theorem elim_ix {a : Int32} {n : Nat} (hn : n < 100000) {d : Int32} {f g : Nat → Int32} (h : ∀ k, k < n → a = nI k → f k = g k) : (qix a n).elim d f = (qix a n).elim d g := by
  cases e : qix a n with
  | none => rfl
  | some k =>
    obtain ⟨h1, h2⟩ := qix_some hn e
    exact h k h1 h2
theorem elim_ir {a : Int32} {lo hi : Nat} (hl : lo < 100000) (hh : hi < 100000) {d : Int32} {f g : Nat → Int32} (h : ∀ k, lo ≤ k → k ≤ hi → a = nI k → f k = g k) : (qir a lo hi).elim d f = (qir a lo hi).elim d g := by
  cases e : qir a lo hi with
  | none => rfl
  | some k =>
    obtain ⟨h1, h2, h3⟩ := qir_some hl hh e
    exact h k h1 h2 h3
/-- the parts of what is tied -/
theorem Rl_bd {nC nP nK nW nw nc : Nat} {S A : qA2} {b : qB} (h : Rl nC nP nK nW nw nc S A b) : nC ≤ 12 ∧ nP ≤ 6 ∧ nK ≤ 5 ∧ nW ≤ 10 := h.2.2.2.1.1
theorem Rl_hr {nC nP nK nW nw nc : Nat} {S A : qA2} {b : qB} (h : Rl nC nP nK nW nw nc S A b) : ∃ x, x ≤ 9060 ∧ S 3 6 = nI x ∧ A 193 35 = nI x := by
  obtain ⟨hb, h1, h2, h3, h4, h5⟩ := h
  obtain ⟨e, x, hx, e2⟩ := h4.2.2.2.2.2.2.1
  exact ⟨x, hx, e2, e ▸ e2⟩
theorem Rl_pass {nC nP nK nW nw nc : Nat} {S A : qA2} {b : qB} (h : Rl nC nP nK nW nw nc S A b) (h0 : ¬ nC = 0) {n : Nat} (hn : n ≤ 1000) : hR nC nP (A 5) (qlets (A 6) 6) (qpass nC nP nW (S b.1 1) (A 5) (A (b.1 + 5)) (A (b.1 + 6)) (qlets (A 6) 6) (A 4, S 3 5, S 3 6) n) (mpass nC nP nW (S 188 1) (A 191) (A 192) (A 193) n) ∧ hsn nC (qpass nC nP nW (S b.1 1) (A 5) (A (b.1 + 5)) (A (b.1 + 6)) (qlets (A 6) 6) (A 4, S 3 5, S 3 6) n).1 ∧ ∃ x, S 3 6 = nI x ∧ x ≤ 9060 ∧ (qpass nC nP nW (S b.1 1) (A 5) (A (b.1 + 5)) (A (b.1 + 6)) (qlets (A 6) 6) (A 4, S 3 5, S 3 6) n).2.2 = nI (x + n) := by
  obtain ⟨x, hx, e1, e2⟩ := Rl_hr h
  obtain ⟨hC, hP, hK, hW⟩ := Rl_bd h
  obtain ⟨hb, h1, h2, h3, h4, h5⟩ := h
  obtain ⟨c0, c1, c2, c3, c4, c5, c6, c7⟩ := h3
  have hh := rWin_hR hC hP hK h4
  rw [(c4 h0).1]
  have := hq_pass hC hP hW (B := S 188 1) c7 hh.1 hh.2 (x := x) e1 (by omega) n (by omega)
  exact ⟨this.1, this.2.1, x, e1, hx, this.2.2⟩
theorem Rl_opn {nC nP nK nW nw nc : Nat} {S A : qA2} {b : qB} (h : Rl nC nP nK nW nw nc S A b) {n : Nat} (hn : n ≤ 1000) {m : Nat} (hm : m < 64) : qstay nC nP nW (S b.1 1) (S b.1 2) (S b.1 3) (A 5) (A (b.1 + 5)) (A (b.1 + 6)) (nI m) (A 4, qall nP, S 3 6) n ↔ mopn nC nP nW (S 188 1) (S 188 2) (S 188 3) (A 191) (A 192) (A 193) n m := by
  obtain ⟨x, hx, e1, e2⟩ := Rl_hr h
  obtain ⟨hC, hP, hK, hW⟩ := Rl_bd h
  obtain ⟨hb, h1, h2, h3, h4, h5⟩ := h
  obtain ⟨c0, c1, c2, c3, c4, c5, c6, c7⟩ := h3
  have hh := rWin_hR hC hP hK h4
  rw [← c3.1]
  by_cases h0 : nC = 0
  · subst h0
    unfold qstay
    have q0 : ∀ (r D : Int32) (f : Nat → Int32), qopen r D f 0 = 0 := fun _ _ _ => rfl
    constructor
    · intro h
      exact (q0 _ _ _).trans ((q0 _ _ _).symm.trans (h n (Nat.le_refl _)))
    · intro h k _
      exact (q0 _ _ _).trans ((q0 _ _ _).symm.trans h)
  · rw [(c4 h0).1, (c4 h0).2]
    exact hq_opn hC hP hW c3.2 c7 hh.1.1 hh.1.2.1 hh.2 (x := x) (e1.trans e2.symm) e1 (by omega) hn hm
theorem ite15 {a z : Int32} {x0 y0 x1 y1 x2 y2 x3 y3 x4 y4 x5 y5 x6 y6 x7 y7 x8 y8 x9 y9 x10 y10 x11 y11 x12 y12 x13 y13 x14 y14 : Int32} (h0 : x0 = y0) (h1 : x1 = y1) (h2 : x2 = y2) (h3 : x3 = y3) (h4 : x4 = y4) (h5 : x5 = y5) (h6 : x6 = y6) (h7 : x7 = y7) (h8 : x8 = y8) (h9 : x9 = y9) (h10 : x10 = y10) (h11 : x11 = y11) (h12 : x12 = y12) (h13 : x13 = y13) (h14 : x14 = y14) : (if a = 0 then x0 else if a = 1 then x1 else if a = 2 then x2 else if a = 3 then x3 else if a = 4 then x4 else if a = 5 then x5 else if a = 6 then x6 else if a = 7 then x7 else if a = 8 then x8 else if a = 9 then x9 else if a = 10 then x10 else if a = 11 then x11 else if a = 12 then x12 else if a = 13 then x13 else if a = 14 then x14 else z) = (if a = 0 then y0 else if a = 1 then y1 else if a = 2 then y2 else if a = 3 then y3 else if a = 4 then y4 else if a = 5 then y5 else if a = 6 then y6 else if a = 7 then y7 else if a = 8 then y8 else if a = 9 then y9 else if a = 10 then y10 else if a = 11 then y11 else if a = 12 then y12 else if a = 13 then y13 else if a = 14 then y14 else z) := by
  subst h0 h1 h2 h3 h4 h5 h6 h7 h8 h9 h10 h11 h12 h13 h14
  rfl
