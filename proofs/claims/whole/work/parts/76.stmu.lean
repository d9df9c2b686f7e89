/-! calls that change something: help -/
theorem i32_lt_sub {x t : Nat} (hx : x ≤ 9999) (ht : t ≤ 99) : (if 0 < nI x - nI t then nI x - nI t else 0) = nI (x - t) ∧ (if nI t < nI x then nI x - nI t else 0) = nI (x - t) := by
  by_cases h : t < x
  · rw [pk_sub (by omega), if_pos (show (0 : Int32) < nI (x - t) from nI_lt (a := 0) (by omega) (by omega)), if_pos (nI_lt h (by omega))]
    exact ⟨rfl, rfl⟩
  · rw [if_neg (nI_nlt (by omega) (by omega)), show x - t = 0 by omega]
    refine ⟨?_, rfl⟩
    have h0 : ¬ (0 : Int32) < nI x - nI t := by
      intro z
      by_cases e : x = t
      · subst e
        rw [Int32.sub_self] at z
        exact absurd z (by decide)
      · have e1 : nI x - nI t = -(nI (t - x)) := by
          rw [← pk_sub (show x ≤ t by omega), Int32.neg_sub]
        rw [e1] at z
        have hz : ∀ d, d < 100 → ¬ (0 : Int32) < -(nI d) := by decide +kernel
        exact hz (t - x) (by omega) z
    rw [if_neg h0]
    rfl
theorem i32_shout {x : Nat} (hx : x ≤ 99) : (if 0 < nI x - 1 then nI x - 1 else 0) = nI (x - 1) ∧ nI x - (if 0 < nI x then 1 else 0) = nI (x - 1) := by
  have : ∀ x, x < 100 → (if 0 < nI x - 1 then nI x - 1 else 0) = nI (x - 1) ∧ nI x - (if 0 < nI x then 1 else 0) = nI (x - 1) := by decide +kernel
  exact this x (by omega)
theorem qfind_or {f : Nat → Int32} {c : Int32} : ∀ (n s : Nat), qfind f c s n = -1 ∨ ∃ k, k < s + n ∧ qfind f c s n = nI k
  | 0, s => Or.inl rfl
  | n + 1, s => by
    unfold qfind
    by_cases e : f s = c
    · rw [if_pos e]; exact Or.inr ⟨s, by omega, rfl⟩
    · rw [if_neg e]
      rcases qfind_or (f := f) (c := c) n (s + 1) with h | ⟨k, hk, h⟩
      · exact Or.inl h
      · exact Or.inr ⟨k, by omega, h⟩
theorem qfind_neg {f : Nat → Int32} {c : Int32} {n : Nat} (hn : n ≤ 100) : qfind f c 0 n < 0 ↔ qfind f c 0 n = -1 := by
  rcases qfind_or (f := f) (c := c) n 0 with h | ⟨k, hk, h⟩
  · rw [h]; decide
  · rw [h]
    exact ⟨fun z => absurd z (nI_pos (by omega)), fun z => absurd z (nI_nm1 (by omega))⟩
theorem qfree_val {f : Nat → Int32} {nC nP : Nat} (hC : nC ≤ 12) {x : Int32} (hz : ¬ qfree f nC nP x = -1) : qfree f nC nP x = x ∧ ∃ c, c < nC ∧ x = nI c := by
  unfold qfree at hz ⊢
  by_cases g1 : x < 0 ∨ nI nC ≤ x
  · rw [if_pos g1] at hz
    exact absurd rfl hz
  · rw [if_neg g1] at hz ⊢
    by_cases g2 : qfind f x 0 nP = -1
    · rw [if_pos g2]
      refine ⟨rfl, ?_⟩
      obtain ⟨j, hj, e⟩ := nI_of (fun z => g1 (Or.inl z))
      refine ⟨j, ?_, e⟩
      rcases Nat.lt_or_ge j nC with g | g
      · exact g
      · exact absurd (Or.inr (by rw [e]; exact (nI_leI (by omega) hj).mpr g)) g1
    · rw [if_neg g2] at hz
      exact absurd rfl hz
theorem qhour_out {nC nP : Nat} {B s I lp : Int32} {cell : Nat → Int32} {t : (Nat → Int32) × Int32 × Int32} {a : Nat} (ha : nC ≤ a) : (qhour nC nP B cell s I lp t).1 a = t.1 a := qbl_out nC (Nat.le_refl _) a ha
theorem qpass_out {nC nP nW : Nat} {B lp : Int32} {cell strong fall : Nat → Int32} {t : (Nat → Int32) × Int32 × Int32} {a : Nat} (ha : nC ≤ a) : ∀ n, (qpass nC nP nW B cell strong fall lp t n).1 a = t.1 a
  | 0 => rfl
  | n + 1 => by
    simp only [qpass]
    rw [qhour_out ha, qpass_out ha n]
theorem qdrift_out {nC nP : Nat} {B lp : Int32} {cell : Nat → Int32} {t : ((Nat → Int32) × Int32 × Int32) × Int32} {a : Nat} (ha : nC ≤ a) : ∀ n, (qdrift nC nP B cell lp t n).1.1 a = t.1.1 a
  | 0 => rfl
  | n + 1 => by
    simp only [qdrift]
    rw [qhour_out ha, qdrift_out ha n]
theorem mdrift_hi {nC nP : Nat} (hC : nC ≤ 12) {B : Int32} {t : (Nat → Int32) × Int32} {a : Nat} (ha : 12 ≤ a) (h1 : a ≠ 24) (h2 : a ≠ 35) : ∀ n, (mdrift nC nP B t n).1 a = t.1 a
  | 0 => rfl
  | n + 1 => by
    simp only [mdrift]
    rw [mhour_hi hC ha h1 h2]
    exact mdrift_hi hC ha h1 h2 n
theorem rWin_hours {nC nP nK : Nat} (hC : nC ≤ 12) (hP : nP ≤ 6) (hK : nK ≤ 5) {sn ce cr bi pa f sn' f' : Nat → Int32} {st hr sp st' hr' : Int32} (h : rWin nC nP nK sn ce cr bi pa st hr sp f) (h1 : hR nC nP ce (qlets cr 6) (sn', st', hr') f') (h2 : hsn nC sn') {x : Nat} (h3 : hr' = nI x) (hx : x ≤ 9060) (h4 : ∀ a, nC ≤ a → sn' a = sn a) (h5 : ∀ a, 12 ≤ a → a ≠ 24 → a ≠ 35 → f' a = f a) : rWin nC nP nK sn' ce cr bi pa st' hr' sp f' := by
  obtain ⟨⟨a1, a2⟩, a3, ⟨a4, a5, a6, a7⟩, a8, a9, ⟨a10, a10'⟩, a11, a12⟩ := h
  obtain ⟨b1, b2, b3, ⟨b4, b5⟩, b6⟩ := h1
  refine ⟨⟨fun k hk => ⟨b1 k hk, h2 k hk⟩, fun k hk hk2 => (h4 k hk).trans (a2 k hk hk2)⟩, fun k hk => ?_, ⟨fun k hk => ?_, a5, a6, a7⟩, fun k hk => ?_, fun k hk => ?_, ⟨b4, by rw [show st' = f' 24 from b4]; exact b5⟩, ⟨b6, x, hx, h3⟩, ?_⟩
  · rw [h5 _ (by omega) (by omega) (by omega)]; exact a3 k hk
  · rw [h5 _ (by omega) (by omega) (by omega)]; exact a4 k hk
  · rw [h5 _ (by omega) (by omega) (by omega)]; exact a8 k hk
  · rw [h5 _ (by omega) (by omega) (by omega)]; exact a9 k hk
  · rw [h5 _ (by omega) (by omega) (by omega)]; exact a12
theorem rPast_note {nC nP nK nw nc : Nat} (hC : nC ≤ 12) (hP : nP ≤ 6) (hK : nK ≤ 5) {S A S1 A1 S2 A2 : qA2} (h : rPast nC nP nK nw nc S A) (hN : rNow nC nP nK S A) (h1 : qNoted nw nc S A S1 A1) (e193 : A1 193 = A 193) (e202 : A1 202 = A 202) (h2 : mNoted nc S1 A1 S2 A2) (e15 : S2 15 = S1 15) (e : ∀ j, 16 < j → j < 137 → S2 j = S1 j ∧ A2 j = A1 j) : rPast nC nP nK ((nw + 1) % 20) (min (nc + 1) 20) S2 A2 := by
  obtain ⟨⟨a1, a1'⟩, a2, a3⟩ := h
  obtain ⟨h1a, h1b, h1c, h1d⟩ := h1 _ rfl
  obtain ⟨h2a, h2b, h2c⟩ := h2
  have hm0 : (nw + 1) % 20 < 20 := Nat.mod_lt _ (by omega)
  refine ⟨⟨hm0, by omega⟩, ⟨by rw [e15]; exact h1b.1, by rw [e15]; exact h1b.2, h2a⟩, fun j hj w hw => ?_⟩
  have hm1 : ((nw + 1) % 20 + 20 - (min (nc + 1) 20 - 1 - j)) % 20 < 20 := Nat.mod_lt _ (by omega)
  rw [(e (w + 1) (by omega) (by omega)).2, (e (w + 2) (by omega) (by omega)).2, (e (w + 3) (by omega) (by omega)).2, (e (w + 4) (by omega) (by omega)).2, (e (w + 5) (by omega) (by omega)).2, (e w (by omega) (by omega)).1]
  by_cases ej : j = min nc 19
  · have ew : w = 17 + 6 * ((nw + 1) % 20) := by
      rw [hw]
      congr 2
      omega
    rw [← ew] at h1a
    obtain ⟨⟨g1, g2, g3, g4, g5⟩, g6, g7, g8⟩ := h1a
    refine rWin_cg hC hP hK hN g1 g2 g3 g4 g5 g6 g7 g8 (fun k hk => ?_)
    show A2 202 (37 * j + k) = A 193 k
    rw [ej, h2b k hk, e193]
  · have hjn : j < min nc 19 := by omega
    have hne : ¬ ((nw + 1) % 20 + 20 - (min (nc + 1) 20 - 1 - j)) % 20 = (nw + 1) % 20 := by omega
    rw [h1c (w + 1) (by omega) (by omega) (by omega), h1c (w + 2) (by omega) (by omega) (by omega), h1c (w + 3) (by omega) (by omega) (by omega), h1c (w + 4) (by omega) (by omega) (by omega), h1c (w + 5) (by omega) (by omega) (by omega), h1d w (by omega) (by omega) (by omega)]
    have hold := a3 (j + (if nc = 20 then 1 else 0)) (by split <;> omega) w (by
      rw [hw]
      congr 2
      split <;> omega)
    refine rWin_cg hC hP hK hold (fun _ _ => rfl) (fun _ _ => rfl) (fun _ _ => rfl) (fun _ _ => rfl) (fun _ _ => rfl) rfl rfl rfl (fun k hk => ?_)
    show A2 202 (37 * j + k) = A 202 (37 * (j + (if nc = 20 then 1 else 0)) + k)
    rw [h2c j hjn k hk, e202]
/-- a call that is noted, on both sides: all is tied again if the winters that are now are -/
theorem Rl_noted {nC nP nK nW nw nc : Nat} {S A S1 A1 S2 A2 : qA2} {b : qB} (h : Rl nC nP nK nW nw nc S A b) (h1 : qNoted nw nc S A S1 A1) (k1 : (∀ i, (i ≤ 3 ∨ 8 < i) → (i < 17 ∨ 136 < i) → A1 i = A i) ∧ (∀ i, i ≠ 3 → i ≠ 15 → i ≠ 137 → (i < 17 ∨ 136 < i) → S1 i = S i)) (h2 : mNoted nc S1 A1 S2 A2) (k2 : (∀ i, i ≠ 193 → i ≠ 202 → A2 i = A1 i) ∧ (∀ i j, (i ≠ 188 ∨ (j ≠ 30 ∧ j ≠ 12)) → S2 i j = S1 i j)) (hN' : rNow nC nP nK S2 A2) (hSd' : rSd S2) : Rel S2 A2 b := by
  obtain ⟨hC, hP, hK, hW⟩ := Rl_bd h
  obtain ⟨hb, hT, hF, hPl, hN, hPa, hI, hSi, hBk, hSd⟩ := h
  have hbp : 174 ≤ b.1 ∧ b.1 + 7 ≤ 188 := (qpl_all hb.1).2.2
  have row : ∀ i, i ≠ 188 → S2 i = S1 i := fun i hi => funext (fun j => k2.2 i j (Or.inl hi))
  have gS : ∀ i, (i ≠ 3 ∧ i ≠ 15 ∧ i ≠ 137 ∧ i ≠ 188 ∧ (i < 17 ∨ 136 < i)) → S2 i = S i := fun i hi => (row i hi.2.2.2.1).trans (k1.2 i hi.1 hi.2.1 hi.2.2.1 hi.2.2.2.2)
  have g188 : ∀ j, (j ≠ 30 ∧ j ≠ 12) → S2 188 j = S 188 j := fun j hj => (k2.2 188 j (Or.inr hj)).trans (congrFun (k1.2 188 (by omega) (by omega) (by omega) (by omega)) j)
  have gA : ∀ i, ((i ≤ 3 ∨ 8 < i) ∧ (i < 17 ∨ 136 < i) ∧ i ≠ 193 ∧ i ≠ 202) → A2 i = A i := fun i hi => (k2.1 i hi.2.2.1 hi.2.2.2).trans (k1.1 i hi.1 hi.2.1)
  exact ⟨nC, nP, nK, nW, (nw + 1) % 20, min (nc + 1) 20, hb, rTxt_cg hT (congrFun (gS (1) (by omega)) 1) (g188 (14) (by omega)) (gA (2) (by omega)) (gA (194) (by omega)), (congrFun (gS (1) (by omega)) 3).trans (hF.trans (g188 (15) (by omega)).symm), rPlan_cg hPl (gS (b.1) (by omega)) (fun j hj => (g188 (j) (by omega))) (fun j hj => (gA (b.1 + j) (by omega))) (fun j h1 h2 => (gA (j) (by omega))), hN', rPast_note hC hP hK hPa hN h1 (k1.1 193 (by omega) (by omega)) (k1.1 202 (by omega) (by omega)) h2 (row 15 (by omega)) (fun j g1 g2 => ⟨row j (by omega), k2.1 j (by omega) (by omega)⟩), ⟨rImg_cg hI.1 (gS (139) (by omega)) (gS (139 + 1) (by omega)) (fun j h1 h2 => (gA (j) (by omega))) (gA (212) (by omega)) (gA (213) (by omega)), rImg_cg hI.2 (gS (146) (by omega)) (gS (146 + 1) (by omega)) (fun j h1 h2 => (gA (j) (by omega))) (gA (212) (by omega)) (gA (213) (by omega))⟩, rSit_cg hSi (congrFun (gS (164) (by omega)) 0) (g188 (36) (by omega)) (gA (165) (by omega)) (gA (166) (by omega)) (gA (207) (by omega)) (gA (208) (by omega)), rBk_cg hBk (congrFun (gS (171) (by omega)) 0) (g188 (40) (by omega)) (gA (172) (by omega)) (gA (173) (by omega)) (gA (210) (by omega)) (gA (211) (by omega)), hSd'⟩
theorem mK_d {S A S' A' : qA2} (h : mKeep S A S' A') : (∀ i, i ≠ 193 → i ≠ 202 → A' i = A i) ∧ (∀ i j, (i ≠ 188 ∨ (j ≠ 30 ∧ j ≠ 12)) → S' i j = S i j) := ⟨h.1, fun i j hi => h.2 i j (by omega)⟩
theorem qK_d {S A S' A' : qA2} (h : qKeep S A S' A') : (∀ i, (i ≤ 3 ∨ 8 < i) → (i < 17 ∨ 136 < i) → A' i = A i) ∧ (∀ i, i ≠ 3 → i ≠ 15 → i ≠ 137 → (i < 17 ∨ 136 < i) → S' i = S i) := ⟨h.1, fun i h1 h2 _ h3 => h.2 i h1 h2 h3⟩
theorem rSd_k {S A S1 A1 S2 A2 : qA2} (h : rSd S) (k1 : qKeep S A S1 A1) (k2 : mKeep S1 A1 S2 A2) : rSd S2 := rSd_cg h (by rw [k2.2 137 0 (by omega), k1.2 137 (by omega) (by omega) (by omega)]) (by rw [k2.2 188 12 (by omega), k1.2 188 (by omega) (by omega) (by omega)])
/-- the winter that is now, behind a call that is noted -/
theorem rNow_k {nC nP nK : Nat} {S1 A1 S2 A2 : qA2} (k2 : (∀ i, i ≠ 193 → i ≠ 202 → A2 i = A1 i) ∧ (∀ i j, (i ≠ 188 ∨ (j ≠ 30 ∧ j ≠ 12)) → S2 i j = S1 i j)) (h : rWin nC nP nK (A1 4) (A1 5) (A1 6) (A1 7) (A1 8) (S1 3 5) (S1 3 6) (S1 3 7) (A2 193)) : rNow nC nP nK S2 A2 := by
  unfold rNow
  rw [k2.1 4 (by omega) (by omega), k2.1 5 (by omega) (by omega), k2.1 6 (by omega) (by omega), k2.1 7 (by omega) (by omega), k2.1 8 (by omega) (by omega), k2.2 3 5 (by omega), k2.2 3 6 (by omega), k2.2 3 7 (by omega)]
  exact h
theorem rImg_cg2 {nC nP nK i g : Nat} (hC : nC ≤ 12) (hP : nP ≤ 6) (hK : nK ≤ 5) {S A S' A' : qA2} (h : rImg nC nP nK i g S A) (h1 : S' g = S g) (h2 : S' (g + 1) = S (g + 1)) (h3 : ∀ j, g < j → j < g + 7 → A' j = A j) (h4 : ∀ j, j < 38 → A' 212 (38 * i + j) = A 212 (38 * i + j)) (h5 : A' 213 i = A 213 i) : rImg nC nP nK i g S' A' := by
  unfold rImg at h ⊢
  rw [h1, h2, h3 (g + 2) (by omega) (by omega), h3 (g + 3) (by omega) (by omega), h3 (g + 4) (by omega) (by omega), h3 (g + 5) (by omega) (by omega), h3 (g + 6) (by omega) (by omega), h4 37 (by omega), h5]
  refine ⟨h.1, fun z => ?_⟩
  obtain ⟨a1, a2⟩ := h.2 z
  exact ⟨rWin_cg hC hP hK a1 (fun _ _ => rfl) (fun _ _ => rfl) (fun _ _ => rfl) (fun _ _ => rfl) (fun _ _ => rfl) rfl rfl rfl (fun k hk => h4 k (by omega)), a2⟩
theorem iteI {α : Type} {p q : Prop} [Decidable p] [Decidable q] (h : p ↔ q) (x y : α) : (if p then x else y) = (if q then x else y) := by
  by_cases z : p
  · rw [if_pos z, if_pos (h.mp z)]
  · rw [if_neg z, if_neg (fun w => z (h.mpr w))]
theorem elim_ixG {α : Type} {a : Int32} {n : Nat} (hn : n < 100000) {d : α} {f g : Nat → α} (h : ∀ k, k < n → a = nI k → f k = g k) : (qix a n).elim d f = (qix a n).elim d g := by
  cases e : qix a n with
  | none => rfl
  | some k =>
    obtain ⟨h1, h2⟩ := qix_some hn e
    exact h k h1 h2
theorem rWin_lease {nC nP nK : Nat} (hC : nC ≤ 12) (hP : nP ≤ 6) (hK : nK ≤ 5) {sn ce cr bi pa f : Nat → Int32} {st hr sp : Int32} (h : rWin nC nP nK sn ce cr bi pa st hr sp f) {k c : Nat} (hk : k < nP) (hc : c < nK) (hno : ∀ j, j < 6 → ¬ cr j = nI c) (v w : Int32) : rWin nC nP nK sn ce (upd cr k (nI c)) bi (upd pa c v) (st ||| qbit k) hr w (upd (upd (upd (upd f (18 + k) (nI c)) 24 (f 24 ||| qbit k)) (30 + c) v) 36 w) := by
  obtain ⟨⟨a1, a2⟩, a3, ⟨a4, a5, a6, a7⟩, a8, a9, ⟨a10, a10'⟩, a11, a12⟩ := h
  refine ⟨⟨fun j hj => ?_, a2⟩, fun j hj => ?_, ⟨fun j hj => ?_, fun j hj => ?_, fun j h1 h2 => ?_, fun i j hi hj he hn => ?_⟩, fun j hj => ?_, fun j hj => ?_, ⟨?_, ?_⟩, ?_, ?_⟩
  · rw [upd_o _ _ (show j ≠ 36 by omega), upd_o _ _ (show j ≠ 30 + c by omega), upd_o _ _ (show j ≠ 24 by omega), upd_o _ _ (show j ≠ 18 + k by omega)]
    exact a1 j hj
  · rw [upd_o _ _ (show 12 + j ≠ 36 by omega), upd_o _ _ (show 12 + j ≠ 30 + c by omega), upd_o _ _ (show 12 + j ≠ 24 by omega), upd_o _ _ (show 12 + j ≠ 18 + k by omega)]
    exact a3 j hj
  · rw [upd_o _ _ (show 18 + j ≠ 36 by omega), upd_o _ _ (show 18 + j ≠ 30 + c by omega), upd_o _ _ (show 18 + j ≠ 24 by omega)]
    by_cases e : j = k
    · subst e; rw [upd_s, upd_s]
    · rw [upd_o _ _ e, upd_o _ _ (show 18 + j ≠ 18 + k by omega)]
      exact a4 j hj
  · by_cases e : j = k
    · subst e; rw [upd_s]; exact Or.inr ⟨c, hc, rfl⟩
    · rw [upd_o _ _ e]; exact a5 j hj
  · rw [upd_o _ _ (show j ≠ k by omega)]; exact a6 j h1 h2
  · by_cases e1 : i = k
    · by_cases e2 : j = k
      · rw [e1, e2]
      · rw [e1, upd_s, upd_o _ _ e2] at he
        exact absurd he.symm (hno j hj)
    · by_cases e2 : j = k
      · rw [e2, upd_s, upd_o _ _ e1] at he
        exact absurd he (hno i hi)
      · rw [upd_o _ _ e1, upd_o _ _ e2] at he
        rw [upd_o _ _ e1] at hn
        exact a7 i j hi hj he hn
  · rw [upd_o _ _ (show 25 + j ≠ 36 by omega), upd_o _ _ (show 25 + j ≠ 30 + c by omega), upd_o _ _ (show 25 + j ≠ 24 by omega), upd_o _ _ (show 25 + j ≠ 18 + k by omega)]
    exact a8 j hj
  · rw [upd_o _ _ (show 30 + j ≠ 36 by omega)]
    by_cases e : j = c
    · subst e; rw [upd_s, upd_s]
    · rw [upd_o _ _ e, upd_o _ _ (show 30 + j ≠ 30 + c by omega), upd_o _ _ (show 30 + j ≠ 24 by omega), upd_o _ _ (show 30 + j ≠ 18 + k by omega)]
      exact a9 j hj
  · rw [upd_o _ _ (show 24 ≠ 36 by omega), upd_o _ _ (show 24 ≠ 30 + c by omega), upd_s, a10]
  · exact hset_or (by omega) a10' hk
  · rw [upd_o _ _ (show 35 ≠ 36 by omega), upd_o _ _ (show 35 ≠ 30 + c by omega), upd_o _ _ (show 35 ≠ 24 by omega), upd_o _ _ (show 35 ≠ 18 + k by omega)]
    exact a11
  · rw [upd_s]
theorem rWin_give {nC nP nK : Nat} (hC : nC ≤ 12) (hP : nP ≤ 6) (hK : nK ≤ 5) {sn ce cr bi pa f : Nat → Int32} {st hr sp : Int32} (h : rWin nC nP nK sn ce cr bi pa st hr sp f) {k : Nat} (hk : k < nP) : rWin nC nP nK sn ce (upd cr k (-1)) bi pa st hr sp (upd f (18 + k) (-1)) := by
  obtain ⟨⟨a1, a2⟩, a3, ⟨a4, a5, a6, a7⟩, a8, a9, ⟨a10, a10'⟩, a11, a12⟩ := h
  refine ⟨⟨fun j hj => ?_, a2⟩, fun j hj => ?_, ⟨fun j hj => ?_, fun j hj => ?_, fun j h1 h2 => ?_, fun i j hi hj he hn => ?_⟩, fun j hj => ?_, fun j hj => ?_, ⟨?_, a10'⟩, ?_, ?_⟩
  · rw [upd_o _ _ (show j ≠ 18 + k by omega)]; exact a1 j hj
  · rw [upd_o _ _ (show 12 + j ≠ 18 + k by omega)]; exact a3 j hj
  · by_cases e : j = k
    · subst e; rw [upd_s, upd_s]
    · rw [upd_o _ _ e, upd_o _ _ (show 18 + j ≠ 18 + k by omega)]
      exact a4 j hj
  · by_cases e : j = k
    · subst e; rw [upd_s]; exact Or.inl rfl
    · rw [upd_o _ _ e]; exact a5 j hj
  · rw [upd_o _ _ (show j ≠ k by omega)]; exact a6 j h1 h2
  · by_cases e1 : i = k
    · rw [e1, upd_s] at hn
      exact absurd rfl hn
    · by_cases e2 : j = k
      · rw [he, e2, upd_s] at hn
        exact absurd rfl hn
      · rw [upd_o _ _ e1, upd_o _ _ e2] at he
        rw [upd_o _ _ e1] at hn
        exact a7 i j hi hj he hn
  · rw [upd_o _ _ (show 25 + j ≠ 18 + k by omega)]; exact a8 j hj
  · rw [upd_o _ _ (show 30 + j ≠ 18 + k by omega)]; exact a9 j hj
  · rw [upd_o _ _ (show 24 ≠ 18 + k by omega)]; exact a10
  · rw [upd_o _ _ (show 35 ≠ 18 + k by omega)]; exact a11
  · rw [upd_o _ _ (show 36 ≠ 18 + k by omega)]; exact a12
theorem rWin_move {nC nP nK : Nat} (hC : nC ≤ 12) (hP : nP ≤ 6) (hK : nK ≤ 5) {sn ce cr bi pa f : Nat → Int32} {st hr sp : Int32} (h : rWin nC nP nK sn ce cr bi pa st hr sp f) {k c : Nat} (hk : k < nP) (hc : c < nC) : rWin nC nP nK sn (upd ce k (nI c)) cr bi pa st hr sp (upd f (12 + k) (nI c)) := by
  obtain ⟨⟨a1, a2⟩, a3, ⟨a4, a5, a6, a7⟩, a8, a9, ⟨a10, a10'⟩, a11, a12⟩ := h
  refine ⟨⟨fun j hj => ?_, a2⟩, fun j hj => ?_, ⟨fun j hj => ?_, a5, a6, a7⟩, fun j hj => ?_, fun j hj => ?_, ⟨?_, a10'⟩, ?_, ?_⟩
  · rw [upd_o _ _ (show j ≠ 12 + k by omega)]; exact a1 j hj
  · by_cases e : j = k
    · subst e; rw [upd_s, upd_s]; exact ⟨rfl, c, hc, rfl⟩
    · rw [upd_o _ _ e, upd_o _ _ (show 12 + j ≠ 12 + k by omega)]
      exact a3 j hj
  · rw [upd_o _ _ (show 18 + j ≠ 12 + k by omega)]; exact a4 j hj
  · rw [upd_o _ _ (show 25 + j ≠ 12 + k by omega)]; exact a8 j hj
  · rw [upd_o _ _ (show 30 + j ≠ 12 + k by omega)]; exact a9 j hj
  · rw [upd_o _ _ (show 24 ≠ 12 + k by omega)]; exact a10
  · rw [upd_o _ _ (show 35 ≠ 12 + k by omega)]; exact a11
  · rw [upd_o _ _ (show 36 ≠ 12 + k by omega)]; exact a12
theorem rWin_shout {nC nP nK : Nat} (hC : nC ≤ 12) (hP : nP ≤ 6) (hK : nK ≤ 5) {sn ce cr bi pa f : Nat → Int32} {st hr sp : Int32} (h : rWin nC nP nK sn ce cr bi pa st hr sp f) {k x : Nat} (hk : k < nK) (hx : x ≤ 99) : rWin nC nP nK sn ce cr (upd bi k (nI x)) pa st hr sp (upd f (25 + k) (nI x)) := by
  obtain ⟨⟨a1, a2⟩, a3, ⟨a4, a5, a6, a7⟩, a8, a9, ⟨a10, a10'⟩, a11, a12⟩ := h
  refine ⟨⟨fun j hj => ?_, a2⟩, fun j hj => ?_, ⟨fun j hj => ?_, a5, a6, a7⟩, fun j hj => ?_, fun j hj => ?_, ⟨?_, a10'⟩, ?_, ?_⟩
  · rw [upd_o _ _ (show j ≠ 25 + k by omega)]; exact a1 j hj
  · rw [upd_o _ _ (show 12 + j ≠ 25 + k by omega)]; exact a3 j hj
  · rw [upd_o _ _ (show 18 + j ≠ 25 + k by omega)]; exact a4 j hj
  · by_cases e : j = k
    · subst e; rw [upd_s, upd_s]; exact ⟨rfl, x, hx, rfl⟩
    · rw [upd_o _ _ e, upd_o _ _ (show 25 + j ≠ 25 + k by omega)]
      exact a8 j hj
  · rw [upd_o _ _ (show 30 + j ≠ 25 + k by omega)]; exact a9 j hj
  · rw [upd_o _ _ (show 24 ≠ 25 + k by omega)]; exact a10
  · rw [upd_o _ _ (show 35 ≠ 25 + k by omega)]; exact a11
  · rw [upd_o _ _ (show 36 ≠ 25 + k by omega)]; exact a12
theorem rWin_thaw {nC nP nK : Nat} (hC : nC ≤ 12) (hP : nP ≤ 6) (hK : nK ≤ 5) {sn ce cr bi pa f : Nat → Int32} {st hr sp : Int32} (h : rWin nC nP nK sn ce cr bi pa st hr sp f) {t : Nat} (ht : t ≤ 99) : rWin nC nP nK (qmap (fun _ x => if 0 < x - nI t then x - nI t else 0) sn 12) ce cr bi pa st hr sp (qmap (fun _ x => if nI t < x then x - nI t else 0) f nC) := by
  obtain ⟨⟨a1, a2⟩, a3, ⟨a4, a5, a6, a7⟩, a8, a9, ⟨a10, a10'⟩, a11, a12⟩ := h
  have out : ∀ j, nC ≤ j → qmap (fun _ x => if nI t < x then x - nI t else 0) f nC j = f j := fun j hj => by
    unfold qmap
    rw [if_neg (by omega)]
  refine ⟨⟨fun j hj => ?_, fun j h1 h2 => ?_⟩, fun j hj => ?_, ⟨fun j hj => ?_, a5, a6, a7⟩, fun j hj => ?_, fun j hj => ?_, ⟨?_, a10'⟩, ?_, ?_⟩
  · rw [qmap_in (by omega), qmap_in hj]
    obtain ⟨e, x, hx, e2⟩ := a1 j hj
    have h2 := i32_lt_sub hx ht
    rw [← e, e2, h2.1, h2.2]
    exact ⟨rfl, x - t, by omega, rfl⟩
  · rw [qmap_in (by omega), a2 j h1 h2]
    exact (i32_lt_sub (x := 0) (by omega) ht).1.trans (by rw [Nat.zero_sub]; rfl)
  · rw [out _ (by omega)]; exact a3 j hj
  · rw [out _ (by omega)]; exact a4 j hj
  · rw [out _ (by omega)]; exact a8 j hj
  · rw [out _ (by omega)]; exact a9 j hj
  · rw [out _ (by omega)]; exact a10
  · rw [out _ (by omega)]; exact a11
  · rw [out _ (by omega)]; exact a12
theorem rPast_undo {nC nP nK nw nc : Nat} {S A S2 A2 : qA2} (h : rPast nC nP nK nw nc S A) (h0 : ¬ nc = 0) (h1 : S2 15 2 = nI ((nw + 19) % 20)) (h2 : S2 15 1 = nI (nc - 1)) (h3 : S2 188 30 = nI (nc - 1)) (e : ∀ j, 16 < j → j < 137 → S2 j = S j ∧ A2 j = A j) (e2 : A2 202 = A 202) : rPast nC nP nK ((nw + 19) % 20) (nc - 1) S2 A2 := by
  obtain ⟨⟨a1, a1'⟩, a2, a3⟩ := h
  have hm0 : (nw + 19) % 20 < 20 := Nat.mod_lt _ (by omega)
  refine ⟨⟨hm0, by omega⟩, ⟨h1, h2, h3⟩, fun j hj w hw => ?_⟩
  have hm1 : ((nw + 19) % 20 + 20 - (nc - 1 - 1 - j)) % 20 < 20 := Nat.mod_lt _ (by omega)
  rw [(e (w + 1) (by omega) (by omega)).2, (e (w + 2) (by omega) (by omega)).2, (e (w + 3) (by omega) (by omega)).2, (e (w + 4) (by omega) (by omega)).2, (e (w + 5) (by omega) (by omega)).2, (e w (by omega) (by omega)).1, e2]
  refine a3 j (by omega) w ?_
  rw [hw]
  congr 2
  omega
theorem rPast_0 {nC nP nK nw nc : Nat} {S A S2 A2 : qA2} (h : rPast nC nP nK nw nc S A) (h1 : S2 15 2 = S 15 2) (h2 : S2 15 1 = 0) (h3 : S2 188 30 = 0) {nC' nP' nK' : Nat} : rPast nC' nP' nK' nw 0 S2 A2 := ⟨⟨h.1.1, by omega⟩, ⟨h1.trans h.2.1.1, h2, h3⟩, fun j hj => absurd hj (Nat.not_lt_zero _)⟩
theorem mini_a {nP nK : Nat} {f g : Nat → Int32} {k : Nat} (h : k < 12) : mini nP nK f g k = 0 := by
  unfold mini
  rw [if_pos h]
theorem mini_b {nP nK : Nat} {f g : Nat → Int32} {k : Nat} (h : k < nP) (hP : nP ≤ 6) : mini nP nK f g (12 + k) = f k := by
  unfold mini
  rw [if_neg (by omega), if_pos (by omega), if_pos (by omega), show 12 + k - 12 = k by omega]
theorem mini_c {nP nK : Nat} {f g : Nat → Int32} {k : Nat} (h : k < 6) : mini nP nK f g (18 + k) = -1 := by
  unfold mini
  rw [if_neg (by omega), if_neg (by omega), if_pos (by omega)]
theorem mini_d {nP nK : Nat} {f g : Nat → Int32} : mini nP nK f g 24 = qall nP := by
  unfold mini
  rw [if_neg (by omega), if_neg (by omega), if_neg (by omega), if_pos rfl]
theorem mini_e {nP nK : Nat} {f g : Nat → Int32} {k : Nat} (h : k < nK) (hK : nK ≤ 5) : mini nP nK f g (25 + k) = g k := by
  unfold mini
  rw [if_neg (by omega), if_neg (by omega), if_neg (by omega), if_neg (by omega), if_pos (by omega), if_pos (by omega), show 25 + k - 25 = k by omega]
theorem mini_f {nP nK : Nat} {f g : Nat → Int32} {k : Nat} (h : 30 ≤ k) : mini nP nK f g k = 0 := by
  unfold mini
  rw [if_neg (by omega), if_neg (by omega), if_neg (by omega), if_neg (by omega), if_neg (by omega)]
