/-! both sides read a text alike -/
theorem pa_skF {L L' : Nat → Int32} {n : Nat} (h : ∀ k, k < n → L k = L' k) : ∀ f a : Nat, qskF L n f a = qskF L' n f a
  | 0, _ => rfl
  | f + 1, a => by
    unfold qskF
    by_cases ha : a < n
    · rw [h a ha, pa_skF h f (a + 1)]
    · rw [if_neg (fun z => ha z.1), if_neg (fun z => ha z.1)]
theorem pa_sk {L L' : Nat → Int32} {n : Nat} (h : ∀ k, k < n → L k = L' k) (a : Nat) : qsk L n a = qsk L' n a := pa_skF h _ a
theorem pa_dig {c : Int32} (h1 : 48 ≤ c) (h2 : c ≤ 57) : ∃ d, d ≤ 9 ∧ c = nI (48 + d) := by
  obtain ⟨k, hk1, hk2, rfl⟩ := qin_of (l := 48) (h := 57) rfl rfl (by omega) (by omega) ⟨h1, h2⟩
  exact ⟨k - 48, by omega, by rw [show 48 + (k - 48) = k by omega]⟩
theorem pa_stX {x d : Nat} (hx : x < 1000) (hd : d ≤ 9) : qstX (nI x) (nI (48 + d)) = nI ((10 * x + d) % 10000) := by
  unfold qstX qrem
  have e : nI x * 10 + nI (48 + d) - 48 = nI (10 * x + d) := by
    rw [show (10 : Int32) = nI 10 from rfl, pk_mul, nI_add, show (48 : Int32) = nI 48 from rfl, pk_sub (by omega), show x * 10 + (48 + d) - 48 = 10 * x + d by omega]
  rw [e, show (10000 : Int32) = nI 10000 from rfl, pk_rem (by omega) (by omega) (by omega)]
theorem pa_stM {x d : Nat} (hx : x < 1000) (hd : d ≤ 9) : qstM (nI x) (nI (48 + d)) = nI (10 * x + d) := by
  unfold qstM
  rw [show (10000 : Int32) = nI 10000 from rfl, if_neg (nI_nlt (by omega) (by omega)), show (10 : Int32) = nI 10 from rfl, pk_mul, nI_add, show (48 : Int32) = nI 48 from rfl, pk_sub (by omega), show 10 * x + (48 + d) - 48 = 10 * x + d by omega]
theorem pa_p10 {j : Nat} (h : j ≤ 2) : 10 ^ j ≤ 100 ∧ 10 ^ (j + 1) = 10 * 10 ^ j := by
  have : ∀ j, j < 3 → 10 ^ j ≤ 100 ∧ 10 ^ (j + 1) = 10 * 10 ^ j := by decide
  exact this j (by omega)
theorem pa_dg {L L' : Nat → Int32} {n : Nat} (h : ∀ k, k < n → L k = L' k) : ∀ (f a j : Nat) (v w : Int32), (j ≤ 3 → v = w ∧ ∃ x, x < 10 ^ j ∧ v = nI x) → (qdg qstX L n f a v).1 = (qdg qstM L' n f a w).1 ∧ ((qdg qstX L n f a v).1 - a + j ≤ 3 → (qdg qstX L n f a v).2 = (qdg qstM L' n f a w).2)
  | 0, a, j, v, w, hv => ⟨rfl, fun hj => (hv (by simp only [qdg] at hj; omega)).1⟩
  | f + 1, a, j, v, w, hv => by
    unfold qdg
    by_cases hc : a < n ∧ 48 ≤ L a ∧ L a ≤ 57
    · have hc' : a < n ∧ 48 ≤ L' a ∧ L' a ≤ 57 := by
        rw [← h a hc.1]; exact hc
      rw [if_pos hc, if_pos hc', ← h a hc.1]
      obtain ⟨d, hd, e⟩ := pa_dig hc.2.1 hc.2.2
      have ih := pa_dg h f (a + 1) (j + 1) (qstX v (L a)) (qstM w (L a)) (fun hj => by
        obtain ⟨rfl, x, hx, rfl⟩ := hv (by omega)
        have hp := pa_p10 (show j ≤ 2 by omega)
        rw [e, pa_stX (by omega) hd, pa_stM (by omega) hd, Nat.mod_eq_of_lt (by omega)]
        exact ⟨rfl, 10 * x + d, by omega, rfl⟩)
      have hle := (qdg_le qstX L n f (a + 1) (qstX v (L a))).1
      refine ⟨ih.1, fun hj => ih.2 (by omega)⟩
    · have hc' : ¬ (a < n ∧ 48 ≤ L' a ∧ L' a ≤ 57) := fun z => hc (by rw [h a z.1]; exact z)
      rw [if_neg hc, if_neg hc']
      exact ⟨rfl, fun hj => (hv (by simp only [] at hj; omega)).1⟩
theorem pa_num {L L' : Nat → Int32} {n : Nat} (h : ∀ k, k < n → L k = L' k) (a lo mo : Nat) : qnum qstX L n a lo mo = qnum qstM L' n a lo mo := by
  unfold qnum
  rw [pa_sk h a]
  have hd := pa_dg h (n - qsk L' n a) (qsk L' n a) 0 0 0 (fun _ => ⟨rfl, 0, by decide, rfl⟩)
  have hle := (qdg_le qstX L n (n - qsk L' n a) (qsk L' n a) 0).1
  simp only []
  generalize qdg qstX L n (n - qsk L' n a) (qsk L' n a) 0 = r at hd hle ⊢
  generalize qdg qstM L' n (n - qsk L' n a) (qsk L' n a) 0 = u at hd ⊢
  rw [← hd.1]
  by_cases h1 : r.1 = qsk L' n a
  · rw [if_pos h1, if_pos h1]
  · rw [if_neg h1, if_neg h1]
    by_cases h3 : 3 < r.1 - qsk L' n a
    · rw [if_pos (Or.inl h3), if_pos (Or.inl h3)]
    · rw [hd.2 (by omega)]
theorem pa_body {L L' : Nat → Int32} {n : Nat} (h : ∀ k, k < n → L k = L' k) {a : Nat} (ha : a < n) (nC nP nK nW : Nat) (P : qPS) : qbody qstX L n a nC nP nK nW P = qbody qstM L' n a nC nP nK nW P := by
  have hn := pa_num h
  unfold qbody qbW qbR qbP qbC qbH
  simp only [hn, h a ha]
theorem pa_end {L L' : Nat → Int32} {n : Nat} (h : ∀ k, k < n → L k = L' k) : qend L n = qend L' n := by
  funext x
  unfold qend
  rw [pa_sk h x.1]
  by_cases hq : qsk L' n x.1 < n
  · rw [h _ hq]
  · rw [if_neg (fun z => hq z.1), if_neg (fun z => hq z.1)]
theorem pa_parse {L L' : Nat → Int32} {n : Nat} (h : ∀ k, k < n → L k = L' k) : ∀ (f a : Nat) (P : qPS), qparse qstX L n f a P = qparse qstM L' n f a P
  | 0, _, _ => rfl
  | f + 1, a, P => by
    unfold qparse
    by_cases ha : a < n
    · rw [if_pos ha, if_pos ha]
      unfold qcl
      rw [pa_body h ha, pa_end h]
      congr 1
      funext x
      rw [pa_sk h x.1, pa_parse h f]
    · rw [if_neg ha, if_neg ha]
/-- a plan as it is read: what its numbers hold -/
def pOK (nC nP nK nW : Nat) (P : qPS) : Prop :=
  ((P.1 0 = nI nC ∧ nC ≤ 12) ∧ (P.1 4 = nI nP ∧ nP ≤ 6) ∧ (P.1 5 = nI nK ∧ nK ≤ 5) ∧ (P.1 6 = nI nW ∧ nW ≤ 10)) ∧ (∀ d, d < 32 → ¬ qtb (P.1 3) (nI d) = 0 → d < nC) ∧ (∀ k, k < nP → ∃ c, c < nC ∧ P.2 1 k = nI c) ∧ (∀ k, k < nK → ∃ m, m ≤ 99 ∧ P.2 3 k = nI m) ∧ (∀ k, k < nW → ∃ i, i ≤ 30 ∧ P.2 6 k = nI i)
theorem pOK_body {st : Int32 → Int32 → Int32} {L : Nat → Int32} {n a nC nP nK nW e : Nat} {P P' : qPS} (hP : pOK nC nP nK nW P) (h : qbody st L n a nC nP nK nW P = .inr (e, P')) : ∃ nC' nP' nK' nW', pOK nC' nP' nK' nW' P' := by
  obtain ⟨⟨h0, h4, h5, h6⟩, hr, hc, hb, hw⟩ := hP
  unfold qbody at h
  split at h
  · cases h
  · split at h
    · split at h
      · rename_i hz
        obtain ⟨x, hx, h⟩ := qbind_inr h
        obtain ⟨y, hy, h⟩ := qbind_inr h
        obtain ⟨z, hz2, h⟩ := qbind_inr h
        cases h
        refine ⟨x.1, nP, nK, nW, ⟨⟨by simp [upd], (qnum_ok (by omega) (by omega) hx).2⟩, ⟨by simpa [upd] using h4.1, h4.2⟩, ⟨by simpa [upd] using h5.1, h5.2⟩, ⟨by simpa [upd] using h6.1, h6.2⟩⟩, ?_, ?_, ?_, ?_⟩
        · intro d hd hq
          have := hr d hd (by simpa [upd] using hq)
          omega
        · intro k hk
          obtain ⟨c, hc1, _⟩ := hc k hk
          omega
        · exact hb
        · exact hw
      · cases h
    · split at h
      · obtain ⟨x, hx, h⟩ := qbind_inr h
        have hx2 := qnum_ok (by omega) (by omega) hx
        split at h
        · rename_i hnz hnr hq0
          cases h
          refine ⟨nC, nP, nK, nW, ⟨⟨by simpa [upd] using h0.1, h0.2⟩, ⟨by simpa [upd] using h4.1, h4.2⟩, ⟨by simpa [upd] using h5.1, h5.2⟩, ⟨by simpa [upd] using h6.1, h6.2⟩⟩, ?_, hc, hb, hw⟩
          intro d hd hq
          simp only [upd, if_true] at hq
          rw [qtb_or hd] at hq
          by_cases h1 : qtb (P.1 3) (nI d) = 0
          · by_cases h2 : qtb (qbit x.1) (nI d) = 0
            · exact absurd ⟨h1, h2⟩ hq
            · rw [qtb_bit (by omega) hd] at h2
              by_cases hn0 : nC = 0
              · by_cases hw : L a = 119
                · simp_all
                · simp_all
              · omega
          · exact hr d hd h1
        · cases h
      · split at h
        · split at h
          · rename_i hlt
            obtain ⟨x, hx, h⟩ := qbind_inr h
            have hx2 := qnum_ok (by omega) (by omega) hx
            split at h
            · obtain ⟨y, hy, h⟩ := qbind_inr h
              cases h
              refine ⟨nC, nP + 1, nK, nW, ⟨⟨by simpa [upd] using h0.1, h0.2⟩, ⟨by simp [upd], by omega⟩, ⟨by simpa [upd] using h5.1, h5.2⟩, ⟨by simpa [upd] using h6.1, h6.2⟩⟩, ?_, ?_, ?_, ?_⟩
              · intro d hd hq
                exact hr d hd (by simpa [upd] using hq)
              · intro k hk
                by_cases ek : k = nP
                · subst ek
                  refine ⟨x.1, ?_, by simp [q2]⟩
                  by_cases hn0 : nC = 0
                  · simp_all
                  · omega
                · have := hc k (by omega)
                  simpa [q2, ek] using this
              · intro k hk
                simpa [q2] using hb k hk
              · intro k hk
                simpa [q2] using hw k hk
            · cases h
          · cases h
        · split at h
          · split at h
            · rename_i hlt
              obtain ⟨x, hx, h⟩ := qbind_inr h
              obtain ⟨y, hy, h⟩ := qbind_inr h
              have hx2 := qnum_ok (by omega) (by omega) hx
              cases h
              refine ⟨nC, nP, nK + 1, nW, ⟨⟨by simpa [upd] using h0.1, h0.2⟩, ⟨by simpa [upd] using h4.1, h4.2⟩, ⟨by simp [upd], by omega⟩, ⟨by simpa [upd] using h6.1, h6.2⟩⟩, ?_, ?_, ?_, ?_⟩
              · intro d hd hq
                exact hr d hd (by simpa [upd] using hq)
              · intro k hk
                simpa [q2] using hc k hk
              · intro k hk
                by_cases ek : k = nK
                · subst ek
                  exact ⟨x.1, hx2.2, by simp [q2]⟩
                · simpa [q2, ek] using hb k (by omega)
              · intro k hk
                simpa [q2] using hw k hk
            · cases h
          · split at h
            · split at h
              · rename_i hlt
                obtain ⟨x, hx, h⟩ := qbind_inr h
                obtain ⟨y, hy, h⟩ := qbind_inr h
                have hy2 := qnum_ok (by omega) (by omega) hy
                cases h
                refine ⟨nC, nP, nK, nW + 1, ⟨⟨by simpa [upd] using h0.1, h0.2⟩, ⟨by simpa [upd] using h4.1, h4.2⟩, ⟨by simpa [upd] using h5.1, h5.2⟩, ⟨by simp [upd], by omega⟩⟩, ?_, ?_, ?_, ?_⟩
                · intro d hd hq
                  exact hr d hd (by simpa [upd] using hq)
                · intro k hk
                  simpa [q2] using hc k hk
                · intro k hk
                  simpa [q2] using hb k hk
                · intro k hk
                  by_cases ek : k = nW
                  · subst ek
                    exact ⟨y.1, hy2.2, by simp [q2]⟩
                  · simpa [q2, ek] using hw k (by omega)
              · cases h
            · cases h
theorem pOK_parse {st : Int32 → Int32 → Int32} {L : Nat → Int32} {n : Nat} : ∀ (f a : Nat) (P P' : qPS), (∃ nC nP nK nW, pOK nC nP nK nW P) → qparse st L n f a P = .inr P' → ∃ nC nP nK nW, pOK nC nP nK nW P'
  | 0, _, P, P', hP, h => by
    cases h
    exact hP
  | f + 1, a, P, P', hP, h => by
    unfold qparse at h
    by_cases ha : a < n
    · rw [if_pos ha] at h
      obtain ⟨nC, nP, nK, nW, hP⟩ := hP
      obtain ⟨x, hx, h⟩ := qbind_inr h
      refine pOK_parse f _ x.2 P' ?_ h
      have h1 := hP.1
      rw [h1.1.1, h1.2.1.1, h1.2.2.1.1, h1.2.2.2.1, nIc (by omega), nIc (by omega), nIc (by omega), nIc (by omega)] at hx
      obtain ⟨y, hy, hx⟩ := qbind_inr hx
      unfold qend at hx
      split at hx
      · cases hx
        exact pOK_body (e := y.1) (P' := y.2) hP hy
      · cases hx
    · rw [if_neg ha] at h
      cases h
      exact hP
