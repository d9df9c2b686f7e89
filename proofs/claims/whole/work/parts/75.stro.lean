/-! calls that change nothing -/
theorem st_fault (E : qE) (ad : Nat → Nat) (l : Launch) {S A : qA2} {b : qB} (h : Rel S A b) : qTwo E ad l yX10_fault wsX10_fault { frames := 0, cells := 0, slots := 0, locals := 0 } yX11_fault wsX11_fault { frames := 0, cells := 0, slots := 0, locals := 0 } [] S A b := by
  have h' := h
  obtain ⟨nC, nP, nK, nW, nw, nc, hR⟩ := h'
  obtain ⟨hC, hP, hK, hW⟩ := Rl_bd hR
  have hR' := hR
  obtain ⟨hb, hT, hF, ⟨c0, c1, c2, c3, c4, c5, c6, c7⟩, hN, hPa, hI, hSi, hBk, hSd⟩ := hR'
  refine ⟨_, c_X10_fault E ad l S A b , fun r S1 A1 b1 hp => ?_⟩
  obtain ⟨⟨rfl, rfl, rfl⟩, hr⟩ := hp
  refine ⟨_, c_X11_fault E ad l S A b , fun r2 S2 A2 b2 hp2 => ?_⟩
  obtain ⟨⟨rfl, rfl, rfl⟩, hr2⟩ := hp2
  refine ⟨?_, h⟩
  rw [hr, hr2]
  exact hF
theorem st_told (E : qE) (ad : Nat → Nat) (l : Launch) {S A : qA2} {b : qB} (h : Rel S A b) (a1 : Int32) : qTwo E ad l yX10_told wsX10_told { frames := 2, cells := 0, slots := 0, locals := 44 } yX11_told wsX11_told { frames := 2, cells := 0, slots := 0, locals := 43 } [.int a1] S A b := by
  have h' := h
  obtain ⟨nC, nP, nK, nW, nw, nc, hR⟩ := h'
  obtain ⟨hC, hP, hK, hW⟩ := Rl_bd hR
  have hR' := hR
  obtain ⟨hb, hT, hF, ⟨c0, c1, c2, c3, c4, c5, c6, c7⟩, hN, hPa, hI, hSi, hBk, hSd⟩ := hR'
  refine ⟨_, c_X10_told E ad l S A b b.1 hb.1 rfl a1 nC c1.1 hC, fun r S1 A1 b1 hp => ?_⟩
  obtain ⟨⟨rfl, rfl, rfl⟩, hr⟩ := hp
  refine ⟨_, c_X11_told E ad l S A b a1 nC c2.1 hC nP c2.2.1 hP, fun r2 S2 A2 b2 hp2 => ?_⟩
  obtain ⟨⟨rfl, rfl, rfl⟩, hr2⟩ := hp2
  refine ⟨?_, h⟩
  rw [hr, hr2]
  obtain ⟨tn, _, t1, t2, _⟩ := hT
  obtain ⟨sn, _, s1, s2, _⟩ := hSi
  obtain ⟨bn, _, k1, k2, _⟩ := hBk
  have e8 : qopen (S b.1 3) (S b.1 2) (A 4) nC = qopen (S 188 3) (S 188 2) (A 193) nC := by
    rw [c3.1]
    by_cases h0 : nC = 0
    · subst h0
      have q0 : ∀ (r D : Int32) (f : Nat → Int32), qopen r D f 0 = 0 := fun _ _ _ => rfl
      rw [q0, q0]
    · rw [(c4 h0).2]
      exact qopen_cong (fun k hk => (hN.1.1 k hk).1)
  exact ite15 (c1.1.trans c2.1.symm) (c1.2.1.trans c2.2.1.symm) (c1.2.2.1.trans c2.2.2.1.symm) (c1.2.2.2.trans c2.2.2.2.symm) (t1.trans t2.symm) hN.2.2.2.2.2.2.1.1 hN.2.2.2.2.2.2.2 c3.1 e8 hN.2.2.2.2.2.1.1 (rWin_lets hP hK hN) (rWin_sum hC hN) (s1.trans s2.symm) (k1.trans k2.symm) (hPa.2.1.2.1.trans hPa.2.1.2.2.symm)
theorem st_snow (E : qE) (ad : Nat → Nat) (l : Launch) {S A : qA2} {b : qB} (h : Rel S A b) (a1 : Int32) : qTwo E ad l yX10_snow wsX10_snow { frames := 2, cells := 0, slots := 0, locals := 43 } yX11_snow wsX11_snow { frames := 2, cells := 0, slots := 0, locals := 46 } [.int a1] S A b := by
  have h' := h
  obtain ⟨nC, nP, nK, nW, nw, nc, hR⟩ := h'
  obtain ⟨hC, hP, hK, hW⟩ := Rl_bd hR
  have hR' := hR
  obtain ⟨hb, hT, hF, ⟨c0, c1, c2, c3, c4, c5, c6, c7⟩, hN, hPa, hI, hSi, hBk, hSd⟩ := hR'
  refine ⟨_, c_X10_snow E ad l S A b b.1 hb.1 rfl a1 nC c1.1 hC, fun r S1 A1 b1 hp => ?_⟩
  obtain ⟨⟨rfl, rfl, rfl⟩, hr⟩ := hp
  refine ⟨_, c_X11_snow E ad l S A b a1 nC c2.1 hC, fun r2 S2 A2 b2 hp2 => ?_⟩
  obtain ⟨⟨rfl, rfl, rfl⟩, hr2⟩ := hp2
  refine ⟨?_, h⟩
  rw [hr, hr2]
  exact elim_ix (by omega) (fun k hk _ => (hN.1.1 k hk).1)
theorem st_post (E : qE) (ad : Nat → Nat) (l : Launch) {S A : qA2} {b : qB} (h : Rel S A b) (a1 a2 : Int32) : qTwo E ad l yX10_post wsX10_post { frames := 2, cells := 0, slots := 0, locals := 43 } yX11_post wsX11_post { frames := 2, cells := 0, slots := 0, locals := 46 } [.int a1, .int a2] S A b := by
  have h' := h
  obtain ⟨nC, nP, nK, nW, nw, nc, hR⟩ := h'
  obtain ⟨hC, hP, hK, hW⟩ := Rl_bd hR
  have hR' := hR
  obtain ⟨hb, hT, hF, ⟨c0, c1, c2, c3, c4, c5, c6, c7⟩, hN, hPa, hI, hSi, hBk, hSd⟩ := hR'
  refine ⟨_, c_X10_post E ad l S A b b.1 hb.1 rfl a1 a2 nP c1.2.1 hP, fun r S1 A1 b1 hp => ?_⟩
  obtain ⟨⟨rfl, rfl, rfl⟩, hr⟩ := hp
  refine ⟨_, c_X11_post E ad l S A b a1 a2 nP c2.2.1 hP, fun r2 S2 A2 b2 hp2 => ?_⟩
  obtain ⟨⟨rfl, rfl, rfl⟩, hr2⟩ := hp2
  refine ⟨?_, h⟩
  rw [hr, hr2]
  refine elim_ix (by omega) (fun k hk _ => ?_)
  rw [(hN.2.1 k hk).1, c5 k hk, hN.2.2.1.1 k hk, hN.2.2.2.2.2.1.1]
theorem st_crow (E : qE) (ad : Nat → Nat) (l : Launch) {S A : qA2} {b : qB} (h : Rel S A b) (a1 a2 : Int32) : qTwo E ad l yX10_crow wsX10_crow { frames := 2, cells := 0, slots := 0, locals := 43 } yX11_crow wsX11_crow { frames := 2, cells := 0, slots := 0, locals := 46 } [.int a1, .int a2] S A b := by
  have h' := h
  obtain ⟨nC, nP, nK, nW, nw, nc, hR⟩ := h'
  obtain ⟨hC, hP, hK, hW⟩ := Rl_bd hR
  have hR' := hR
  obtain ⟨hb, hT, hF, ⟨c0, c1, c2, c3, c4, c5, c6, c7⟩, hN, hPa, hI, hSi, hBk, hSd⟩ := hR'
  refine ⟨_, c_X10_crow E ad l S A b b.1 hb.1 rfl a1 a2 nK c1.2.2.1 hK, fun r S1 A1 b1 hp => ?_⟩
  obtain ⟨⟨rfl, rfl, rfl⟩, hr⟩ := hp
  refine ⟨_, c_X11_crow E ad l S A b a1 a2 nP c2.2.1 hP nK c2.2.2.1 hK, fun r2 S2 A2 b2 hp2 => ?_⟩
  obtain ⟨⟨rfl, rfl, rfl⟩, hr2⟩ := hp2
  refine ⟨?_, h⟩
  rw [hr, hr2]
  refine elim_ix (by omega) (fun k hk _ => ?_)
  rw [(hN.2.2.2.1 k hk).1, c6 k hk, rWin_post hP hK hN hk, hN.2.2.2.2.1 k hk]
theorem st_worth (E : qE) (ad : Nat → Nat) (l : Launch) {S A : qA2} {b : qB} (h : Rel S A b) (a1 a2 : Int32) : qTwo E ad l yX10_worth wsX10_worth { frames := 2, cells := 0, slots := 0, locals := 43 } yX11_worth wsX11_worth { frames := 2, cells := 0, slots := 0, locals := 46 } [.int a1, .int a2] S A b := by
  have h' := h
  obtain ⟨nC, nP, nK, nW, nw, nc, hR⟩ := h'
  obtain ⟨hC, hP, hK, hW⟩ := Rl_bd hR
  have hR' := hR
  obtain ⟨hb, hT, hF, ⟨c0, c1, c2, c3, c4, c5, c6, c7⟩, hN, hPa, hI, hSi, hBk, hSd⟩ := hR'
  refine ⟨_, c_X10_worth E ad l S A b b.1 hb.1 rfl a1 a2 nP c1.2.1 hP nK c1.2.2.1 hK, fun r S1 A1 b1 hp => ?_⟩
  obtain ⟨⟨rfl, rfl, rfl⟩, hr⟩ := hp
  refine ⟨_, c_X11_worth E ad l S A b a1 a2 nP c2.2.1 hP nK c2.2.2.1 hK, fun r2 S2 A2 b2 hp2 => ?_⟩
  obtain ⟨⟨rfl, rfl, rfl⟩, hr2⟩ := hp2
  refine ⟨?_, h⟩
  rw [hr, hr2]
  refine elim_ix (by omega) (fun k hk _ => elim_ix (by omega) (fun c hc _ => ?_))
  rw [(hN.2.2.2.1 c hc).1, c6 c hc, c5 k hk]
theorem st_out (E : qE) (ad : Nat → Nat) (l : Launch) {S A : qA2} {b : qB} (h : Rel S A b) (a1 a2 : Int32) : qTwo E ad l yX10_out wsX10_out { frames := 2, cells := 0, slots := 0, locals := 43 } yX11_out wsX11_out { frames := 2, cells := 0, slots := 0, locals := 46 } [.int a1, .int a2] S A b := by
  have h' := h
  obtain ⟨nC, nP, nK, nW, nw, nc, hR⟩ := h'
  obtain ⟨hC, hP, hK, hW⟩ := Rl_bd hR
  have hR' := hR
  obtain ⟨hb, hT, hF, ⟨c0, c1, c2, c3, c4, c5, c6, c7⟩, hN, hPa, hI, hSi, hBk, hSd⟩ := hR'
  refine ⟨_, c_X10_out E ad l S A b b.1 hb.1 rfl a1 a2 nC c1.1 hC, fun r S1 A1 b1 hp => ?_⟩
  obtain ⟨⟨rfl, rfl, rfl⟩, hr⟩ := hp
  refine ⟨_, c_X11_out E ad l S A b a1 a2 nC c2.1 hC, fun r2 S2 A2 b2 hp2 => ?_⟩
  obtain ⟨⟨rfl, rfl, rfl⟩, hr2⟩ := hp2
  refine ⟨?_, h⟩
  rw [hr, hr2]
  refine elim_ix (by omega) (fun k hk _ => ?_)
  rw [(hN.1.1 k hk).1]
theorem st_still (E : qE) (ad : Nat → Nat) (l : Launch) {S A : qA2} {b : qB} (h : Rel S A b) (a1 a2 : Int32) : qTwo E ad l yX10_still wsX10_still { frames := 1, cells := 0, slots := 0, locals := 22 } yX11_still wsX11_still { frames := 1, cells := 0, slots := 0, locals := 25 } [.int a1, .int a2] S A b := by
  have h' := h
  obtain ⟨nC, nP, nK, nW, nw, nc, hR⟩ := h'
  obtain ⟨hC, hP, hK, hW⟩ := Rl_bd hR
  have hR' := hR
  obtain ⟨hb, hT, hF, ⟨c0, c1, c2, c3, c4, c5, c6, c7⟩, hN, hPa, hI, hSi, hBk, hSd⟩ := hR'
  refine ⟨_, c_X10_still E ad l S A b a1 a2, fun r S1 A1 b1 hp => ?_⟩
  obtain ⟨⟨rfl, rfl, rfl⟩, hr⟩ := hp
  refine ⟨_, c_X11_still E ad l S A b a1 a2, fun r2 S2 A2 b2 hp2 => ?_⟩
  obtain ⟨⟨rfl, rfl, rfl⟩, hr2⟩ := hp2
  exact ⟨hr.trans hr2.symm, h⟩
theorem st_judge (E : qE) (ad : Nat → Nat) (l : Launch) {S A : qA2} {b : qB} (h : Rel S A b) : qTwo E ad l yX10_judge wsX10_judge { frames := 1, cells := 0, slots := 0, locals := 22 } yX11_judge wsX11_judge { frames := 0, cells := 0, slots := 0, locals := 0 } [] S A b := by
  have h' := h
  obtain ⟨nC, nP, nK, nW, nw, nc, hR⟩ := h'
  obtain ⟨hC, hP, hK, hW⟩ := Rl_bd hR
  have hR' := hR
  obtain ⟨hb, hT, hF, ⟨c0, c1, c2, c3, c4, c5, c6, c7⟩, hN, hPa, hI, hSi, hBk, hSd⟩ := hR'
  obtain ⟨nB, hB, k1, k2, k3⟩ := hBk
  have kc : ∀ k, k < nB → A 172 k = nI (A 172 k).toNatClampNeg ∧ (A 172 k).toNatClampNeg < nC := fun k hk => by
    obtain ⟨⟨_, c, hc, e⟩, _⟩ := k3 k hk
    rw [e, nIc (by omega)]
    exact ⟨rfl, hc⟩
  refine ⟨_, c_X10_judge E ad l S A b nB k1 hB (fun k => (A 172 k).toNatClampNeg) (fun k hk => ⟨(kc k hk).1, Nat.lt_of_lt_of_le (kc k hk).2 hC⟩), fun r S1 A1 b1 hp => ?_⟩
  obtain ⟨⟨rfl, rfl, rfl⟩, hr⟩ := hp
  refine ⟨_, c_X11_judge E ad l S A b nB k2 hB (fun k => (A 172 k).toNatClampNeg) (fun k hk => ⟨by rw [← (k3 k hk).1.1]; exact (kc k hk).1, Nat.lt_of_lt_of_le (kc k hk).2 hC⟩), fun r2 S2 A2 b2 hp2 => ?_⟩
  obtain ⟨⟨rfl, rfl, rfl⟩, hr2⟩ := hp2
  refine ⟨?_, h⟩
  rw [hr, hr2]
  have hw : ∀ n k, k + n ≤ nB → qwrong (A 4) (fun k => (A 172 k).toNatClampNeg) (A 173) k n = qwrong (A 193) (fun k => (A 172 k).toNatClampNeg) (A 211) k n := by
    intro n
    induction n with
    | zero => intro k _; rfl
    | succ n ih =>
      intro k hk
      unfold qwrong
      rw [ih (k + 1) (by omega), (k3 k (by omega)).2, (hN.1.1 _ (kc k (by omega)).2).1]
  exact hw nB 0 (by omega)
theorem st_lies (E : qE) (ad : Nat → Nat) (l : Launch) {S A : qA2} {b : qB} (h : Rel S A b) (a1 a2 : Int32) : qTwo E ad l yX10_lies wsX10_lies { frames := 4, cells := 0, slots := 0, locals := 100 } yX11_lies wsX11_lies { frames := 6, cells := 0, slots := 0, locals := 138 } [.int a1, .int a2] S A b := by
  have h' := h
  obtain ⟨nC, nP, nK, nW, nw, nc, hR⟩ := h'
  obtain ⟨hC, hP, hK, hW⟩ := Rl_bd hR
  have hR' := hR
  obtain ⟨hb, hT, hF, ⟨c0, c1, c2, c3, c4, c5, c6, c7⟩, hN, hPa, hI, hSi, hBk, hSd⟩ := hR'
  obtain ⟨hx, hx9, hx1, hx2⟩ := Rl_hr hR
  refine ⟨_, c_X10_lies E ad l S A b b.1 hb.1 rfl a1 a2 nC c1.1 hC nP c1.2.1 hP nW c1.2.2.2 hW hx hx1 (by omega), fun r S1 A1 b1 hp => ?_⟩
  obtain ⟨rfl, hr, gA, gS⟩ := hp
  have hA1 : ∀ i, 163 < i → i ≠ 167 → i ≠ 168 → i ≠ 170 → A1 i = A i := fun i g1 g2 g3 g4 => gA i (by omega)
  have hS1 : S1 188 = S 188 := gS 188 (by omega)
  refine ⟨_, c_X11_lies E ad l S1 A1 b a1 a2 nC (by rw [hS1]; exact c2.1) hC nP (by rw [hS1]; exact c2.2.1) hP nW (by rw [hS1]; exact c2.2.2.2) hW hx (by rw [hA1 193 (by omega) (by omega) (by omega) (by omega)]; exact hx2) (by omega), fun r2 S2 A2 b2 hp2 => ?_⟩
  obtain ⟨⟨rfl, rfl⟩, hr2, gA2⟩ := hp2
  refine ⟨?_, Rel_ro h (fun i g1 g2 g3 g4 g5 g6 g7 => (gA2 i (by omega)).trans (gA i (by omega))) (fun i g1 g2 g3 g4 g5 g6 => gS i (by omega)) (by rw [gS 164 (by omega)])⟩
  rw [hr, hr2, hS1, hA1 191 (by omega) (by omega) (by omega) (by omega), hA1 192 (by omega) (by omega) (by omega) (by omega), hA1 193 (by omega) (by omega) (by omega) (by omega)]
  refine elim_ix (by omega) (fun k hk _ => elim_ir (by omega) (by omega) (fun n _ hn _ => ?_))
  exact (Rl_pass hR (by omega) (by omega)).1.1 k hk
theorem st_open (E : qE) (ad : Nat → Nat) (l : Launch) {S A : qA2} {b : qB} (h : Rel S A b) (a1 : Int32) : qTwo E ad l yX10_open wsX10_open { frames := 4, cells := 0, slots := 0, locals := 100 } yX11_open wsX11_open { frames := 6, cells := 0, slots := 0, locals := 138 } [.int a1] S A b := by
  have h' := h
  obtain ⟨nC, nP, nK, nW, nw, nc, hR⟩ := h'
  obtain ⟨hC, hP, hK, hW⟩ := Rl_bd hR
  have hR' := hR
  obtain ⟨hb, hT, hF, ⟨c0, c1, c2, c3, c4, c5, c6, c7⟩, hN, hPa, hI, hSi, hBk, hSd⟩ := hR'
  obtain ⟨hx, hx9, hx1, hx2⟩ := Rl_hr hR
  refine ⟨_, c_X10_open E ad l S A b b.1 hb.1 rfl a1 nC c1.1 hC nP c1.2.1 hP nW c1.2.2.2 hW hx hx1 (by omega), fun r S1 A1 b1 hp => ?_⟩
  obtain ⟨rfl, hr, gA, gS⟩ := hp
  have hA1 : ∀ i, 163 < i → i ≠ 167 → i ≠ 168 → i ≠ 170 → A1 i = A i := fun i g1 g2 g3 g4 => gA i (by omega)
  have hS1 : S1 188 = S 188 := gS 188 (by omega)
  refine ⟨_, c_X11_open E ad l S1 A1 b a1 nC (by rw [hS1]; exact c2.1) hC nP (by rw [hS1]; exact c2.2.1) hP nW (by rw [hS1]; exact c2.2.2.2) hW hx (by rw [hA1 193 (by omega) (by omega) (by omega) (by omega)]; exact hx2) (by omega), fun r2 S2 A2 b2 hp2 => ?_⟩
  obtain ⟨⟨rfl, rfl⟩, hr2, gA2⟩ := hp2
  refine ⟨?_, Rel_ro h (fun i g1 g2 g3 g4 g5 g6 g7 => (gA2 i (by omega)).trans (gA i (by omega))) (fun i g1 g2 g3 g4 g5 g6 => gS i (by omega)) (by rw [gS 164 (by omega)])⟩
  rw [hr, hr2, hS1, hA1 191 (by omega) (by omega) (by omega) (by omega), hA1 192 (by omega) (by omega) (by omega) (by omega), hA1 193 (by omega) (by omega) (by omega) (by omega)]
  refine elim_ir (by omega) (by omega) (fun n _ hn _ => ?_)
  have q0 : ∀ (r D : Int32) (f : Nat → Int32), qopen r D f 0 = 0 := fun _ _ _ => rfl
  by_cases h0 : nC = 0
  · subst h0
    rw [q0, q0, c3.1]
  · have e := qopen_cong (road := S 188 3) (D := S 188 2) (Rl_pass hR h0 (show n ≤ 1000 by omega)).1.1
    rw [c3.1, (c4 h0).2, e]
theorem st_fewest (E : qE) (ad : Nat → Nat) (l : Launch) {S A : qA2} {b : qB} (h : Rel S A b) (a1 : Int32) : qTwo E ad l yX10_fewest wsX10_fewest { frames := 5, cells := 0, slots := 0, locals := 130 } yX11_fewest wsX11_fewest { frames := 7, cells := 0, slots := 0, locals := 161 } [.int a1] S A b := by
  have h' := h
  obtain ⟨nC, nP, nK, nW, nw, nc, hR⟩ := h'
  obtain ⟨hC, hP, hK, hW⟩ := Rl_bd hR
  have hR' := hR
  obtain ⟨hb, hT, hF, ⟨c0, c1, c2, c3, c4, c5, c6, c7⟩, hN, hPa, hI, hSi, hBk, hSd⟩ := hR'
  obtain ⟨hx, hx9, hx1, hx2⟩ := Rl_hr hR
  refine ⟨_, c_X10_fewest E ad l S A b b.1 hb.1 rfl a1 nC c1.1 hC nP c1.2.1 hP nW c1.2.2.2 hW hx hx1 (by omega), fun r S1 A1 b1 hp => ?_⟩
  obtain ⟨rfl, hr, gA, gS⟩ := hp
  have hA1 : ∀ i, 163 < i → i ≠ 167 → i ≠ 168 → i ≠ 170 → A1 i = A i := fun i g1 g2 g3 g4 => gA i (by omega)
  have hS1 : S1 188 = S 188 := gS 188 (by omega)
  refine ⟨_, c_X11_fewest E ad l S1 A1 b a1 nC (by rw [hS1]; exact c2.1) hC nP (by rw [hS1]; exact c2.2.1) hP nW (by rw [hS1]; exact c2.2.2.2) hW hx (by rw [hA1 193 (by omega) (by omega) (by omega) (by omega)]; exact hx2) (by omega), fun r2 S2 A2 b2 hp2 => ?_⟩
  obtain ⟨⟨rfl, rfl⟩, hr2, gA2⟩ := hp2
  refine ⟨?_, Rel_ro h (fun i g1 g2 g3 g4 g5 g6 g7 => (gA2 i (by omega) (by omega)).trans (gA i (by omega))) (fun i g1 g2 g3 g4 g5 g6 => gS i (by omega)) (by rw [gS 164 (by omega)])⟩
  rw [hS1, hA1 191 (by omega) (by omega) (by omega) (by omega), hA1 192 (by omega) (by omega) (by omega) (by omega), hA1 193 (by omega) (by omega) (by omega) (by omega)] at hr2
  rcases hr with ⟨z1, hr⟩ | ⟨n, z1, hr⟩
  · rcases hr2 with ⟨z2, hr2⟩ | ⟨n2, z2, hr2⟩
    · rw [hr, hr2]
    · rw [z1] at z2; cases z2
  · rcases hr2 with ⟨z2, hr2⟩ | ⟨n2, z2, hr2⟩
    · rw [z1] at z2; cases z2
    · rw [z1] at z2
      cases z2
      obtain ⟨_, hn, _⟩ := qir_some (by omega) (by omega) z1
      exact mFew_uniq (q2p hP).2 (fun m hm => Rl_opn hR (show n ≤ 1000 by omega) (Nat.lt_of_lt_of_le hm (q2p hP).2)) hr hr2
theorem st_lets (E : qE) (ad : Nat → Nat) (l : Launch) {S A : qA2} {b : qB} (h : Rel S A b) (a1 a2 : Int32) : qTwo E ad l yX10_lets wsX10_lets { frames := 6, cells := 0, slots := 0, locals := 154 } yX11_lets wsX11_lets { frames := 7, cells := 0, slots := 0, locals := 161 } [.int a1, .int a2] S A b := by
  have h' := h
  obtain ⟨nC, nP, nK, nW, nw, nc, hR⟩ := h'
  obtain ⟨hC, hP, hK, hW⟩ := Rl_bd hR
  have hR' := hR
  obtain ⟨hb, hT, hF, ⟨c0, c1, c2, c3, c4, c5, c6, c7⟩, hN, hPa, hI, hSi, hBk, hSd⟩ := hR'
  obtain ⟨hx, hx9, hx1, hx2⟩ := Rl_hr hR
  refine ⟨_, c_X10_lets E ad l S A b b.1 hb.1 rfl a1 a2 nC c1.1 hC nP c1.2.1 hP nW c1.2.2.2 hW hx hx1 (by omega) nK c1.2.2.1 hK, fun r S1 A1 b1 hp => ?_⟩
  obtain ⟨rfl, hr, gA, gS⟩ := hp
  have hA1 : ∀ i, 163 < i → i ≠ 167 → i ≠ 168 → i ≠ 170 → A1 i = A i := fun i g1 g2 g3 g4 => gA i (by omega)
  have hS1 : S1 188 = S 188 := gS 188 (by omega)
  refine ⟨_, c_X11_lets E ad l S1 A1 b a1 a2 nC (by rw [hS1]; exact c2.1) hC nP (by rw [hS1]; exact c2.2.1) hP nK (by rw [hS1]; exact c2.2.2.1) hK nW (by rw [hS1]; exact c2.2.2.2) hW hx (by rw [hA1 193 (by omega) (by omega) (by omega) (by omega)]; exact hx2) (by omega), fun r2 S2 A2 b2 hp2 => ?_⟩
  obtain ⟨⟨rfl, rfl⟩, hr2, gA2⟩ := hp2
  refine ⟨?_, Rel_ro h (fun i g1 g2 g3 g4 g5 g6 g7 => (gA2 i (by omega)).trans (gA i (by omega))) (fun i g1 g2 g3 g4 g5 g6 => gS i (by omega)) (by rw [gS 164 (by omega)])⟩
  rw [hS1, hA1 191 (by omega) (by omega) (by omega) (by omega), hA1 192 (by omega) (by omega) (by omega) (by omega), hA1 193 (by omega) (by omega) (by omega) (by omega), hA1 190 (by omega) (by omega) (by omega) (by omega), hA1 189 (by omega) (by omega) (by omega) (by omega), hA1 206 (by omega) (by omega) (by omega) (by omega)] at hr2
  have hno : ∀ k, ¬ (a2 = -1 ∨ ∃ k, qix a2 nP = some k) → qix a2 nP = some k → False := fun k z1 z2 => z1 (Or.inr ⟨k, z2⟩)
  rcases hr with ⟨hr, y1, y2⟩ | ⟨y, hr⟩
  · rcases hr2 with ⟨hr2, z1, z2⟩ | ⟨z, hr2⟩
    · rw [hr, hr2]
    · rcases z with z | ⟨k, z⟩
      · exact absurd z y1
      · rw [y2] at z; cases z
  · rcases hr2 with ⟨hr2, z1, z2⟩ | ⟨z, hr2⟩
    · rcases y with y | ⟨k, y⟩
      · exact absurd y z1
      · rw [z2] at y; cases y
    · rw [hr, hr2]
      refine elim_ir (by omega) (by omega) (fun n _ hn _ => ?_)
      have hb := wa_lets hP hK (Op := fun m2 => qstay nC nP nW (S b.1 1) (S b.1 2) (S b.1 3) (A 5) (A (b.1 + 5)) (A (b.1 + 6)) (nI m2) (A 4, qall nP, S 3 6) n) (Op' := fun m2 => mopn nC nP nW (S 188 1) (S 188 2) (S 188 3) (A 191) (A 192) (A 193) n m2) (fun m hm => Rl_opn hR (show n ≤ 1000 by omega) hm) (sp := fun way => qspoons way (A 7) (A (b.1 + 4)) (A (b.1 + 2)) nP) (sp' := fun way => qspoons way (fun c => A 193 (25 + c)) (A 190) (A 189) nP) (fun way hway => qsum_cong nP (fun q hq => by
        by_cases e : way q = -1
        · rw [if_pos e, if_pos e]
        · rw [if_neg e, if_neg e]
          have hcw := (qcw_nat hK (hway q hq) e).2
          rw [(hN.2.2.2.1 _ hcw).1, c6 _ hcw, c5 q hq])) (fun f g hfg => qspoons_cong hfg) (A 163) (qmap (fun _ _ => -1) (A 154) 6) (A 206) (fun k hk => by rw [qmap_in (by omega)])
      by_cases e : a2 = -1
      · rw [if_pos e, if_pos (Or.inr e)]
        exact hb.1
      · rw [if_neg e]
        rcases y with y | ⟨k, y⟩
        · exact absurd y e
        · obtain ⟨hk, ek⟩ := qix_some (by omega) y
          rcases hb.2 with ⟨w1, w2⟩ | ⟨w1, w2⟩
          · rw [← hb.1, w1, if_pos (Or.inl (by decide)), ek, nIc (by omega)]
            exact w2 k hk
          · rw [← hb.1, if_neg (by
              rintro (q | q)
              · rw [Int32.lt_iff_toInt_lt] at q w1
                have e1 : (0 : Int32).toInt = 0 := by decide
                have e2 : (-1 : Int32).toInt = -1 := by decide
                omega
              · exact e q), ek, nIc (by omega)]
            exact w2 k hk
theorem st_yard (E : qE) (ad : Nat → Nat) (l : Launch) {S A : qA2} {b : qB} (h : Rel S A b) (a1 a2 a3 : Int32) : qTwo E ad l yX10_yard wsX10_yard { frames := 4, cells := 0, slots := 0, locals := 100 } yX11_yard wsX11_yard { frames := 7, cells := 0, slots := 0, locals := 161 } [.int a1, .int a2, .int a3] S A b := by
  have h' := h
  obtain ⟨nC, nP, nK, nW, nw, nc, hR⟩ := h'
  obtain ⟨hC, hP, hK, hW⟩ := Rl_bd hR
  have hR' := hR
  obtain ⟨hb, hT, hF, ⟨c0, c1, c2, c3, c4, c5, c6, c7⟩, hN, hPa, hI, hSi, hBk, hSd⟩ := hR'
  obtain ⟨hx, hx9, hx1, hx2⟩ := Rl_hr hR
  refine ⟨_, c_X10_yard E ad l S A b b.1 hb.1 rfl a1 a2 a3 nC c1.1 hC nP c1.2.1 hP nW c1.2.2.2 hW hx hx1 (by omega), fun r S1 A1 b1 hp => ?_⟩
  obtain ⟨rfl, hr, gA, gS⟩ := hp
  have hA1 : ∀ i, 163 < i → i ≠ 167 → i ≠ 168 → i ≠ 170 → A1 i = A i := fun i g1 g2 g3 g4 => gA i (by omega)
  have hS1 : S1 188 = S 188 := gS 188 (by omega)
  refine ⟨_, c_X11_yard E ad l S1 A1 b a1 a2 a3 nC (by rw [hS1]; exact c2.1) hC nP (by rw [hS1]; exact c2.2.1) hP nW (by rw [hS1]; exact c2.2.2.2) hW hx (by rw [hA1 193 (by omega) (by omega) (by omega) (by omega)]; exact hx2) (by omega), fun r2 S2 A2 b2 hp2 => ?_⟩
  obtain ⟨⟨rfl, rfl⟩, hr2, gA2⟩ := hp2
  refine ⟨?_, Rel_ro h (fun i g1 g2 g3 g4 g5 g6 g7 => (gA2 i (by omega)).trans (gA i (by omega))) (fun i g1 g2 g3 g4 g5 g6 => gS i (by omega)) (by rw [gS 164 (by omega)])⟩
  rw [hr, hr2, hS1, hA1 191 (by omega) (by omega) (by omega) (by omega), hA1 192 (by omega) (by omega) (by omega) (by omega), hA1 193 (by omega) (by omega) (by omega) (by omega)]
  refine elim_ix (by omega) (fun k hk _ => elim_ix (by omega) (fun c hc _ => elim_ir (by omega) (by omega) (fun n _ hn _ => ?_)))
  have e5 := fun j hj => (hN.2.1 j hj).1
  rw [qfree_cong e5, e5 k hk]
  by_cases hz : qfree (fun j => A 193 (12 + j)) nC nP (A 193 (12 + k) + 1) = -1
  · rw [if_pos hz, if_pos hz]
  · rw [if_neg hz, if_neg hz]
    have hcell : qfree (fun j => A 193 (12 + j)) nC nP (A 193 (12 + k) + 1) = A 193 (12 + k) + 1 ∧ ∃ c, c < nC ∧ A 193 (12 + k) + 1 = nI c := by
      unfold qfree at hz ⊢
      by_cases g1 : A 193 (12 + k) + 1 < 0 ∨ nI nC ≤ A 193 (12 + k) + 1
      · rw [if_pos g1] at hz
        exact absurd rfl hz
      · rw [if_neg g1] at hz ⊢
        by_cases g2 : qfind (fun j => A 193 (12 + j)) (A 193 (12 + k) + 1) 0 nP = -1
        · rw [if_pos g2]
          refine ⟨rfl, ?_⟩
          obtain ⟨j, hj, e⟩ := nI_of (fun z => g1 (Or.inl z))
          refine ⟨j, ?_, e⟩
          rcases Nat.lt_or_ge j nC with g | g
          · exact g
          · exact absurd (Or.inr (by rw [e]; exact (nI_leI (by omega) hj).mpr g)) g1
        · rw [if_neg g2] at hz
          exact absurd rfl hz
    rw [hcell.1]
    have e1 := (Rl_pass hR (show ¬ nC = 0 by omega) (show n ≤ 1000 by omega)).1.1 c hc
    have hh := rWin_hR hC hP hK hN
    have e2 := (hq_pass hC hP hW (B := S 188 1) (lp := qlets (A 6) 6) (cell := upd (A 5) k (A 193 (12 + k) + 1)) c7 (t := (A 4, S 3 5, S 3 6)) (f := upd (A 193) (12 + k) (A 193 (12 + k) + 1)) ⟨fun a ha => by rw [upd_o _ _ (by omega)]; exact hh.1.1 a ha, fun j hj => by
      by_cases ej : j = k
      · subst ej
        rw [upd_s, upd_s]
        obtain ⟨_, x, hx1, hx2⟩ := hcell
        exact ⟨rfl, x, by omega, hx2⟩
      · rw [upd_o _ _ ej, upd_o _ _ (by omega)]
        exact hh.1.2.1 j hj, fun p hp => by rw [upd_o _ _ (by omega)]; exact hh.1.2.2.1 p hp, by rw [upd_o _ _ (by omega)]; exact hh.1.2.2.2.1, by rw [upd_o _ _ (by omega)]; exact hh.1.2.2.2.2⟩ hh.2 (x := hx) hx1 (by omega) n (by omega)).1.1 c hc
    rw [(c4 (by omega)).1] at e1 ⊢
    rw [e1, e2]
theorem st_sublets (E : qE) (ad : Nat → Nat) (l : Launch) {S A : qA2} {b : qB} (h : Rel S A b) (a1 : Int32) : qTwo E ad l yX10_sublets wsX10_sublets { frames := 2, cells := 0, slots := 0, locals := 45 } yX11_sublets wsX11_sublets { frames := 1, cells := 0, slots := 0, locals := 25 } [.int a1] S A b := by
  have h' := h
  obtain ⟨nC, nP, nK, nW, nw, nc, hR⟩ := h'
  obtain ⟨hC, hP, hK, hW⟩ := Rl_bd hR
  have hR' := hR
  obtain ⟨hb, hT, hF, ⟨c0, c1, c2, c3, c4, c5, c6, c7⟩, hN, hPa, hI, hSi, hBk, hSd⟩ := hR'
  obtain ⟨nS, hSb, k1, k2, k3⟩ := hSi
  have kc : ∀ k, k < nS → A 166 k = nI (A 166 k).toNatClampNeg ∧ (A 166 k).toNatClampNeg < nP := fun k hk => by
    obtain ⟨_, _, c, hc, e⟩ := k3 k hk
    rw [e, nIc (by omega)]
    exact ⟨rfl, hc⟩
  have hsat : ∀ p, qsat (A 165) (fun k => (A 166 k).toNatClampNeg) p nS = qsat (A 207) (fun k => (A 166 k).toNatClampNeg) p nS := fun p => qor_cong nS (fun k hk => by rw [(k3 k hk).1.1])
  refine ⟨_, c_X10_sublets E ad l S A b a1 nS k1 hSb (fun k => (A 166 k).toNatClampNeg) (fun k hk => ⟨(kc k hk).1, Nat.lt_of_lt_of_le (kc k hk).2 hP⟩), fun r S1 A1 b1 hp => ?_⟩
  obtain ⟨rfl, hr, gA, gS⟩ := hp
  refine ⟨_, c_X11_sublets E ad l S1 A1 b a1 nP (by rw [gS 188 4 (by omega)]; exact c2.2.1) hP nS (by rw [gS 188 36 (by omega)]; exact k2) hSb (fun k => (A 166 k).toNatClampNeg) (fun k hk => ⟨by rw [gA 208 (by omega), ← (k3 k hk).2.1]; exact (kc k hk).1, Nat.lt_of_lt_of_le (kc k hk).2 hP⟩), fun r2 S2 A2 b2 hp2 => ?_⟩
  obtain ⟨⟨rfl, rfl, rfl⟩, hr2⟩ := hp2
  refine ⟨?_, Rel_ro h (fun i g1 g2 g3 g4 g5 g6 g7 => gA i g3) (fun i g1 g2 g3 g4 g5 g6 => funext (fun j => gS i j (Or.inl g5))) (gS 164 0 (by omega))⟩
  rw [hr, hr2, gA 193 (by omega), gA 207 (by omega)]
  have e0 : qsubl (A 6) (fun p => qsat (A 165) (fun k => (A 166 k).toNatClampNeg) p nS) 6 = msub (A 193) (fun p => qsat (A 207) (fun k => (A 166 k).toNatClampNeg) p nS) nP := by
    unfold qsubl msub
    refine (congrArg (qor _) (show 6 = nP + (6 - nP) by omega)).trans (qor_tail (fun p hp => ?_) (6 - nP) (fun p g1 g2 => by rw [if_pos (hN.2.2.1.2.2.1 p g1 (by omega))]))
    simp only [hsat p]
    have hl := rWin_let hP hK hN hp
    by_cases e : A 6 p = -1
    · rw [if_pos e, if_pos (hl.mp e)]
    · rw [if_neg e, if_neg (fun z => e (hl.mpr z)), hN.2.2.1.1 p hp]
  have e1 : qgst (A 6) (A 165) (fun k => (A 166 k).toNatClampNeg) nS = mgst (A 193) (fun p => qsat (A 207) (fun k => (A 166 k).toNatClampNeg) p nS) nP := by
    apply qtb_ext
    intro d hd
    unfold qgst mgst
    rw [qtb_qor hd, qtb_qor hd]
    constructor
    · intro hh p hp
      have hl := rWin_let hP hK hN hp
      by_cases e : A 193 (18 + p) < 0
      · rw [if_pos e]; exact qtb_0 hd
      · rw [if_neg e]
        have hne : ¬ A 6 p = -1 := fun z => e (hl.mp z)
        obtain ⟨c, hc, ec⟩ := (hN.2.2.1.2.1 p (by omega)).resolve_left hne
        rw [← hN.2.2.1.1 p hp, ec, qtb_and hd]
        have eb : qsb (nI c) = qbit c := rfl
        rw [eb, qtb_nbit (by omega) hd]
        by_cases edc : d = c
        · exact Or.inr edc
        · refine Or.inl ?_
          unfold qsat
          rw [qtb_qor hd]
          intro k hk
          by_cases ep : (A 166 k).toNatClampNeg = p
          · rw [if_pos ep]
            have h2 := hh k hk
            simp only [ep] at h2
            rw [if_neg hne] at h2
            obtain ⟨⟨g1, c2', g2, g3⟩, _⟩ := k3 k hk
            rw [← g1]
            by_cases g4 : A 6 p = A 165 k
            · rw [← g4, ec, eb]
              exact (qtb_bit (by omega) hd).mpr edc
            · rw [if_neg g4] at h2
              exact h2
          · rw [if_neg ep]; exact qtb_0 hd
    · intro hh k hk
      obtain ⟨⟨g1, c2', g2, g3⟩, _⟩ := k3 k hk
      have hp := (kc k hk).2
      have h2 := hh _ hp
      by_cases e : A 6 (A 166 k).toNatClampNeg = -1
      · rw [if_pos e]; exact qtb_0 hd
      · rw [if_neg e]
        by_cases g4 : A 6 (A 166 k).toNatClampNeg = A 165 k
        · rw [if_pos g4]; exact qtb_0 hd
        · rw [if_neg g4]
          have hl := rWin_let hP hK hN hp
          rw [if_neg (fun z => e (hl.mpr z)), qtb_and hd] at h2
          have eb : qsb (nI c2') = qbit c2' := rfl
          rw [g3, eb]
          refine (qtb_bit (by omega) hd).mpr (fun ed => ?_)
          rcases h2 with h2 | h2
          · unfold qsat at h2
            rw [qtb_qor hd] at h2
            have h3 := h2 k hk
            rw [if_pos rfl, ← g1, g3, eb, qtb_bit (by omega) hd] at h3
            exact h3 ed
          · obtain ⟨c, hc, ec⟩ := (hN.2.2.1.2.1 (A 166 k).toNatClampNeg (by omega)).resolve_left e
            rw [← hN.2.2.1.1 _ hp, ec] at h2
            have eb2 : qsb (nI c) = qbit c := rfl
            rw [eb2, qtb_nbit (by omega) hd] at h2
            rw [ec, g3] at g4
            exact g4 (by rw [← ed, h2])
  rw [e0, e1]
theorem st_fit (E : qE) (ad : Nat → Nat) (l : Launch) {S A : qA2} {b : qB} (h : Rel S A b) (a1 : Int32) : qTwo E ad l yX10_fit wsX10_fit { frames := 4, cells := 0, slots := 0, locals := 90 } yX11_fit wsX11_fit { frames := 2, cells := 0, slots := 0, locals := 47 } [.int a1] S A b := by
  have h' := h
  obtain ⟨nC, nP, nK, nW, nw, nc, hR⟩ := h'
  obtain ⟨hC, hP, hK, hW⟩ := Rl_bd hR
  have hR' := hR
  obtain ⟨hb, hT, hF, ⟨c0, c1, c2, c3, c4, c5, c6, c7⟩, hN, hPa, hI, hSi, hBk, hSd⟩ := hR'
  obtain ⟨nS, hSb, k1, k2, k3⟩ := hSi
  have kc : ∀ k, k < nS → A 166 k = nI (A 166 k).toNatClampNeg ∧ (A 166 k).toNatClampNeg < nP := fun k hk => by
    obtain ⟨_, _, c, hc, e⟩ := k3 k hk
    rw [e, nIc (by omega)]
    exact ⟨rfl, hc⟩
  have hsat : ∀ p, qsat (A 165) (fun k => (A 166 k).toNatClampNeg) p nS = qsat (A 207) (fun k => (A 166 k).toNatClampNeg) p nS := fun p => qor_cong nS (fun k hk => by rw [(k3 k hk).1.1])
  refine ⟨_, c_X10_fit E ad l S A b b.1 hb.1 rfl a1 nP c1.2.1 hP nK c1.2.2.1 hK nS k1 hSb (fun k => (A 166 k).toNatClampNeg) (fun k hk => ⟨(kc k hk).1, Nat.lt_of_lt_of_le (kc k hk).2 hP⟩), fun r S1 A1 b1 hp => ?_⟩
  obtain ⟨rfl, hr, gA, gS, g164⟩ := hp
  have hS1 : S1 188 = S 188 := gS 188 (by omega)
  refine ⟨_, c_X11_fit E ad l S1 A1 b a1 nP (by rw [hS1]; exact c2.2.1) hP nK (by rw [hS1]; exact c2.2.2.1) hK nS (by rw [hS1]; exact k2) hSb (fun k => (A 166 k).toNatClampNeg) (fun k hk => ⟨by rw [gA 208 (by omega), ← (k3 k hk).2.1]; exact (kc k hk).1, Nat.lt_of_lt_of_le (kc k hk).2 hP⟩), fun r2 S2 A2 b2 hp2 => ?_⟩
  obtain ⟨⟨rfl, rfl⟩, hr2, gA2⟩ := hp2
  refine ⟨?_, Rel_ro h (fun i g1 g2 g3 g4 g5 g6 g7 => (gA2 i (by omega) g7).trans (gA i ⟨g3, g4, g5⟩)) (fun i g1 g2 g3 g4 g5 g6 => gS i ⟨g5, g6⟩) g164⟩
  rw [hr, hr2, gA 207 (by omega), gA 209 (by omega)]
  refine elim_ir (by omega) (by omega) (fun w _ hw _ => ?_)
  have hall : qsall (A 165) nS = qsall (A 207) nS := qor_cong nS (fun k hk => by rw [(k3 k hk).1.1])
  have hb := wa_fit hP hK (F := fun way => qfits nP (fun p => qsat (A 165) (fun k => (A 166 k).toNatClampNeg) p nS) (qsall (A 165) nS) way) (F' := fun way => qfits nP (fun p => qsat (A 207) (fun k => (A 166 k).toNatClampNeg) p nS) (qsall (A 207) nS) way) (fun way => qfits_cong (fun p _ => hsat p) hall) (fun f g hfg => qfits_way hfg) (A 170) (qmap (fun _ _ => 0) (A 168) 6) (qmap (fun _ _ => 0) (A 209) 6) (fun k hk => by rw [qmap_in (by omega)]) (fun k hk => by rw [qmap_in (by omega)])
  by_cases e : w = 0
  · rw [if_pos e, if_pos e]
    exact hb.1
  · rw [if_neg e, if_neg e]
    congr 1
    refine qlook_cong nP (fun k hk => ?_)
    obtain ⟨x, hx, x1, x2⟩ := hb.2 k hk
    rw [x1, x2]
    exact wa_cnt hx
