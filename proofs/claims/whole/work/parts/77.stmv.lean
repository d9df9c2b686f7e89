/-! calls that change something -/
theorem st_hour (E : qE) (ad : Nat → Nat) (l : Launch) {S A : qA2} {b : qB} (h : Rel S A b) (a1 : Int32) : qTwo E ad l yX10_hour wsX10_hour { frames := 3, cells := 0, slots := 0, locals := 79 } yX11_hour wsX11_hour { frames := 5, cells := 0, slots := 0, locals := 116 } [.int a1] S A b := by
  have h' := h
  obtain ⟨nC, nP, nK, nW, nw, nc, hR⟩ := h'
  obtain ⟨hC, hP, hK, hW⟩ := Rl_bd hR
  have hR' := hR
  obtain ⟨hb, hT, hF, hPl, hN, hPa, hI, hSi, hBk, hSd⟩ := hR'
  have hPl' := hPl
  obtain ⟨c0, c1, c2, c3, c4, c5, c6, c7⟩ := hPl'
  have hbp : 174 ≤ b.1 ∧ b.1 + 7 ≤ 188 := (qpl_all hb.1).2.2
  obtain ⟨hx, hx9, hx1, hx2⟩ := Rl_hr hR
  have hre : qrefh a1 nC (S 3 6) = qrefh a1 nC (A 193 35) := by rw [hx1, hx2]
  refine ⟨_, c_X10_hour E ad l S A b b.1 hb.1 rfl a1 nC c1.1 hC nP c1.2.1 hP nW c1.2.2.2 hW hx hx1 (by omega) nw nc hPa.2.1.1 hPa.1.1 hPa.2.1.2.1 hPa.1.2, fun r S1 A1 b1 hp => ?_⟩
  obtain ⟨rfl, hp⟩ := hp
  rcases hp with ⟨hz, hr, rfl, rfl⟩ | ⟨hz, n, ⟨hn1, hn2⟩, ea, hq, hk, hr, hres, e5, e6, e7, e8, e37⟩
  · refine ⟨_, c_X11_hour E ad l S A b a1 nC c2.1 hC nP c2.2.1 hP nW c2.2.2.2 hW hx hx2 (by omega) nc hPa.2.1.2.2 hPa.1.2, fun r2 S2 A2 b2 hp2 => ?_⟩
    obtain ⟨rfl, hp2⟩ := hp2
    rcases hp2 with ⟨hz2, hr2, rfl, rfl⟩ | ⟨hz2, _⟩
    · exact ⟨hr.trans (hre.trans hr2.symm), h⟩
    · exact absurd (hre.trans hz2) hz
  · have k1 := qK_d hk
    have e188 : S1 188 = S 188 := k1.2 188 (by omega) (by omega) (by omega) (by omega)
    have e193 : A1 193 = A 193 := k1.1 193 (by omega) (by omega)
    refine ⟨_, c_X11_hour E ad l S1 A1 b a1 nC (by rw [e188]; exact c2.1) hC nP (by rw [e188]; exact c2.2.1) hP nW (by rw [e188]; exact c2.2.2.2) hW hx (by rw [e193]; exact hx2) (by omega) nc (by rw [e188]; exact hPa.2.1.2.2) hPa.1.2, fun r2 S2 A2 b2 hp2 => ?_⟩
    obtain ⟨rfl, hp2⟩ := hp2
    rcases hp2 with ⟨hz2, _⟩ | ⟨_, n2, ⟨hn3, hn4⟩, ea2, hq2, hk2, hr2, hres2⟩
    · (try rw [e193] at hz2)
      exact absurd (hre.symm.trans hz) hz2
    · have k2 := mK_d hk2
      have en : n2 = n := (nI_eq (by omega) (by omega)).mp (ea2.symm.trans ea)
      subst en
      rw [e188, e193, k1.1 191 (by omega) (by omega), k1.1 192 (by omega) (by omega)] at hres2
      have hpass := Rl_pass hR (qrefh_0 hz).2.1 (n := n2) (by omega)
      obtain ⟨hp1, hp2, x, ex, _, ex3⟩ := hpass
      rw [← hres] at hp1 hp2 ex3
      rw [← hres2] at hp1
      have hx0 : x ≤ 9000 := by
        have h9 := (qrefh_0 hz).2.2
        rw [ex] at h9
        have hxx : x = hx := (nI_eq (by omega) (by omega)).mp (ex.symm.trans hx1)
        exact (nI_leI (b := 9000) (by omega) (by omega)).mp h9
      have hN2 : rWin nC nP nK (A1 4) (A1 5) (A1 6) (A1 7) (A1 8) (S1 3 5) (S1 3 6) (S1 3 7) (A2 193) := by
        rw [e5, e6, e7, e8, e37]
        exact rWin_hours hC hP hK hN hp1 hp2 ex3 (by omega) (fun a ha => (congrFun (congrArg Prod.fst hres) a).trans (qpass_out ha n2)) (fun a g1 g2 g3 => by rw [hres2]; exact mpass_hi hC g1 g2 g3 n2)
      refine ⟨?_, Rl_noted hR hq k1 hq2 k2 (rNow_k k2 hN2) (rSd_k hSd hk hk2)⟩
      rw [hr, hr2, rWin_sum hC hN2]
theorem st_drift (E : qE) (ad : Nat → Nat) (l : Launch) {S A : qA2} {b : qB} (h : Rel S A b) (a1 : Int32) : qTwo E ad l yX10_drift wsX10_drift { frames := 3, cells := 0, slots := 0, locals := 60 } yX11_drift wsX11_drift { frames := 4, cells := 0, slots := 0, locals := 95 } [.int a1] S A b := by
  have h' := h
  obtain ⟨nC, nP, nK, nW, nw, nc, hR⟩ := h'
  obtain ⟨hC, hP, hK, hW⟩ := Rl_bd hR
  have hR' := hR
  obtain ⟨hb, hT, hF, hPl, hN, hPa, hI, hSi, hBk, hSd⟩ := hR'
  have hPl' := hPl
  obtain ⟨c0, c1, c2, c3, c4, c5, c6, c7⟩ := hPl'
  have hbp : 174 ≤ b.1 ∧ b.1 + 7 ≤ 188 := (qpl_all hb.1).2.2
  obtain ⟨hx, hx9, hx1, hx2⟩ := Rl_hr hR
  have hre : qrefh a1 nC (S 3 6) = qrefh a1 nC (A 193 35) := by rw [hx1, hx2]
  refine ⟨_, c_X10_drift E ad l S A b b.1 hb.1 rfl a1 nC c1.1 hC nP c1.2.1 hP nW c1.2.2.2 hW hx hx1 (by omega) nw nc hPa.2.1.1 hPa.1.1 hPa.2.1.2.1 hPa.1.2, fun r S1 A1 b1 hp => ?_⟩
  obtain ⟨rfl, hp⟩ := hp
  rcases hp with ⟨hz, hr, rfl, rfl⟩ | ⟨hz, n, ⟨hn1, hn2⟩, ea, hq, k1, hr, hres, e5, e6, e7, e8, e37⟩
  · refine ⟨_, c_X11_drift E ad l S A b a1 nC c2.1 hC nP c2.2.1 hP nc hPa.2.1.2.2 hPa.1.2, fun r2 S2 A2 b2 hp2 => ?_⟩
    obtain ⟨rfl, hp2⟩ := hp2
    rcases hp2 with ⟨hz2, hr2, rfl, rfl⟩ | ⟨hz2, _⟩
    · exact ⟨hr.trans (hre.trans hr2.symm), h⟩
    · exact absurd (hre.trans hz2) hz
  · skip
    have e188 : S1 188 = S 188 := k1.2 188 (by omega) (by omega) (by omega) (by omega)
    have e193 : A1 193 = A 193 := k1.1 193 (by omega) (by omega)
    refine ⟨_, c_X11_drift E ad l S1 A1 b a1 nC (by rw [e188]; exact c2.1) hC nP (by rw [e188]; exact c2.2.1) hP nc (by rw [e188]; exact hPa.2.1.2.2) hPa.1.2, fun r2 S2 A2 b2 hp2 => ?_⟩
    obtain ⟨rfl, hp2⟩ := hp2
    rcases hp2 with ⟨hz2, _⟩ | ⟨_, n2, ⟨hn3, hn4⟩, ea2, hq2, k2, hr2, hres2⟩
    · (try rw [e193] at hz2)
      exact absurd (hre.symm.trans hz) hz2
    · skip
      have en : n2 = n := (nI_eq (by omega) (by omega)).mp (ea2.symm.trans ea)
      subst en
      rw [e188, e193, ← hSd.1] at hres2
      rw [(c4 (qrefh_0 hz).2.1).1] at hres
      obtain ⟨sy, hsy, esy⟩ := hSd.2
      have hh := rWin_hR hC hP hK hN
      have hd := hq_drift hC hP (B := S 188 1) hh.1 hh.2 (x := hx) hx1 (y := sy) hsy esy n2
      rw [← hres, ← hres2] at hd
      obtain ⟨d1, d2, d3, d4, z, hz1, hz2⟩ := hd
      have hx0 : hx ≤ 9000 := by
        have h9 := (qrefh_0 hz).2.2
        rw [hx1] at h9
        exact (nI_leI (b := 9000) (by omega) (by omega)).mp h9
      have hN2 : rWin nC nP nK (A1 4) (A1 5) (A1 6) (A1 7) (A1 8) (S1 3 5) (S1 3 6) (S1 3 7) (A2 193) := by
        rw [e5, e6, e7, e8, e37]
        exact rWin_hours hC hP hK hN d1 d3 d4 (by omega) (fun a ha => (congrFun (congrArg (fun z => z.1.1) hres) a).trans (qdrift_out ha n2)) (fun a g1 g2 g3 => (congrFun (congrArg Prod.fst hres2) a).trans (mdrift_hi hC g1 g2 g3 n2))
      refine ⟨?_, Rl_noted hR hq k1 hq2 k2 (rNow_k k2 hN2) ⟨(k2.2 137 0 (by omega)).trans d2, z, hz1, (k2.2 137 0 (by omega)).trans hz2⟩⟩
      rw [hr, hr2, rWin_sum hC hN2]
theorem st_let (E : qE) (ad : Nat → Nat) (l : Launch) {S A : qA2} {b : qB} (h : Rel S A b) (a1 a2 : Int32) : qTwo E ad l yX10_let wsX10_let { frames := 3, cells := 0, slots := 0, locals := 60 } yX11_let wsX11_let { frames := 2, cells := 0, slots := 0, locals := 46 } [.int a1, .int a2] S A b := by
  have h' := h
  obtain ⟨nC, nP, nK, nW, nw, nc, hR⟩ := h'
  obtain ⟨hC, hP, hK, hW⟩ := Rl_bd hR
  have hR' := hR
  obtain ⟨hb, hT, hF, hPl, hN, hPa, hI, hSi, hBk, hSd⟩ := hR'
  have hPl' := hPl
  obtain ⟨c0, c1, c2, c3, c4, c5, c6, c7⟩ := hPl'
  have hbp : 174 ≤ b.1 ∧ b.1 + 7 ≤ 188 := (qpl_all hb.1).2.2
  have hre : ∀ {α : Type} (u z w : α), (qix a1 nP).elim u (fun k => (qix a2 nK).elim u (fun c => if A 6 k = -1 ∧ qfind (A 6) (nI c) 0 6 = -1 then z else w)) = (qix a1 nP).elim u (fun k => (qix a2 nK).elim u (fun c => if A 193 (18 + k) < 0 ∧ mpost (A 193) (nI c) nP < 0 then z else w)) := fun u z w => elim_ixG (by omega) (fun k hk _ => elim_ixG (by omega) (fun c hc _ => iteI (by rw [rWin_let hP hK hN hk, ← rWin_post hP hK hN hc, qfind_neg (by omega)]) _ _))
  refine ⟨_, c_X10_let E ad l S A b b.1 hb.1 rfl a1 a2 nP c1.2.1 hP nK c1.2.2.1 hK nw nc hPa.2.1.1 hPa.1.1 hPa.2.1.2.1 hPa.1.2, fun r S1 A1 b1 hp => ?_⟩
  obtain ⟨rfl, hp⟩ := hp
  rcases hp with ⟨hz, hr, rfl, rfl⟩ | ⟨hz, k, c, hk0, hc0, ea, eb, hq, hk, hr, e6, e8, e4, e5, e7, e35, e37, e36⟩
  · refine ⟨_, c_X11_let E ad l S A b a1 a2 nP c2.2.1 hP nK c2.2.2.1 hK nc hPa.2.1.2.2 hPa.1.2, fun r2 S2 A2 b2 hp2 => ?_⟩
    obtain ⟨rfl, hp2⟩ := hp2
    rcases hp2 with ⟨hz2, hr2, rfl, rfl⟩ | ⟨hz2, _⟩
    · exact ⟨hr.trans ((hre _ _ _).trans hr2.symm), h⟩
    · exact absurd ((hre _ _ _).trans hz2) hz
  · have k1 := qK_d hk
    have e188 : S1 188 = S 188 := k1.2 188 (by omega) (by omega) (by omega) (by omega)
    have e193 : A1 193 = A 193 := k1.1 193 (by omega) (by omega)
    refine ⟨_, c_X11_let E ad l S1 A1 b a1 a2 nP (by rw [e188]; exact c2.2.1) hP nK (by rw [e188]; exact c2.2.2.1) hK nc (by rw [e188]; exact hPa.2.1.2.2) hPa.1.2, fun r2 S2 A2 b2 hp2 => ?_⟩
    obtain ⟨rfl, hp2⟩ := hp2
    rcases hp2 with ⟨hz2, _⟩ | ⟨_, ku, cv, hk3, hc3, ea2, eb2, hq2, hk2, hr2, hres2⟩
    · (try rw [e193] at hz2)
      exact absurd ((hre _ _ _).symm.trans hz) hz2
    · have k2 := mK_d hk2
      have ek : ku = k := (nI_eq (by omega) (by omega)).mp (ea2.symm.trans ea)
      have ec : cv = c := (nI_eq (by omega) (by omega)).mp (eb2.symm.trans eb)
      subst ek ec
      have hz' : (if A 6 ku = -1 ∧ qfind (A 6) (nI cv) 0 6 = -1 then (0 : Int) else (-1000000003)) = 0 := by
        have := hz
        rw [ea, eb, qix_in hk0 (by omega), qix_in hc0 (by omega)] at this
        exact this
      have hcond : A 6 ku = -1 ∧ qfind (A 6) (nI cv) 0 6 = -1 := by
        by_cases e : A 6 ku = -1 ∧ qfind (A 6) (nI cv) 0 6 = -1
        · exact e
        · rw [if_neg e] at hz'
          exact absurd hz' (by decide)
      have hno := (qfind_m1 (f := A 6) (c := nI cv) 6 0 (by omega)).mp hcond.2
      have e190 : A1 190 = A 190 := k1.1 190 (by omega) (by omega)
      have e189 : A1 189 = A 189 := k1.1 189 (by omega) (by omega)
      have pr : A 7 cv + A (b.1 + 4) cv * A (b.1 + 2) ku = A 193 (25 + cv) + A 190 cv * A 189 ku := by rw [(hN.2.2.2.1 cv hc0).1, c6 cv hc0, c5 ku hk0]
      rw [e193, e190, e189] at hres2 hr2
      rw [pr] at hr e8 e37
      have hN2 : rWin nC nP nK (A1 4) (A1 5) (A1 6) (A1 7) (A1 8) (S1 3 5) (S1 3 6) (S1 3 7) (A2 193) := by
        rw [e4, e5, e6, e7, e8, e35, e36, e37, hres2, hN.2.2.2.2.1 cv hc0, hN.2.2.2.2.2.2.2]
        exact rWin_lease hC hP hK hN hk0 hc0 (fun j hj => hno j (by omega) (by omega)) _ _
      refine ⟨?_, Rl_noted hR hq k1 hq2 k2 (rNow_k k2 hN2) (rSd_k hSd hk hk2)⟩
      rw [hr, hr2]
theorem st_giveUp (E : qE) (ad : Nat → Nat) (l : Launch) {S A : qA2} {b : qB} (h : Rel S A b) (a1 : Int32) : qTwo E ad l yX10_giveUp wsX10_giveUp { frames := 3, cells := 0, slots := 0, locals := 60 } yX11_giveUp wsX11_giveUp { frames := 2, cells := 0, slots := 0, locals := 46 } [.int a1] S A b := by
  have h' := h
  obtain ⟨nC, nP, nK, nW, nw, nc, hR⟩ := h'
  obtain ⟨hC, hP, hK, hW⟩ := Rl_bd hR
  have hR' := hR
  obtain ⟨hb, hT, hF, hPl, hN, hPa, hI, hSi, hBk, hSd⟩ := hR'
  have hPl' := hPl
  obtain ⟨c0, c1, c2, c3, c4, c5, c6, c7⟩ := hPl'
  have hbp : 174 ≤ b.1 ∧ b.1 + 7 ≤ 188 := (qpl_all hb.1).2.2
  have hre : ∀ {α : Type} (u z w : α), (qix a1 nP).elim u (fun k => if A 6 k = -1 then w else z) = (qix a1 nP).elim u (fun k => if A 193 (18 + k) < 0 then w else z) := fun u z w => elim_ixG (by omega) (fun k hk _ => iteI (rWin_let hP hK hN hk) _ _)
  refine ⟨_, c_X10_giveUp E ad l S A b b.1 hb.1 rfl a1 nP c1.2.1 hP nw nc hPa.2.1.1 hPa.1.1 hPa.2.1.2.1 hPa.1.2, fun r S1 A1 b1 hp => ?_⟩
  obtain ⟨rfl, hp⟩ := hp
  rcases hp with ⟨hz, hr, rfl, rfl⟩ | ⟨hz, k, hk0, ea, hq, hk, hr, e6, e4, e5, e7, e8, e35, e36, e37⟩
  · refine ⟨_, c_X11_giveUp E ad l S A b a1 nP c2.2.1 hP nc hPa.2.1.2.2 hPa.1.2, fun r2 S2 A2 b2 hp2 => ?_⟩
    obtain ⟨rfl, hp2⟩ := hp2
    rcases hp2 with ⟨hz2, hr2, rfl, rfl⟩ | ⟨hz2, _⟩
    · exact ⟨hr.trans ((hre _ _ _).trans hr2.symm), h⟩
    · exact absurd ((hre _ _ _).trans hz2) hz
  · have k1 := qK_d hk
    have e188 : S1 188 = S 188 := k1.2 188 (by omega) (by omega) (by omega) (by omega)
    have e193 : A1 193 = A 193 := k1.1 193 (by omega) (by omega)
    refine ⟨_, c_X11_giveUp E ad l S1 A1 b a1 nP (by rw [e188]; exact c2.2.1) hP nc (by rw [e188]; exact hPa.2.1.2.2) hPa.1.2, fun r2 S2 A2 b2 hp2 => ?_⟩
    obtain ⟨rfl, hp2⟩ := hp2
    rcases hp2 with ⟨hz2, _⟩ | ⟨_, ku, hk3, ea2, hq2, hk2, hr2, hres2⟩
    · (try rw [e193] at hz2)
      exact absurd ((hre _ _ _).symm.trans hz) hz2
    · have k2 := mK_d hk2
      have ek : ku = k := (nI_eq (by omega) (by omega)).mp (ea2.symm.trans ea)
      subst ek
      rw [e193] at hres2 hr2
      have hN2 : rWin nC nP nK (A1 4) (A1 5) (A1 6) (A1 7) (A1 8) (S1 3 5) (S1 3 6) (S1 3 7) (A2 193) := by
        rw [e4, e5, e6, e7, e8, e35, e36, e37, hres2]
        exact rWin_give hC hP hK hN hk0
      refine ⟨?_, Rl_noted hR hq k1 hq2 k2 (rNow_k k2 hN2) (rSd_k hSd hk hk2)⟩
      rw [hr, hr2, hN.2.2.1.1 ku hk0]
theorem st_move (E : qE) (ad : Nat → Nat) (l : Launch) {S A : qA2} {b : qB} (h : Rel S A b) (a1 a2 : Int32) : qTwo E ad l yX10_move wsX10_move { frames := 3, cells := 0, slots := 0, locals := 60 } yX11_move wsX11_move { frames := 3, cells := 0, slots := 0, locals := 70 } [.int a1, .int a2] S A b := by
  have h' := h
  obtain ⟨nC, nP, nK, nW, nw, nc, hR⟩ := h'
  obtain ⟨hC, hP, hK, hW⟩ := Rl_bd hR
  have hR' := hR
  obtain ⟨hb, hT, hF, hPl, hN, hPa, hI, hSi, hBk, hSd⟩ := hR'
  have hPl' := hPl
  obtain ⟨c0, c1, c2, c3, c4, c5, c6, c7⟩ := hPl'
  have hbp : 174 ≤ b.1 ∧ b.1 + 7 ≤ 188 := (qpl_all hb.1).2.2
  have e5c := fun j hj => (hN.2.1 j hj).1
  have hfr : ∀ k, k < nP → qfree (A 5) nC nP (A 5 k + (if a2 = 0 then -1 else 1)) = qfree (fun j => A 193 (12 + j)) nC nP (A 193 (12 + k) + (if a2 = 0 then -1 else 1)) := fun k hk => by rw [qfree_cong e5c, e5c k hk]
  have hre : ∀ {α : Type} (u z w : α), (qix a1 nP).elim u (fun k => if qfree (A 5) nC nP (A 5 k + (if a2 = 0 then -1 else 1)) = -1 then w else z) = (qix a1 nP).elim u (fun k => if qfree (fun j => A 193 (12 + j)) nC nP (A 193 (12 + k) + (if a2 = 0 then -1 else 1)) = -1 then w else z) := fun u z w => elim_ixG (by omega) (fun k hk _ => iteI (by rw [hfr k hk]) _ _)
  refine ⟨_, c_X10_move E ad l S A b b.1 hb.1 rfl a1 a2 nC c1.1 hC nP c1.2.1 hP nw nc hPa.2.1.1 hPa.1.1 hPa.2.1.2.1 hPa.1.2, fun r S1 A1 b1 hp => ?_⟩
  obtain ⟨rfl, hp⟩ := hp
  rcases hp with ⟨hz, hr, rfl, rfl⟩ | ⟨hz, k, hk0, ea, hq, hk, hr, e5, e4, e6, e7, e8, e35, e36, e37⟩
  · refine ⟨_, c_X11_move E ad l S A b a1 a2 nC c2.1 hC nP c2.2.1 hP nc hPa.2.1.2.2 hPa.1.2, fun r2 S2 A2 b2 hp2 => ?_⟩
    obtain ⟨rfl, hp2⟩ := hp2
    rcases hp2 with ⟨hz2, hr2, rfl, rfl⟩ | ⟨hz2, _⟩
    · exact ⟨hr.trans ((hre _ _ _).trans hr2.symm), h⟩
    · exact absurd ((hre _ _ _).trans hz2) hz
  · have k1 := qK_d hk
    have e188 : S1 188 = S 188 := k1.2 188 (by omega) (by omega) (by omega) (by omega)
    have e193 : A1 193 = A 193 := k1.1 193 (by omega) (by omega)
    refine ⟨_, c_X11_move E ad l S1 A1 b a1 a2 nC (by rw [e188]; exact c2.1) hC nP (by rw [e188]; exact c2.2.1) hP nc (by rw [e188]; exact hPa.2.1.2.2) hPa.1.2, fun r2 S2 A2 b2 hp2 => ?_⟩
    obtain ⟨rfl, hp2⟩ := hp2
    rcases hp2 with ⟨hz2, _⟩ | ⟨_, ku, hk3, ea2, hq2, hk2, hr2, hres2⟩
    · (try rw [e193] at hz2)
      exact absurd ((hre _ _ _).symm.trans hz) hz2
    · have k2 := mK_d hk2
      have ek : ku = k := (nI_eq (by omega) (by omega)).mp (ea2.symm.trans ea)
      subst ek
      have hz' : (if qfree (A 5) nC nP (A 5 ku + (if a2 = 0 then -1 else 1)) = -1 then (-1000000003) else (0 : Int)) = 0 := by
        have := hz
        rw [ea, qix_in hk0 (by omega)] at this
        exact this
      have hcond : ¬ qfree (A 5) nC nP (A 5 ku + (if a2 = 0 then -1 else 1)) = -1 := fun e => by
        rw [if_pos e] at hz'
        exact absurd hz' (by decide)
      obtain ⟨v1, c, hc, v2⟩ := qfree_val hC hcond
      rw [e193, ← e5c ku hk0, v2] at hres2 hr2
      rw [v1, v2] at hr e5
      have hN2 : rWin nC nP nK (A1 4) (A1 5) (A1 6) (A1 7) (A1 8) (S1 3 5) (S1 3 6) (S1 3 7) (A2 193) := by
        rw [e4, e5, e6, e7, e8, e35, e36, e37, hres2]
        exact rWin_move hC hP hK hN hk0 hc
      refine ⟨?_, Rl_noted hR hq k1 hq2 k2 (rNow_k k2 hN2) (rSd_k hSd hk hk2)⟩
      rw [hr, hr2]
theorem st_thaw (E : qE) (ad : Nat → Nat) (l : Launch) {S A : qA2} {b : qB} (h : Rel S A b) (a1 : Int32) : qTwo E ad l yX10_thaw wsX10_thaw { frames := 3, cells := 0, slots := 0, locals := 60 } yX11_thaw wsX11_thaw { frames := 1, cells := 0, slots := 0, locals := 25 } [.int a1] S A b := by
  have h' := h
  obtain ⟨nC, nP, nK, nW, nw, nc, hR⟩ := h'
  obtain ⟨hC, hP, hK, hW⟩ := Rl_bd hR
  have hR' := hR
  obtain ⟨hb, hT, hF, hPl, hN, hPa, hI, hSi, hBk, hSd⟩ := hR'
  have hPl' := hPl
  obtain ⟨c0, c1, c2, c3, c4, c5, c6, c7⟩ := hPl'
  have hbp : 174 ≤ b.1 ∧ b.1 + 7 ≤ 188 := (qpl_all hb.1).2.2
  have hre : ∀ {α : Type} (u : α), u = u := fun _ => rfl
  refine ⟨_, c_X10_thaw E ad l S A b b.1 hb.1 rfl a1 nC c1.1 hC nw nc hPa.2.1.1 hPa.1.1 hPa.2.1.2.1 hPa.1.2, fun r S1 A1 b1 hp => ?_⟩
  obtain ⟨rfl, hp⟩ := hp
  rcases hp with ⟨hz, hr, rfl, rfl⟩ | ⟨hz, t, ⟨ht1, ht2⟩, ea, hq, hk, hr, e4, e5, e6, e7, e8, e35, e36, e37⟩
  · refine ⟨_, c_X11_thaw E ad l S A b a1 nC c2.1 hC nc hPa.2.1.2.2 hPa.1.2, fun r2 S2 A2 b2 hp2 => ?_⟩
    obtain ⟨rfl, hp2⟩ := hp2
    rcases hp2 with ⟨hz2, hr2, rfl, rfl⟩ | ⟨hz2, _⟩
    · exact ⟨hr.trans ((hre _).trans hr2.symm), h⟩
    · exact absurd ((hre _).trans hz2) hz
  · have k1 := qK_d hk
    have e188 : S1 188 = S 188 := k1.2 188 (by omega) (by omega) (by omega) (by omega)
    have e193 : A1 193 = A 193 := k1.1 193 (by omega) (by omega)
    refine ⟨_, c_X11_thaw E ad l S1 A1 b a1 nC (by rw [e188]; exact c2.1) hC nc (by rw [e188]; exact hPa.2.1.2.2) hPa.1.2, fun r2 S2 A2 b2 hp2 => ?_⟩
    obtain ⟨rfl, hp2⟩ := hp2
    rcases hp2 with ⟨hz2, _⟩ | ⟨_, t2, ⟨ht3, ht4⟩, ea2, hq2, hk2, hr2, hres2⟩
    · (try rw [e193] at hz2)
      exact absurd ((hre _).symm.trans hz) hz2
    · have k2 := mK_d hk2
      have ek : t2 = t := (nI_eq (by omega) (by omega)).mp (ea2.symm.trans ea)
      subst ek
      rw [e193] at hres2
      have hN2 : rWin nC nP nK (A1 4) (A1 5) (A1 6) (A1 7) (A1 8) (S1 3 5) (S1 3 6) (S1 3 7) (A2 193) := by
        rw [e4, e5, e6, e7, e8, e35, e36, e37, hres2]
        exact rWin_thaw hC hP hK hN ht2
      refine ⟨?_, Rl_noted hR hq k1 hq2 k2 (rNow_k k2 hN2) (rSd_k hSd hk hk2)⟩
      rw [hr, hr2, rWin_sum hC hN2]
theorem st_shout (E : qE) (ad : Nat → Nat) (l : Launch) {S A : qA2} {b : qB} (h : Rel S A b) (a1 : Int32) : qTwo E ad l yX10_shout wsX10_shout { frames := 3, cells := 0, slots := 0, locals := 60 } yX11_shout wsX11_shout { frames := 2, cells := 0, slots := 0, locals := 46 } [.int a1] S A b := by
  have h' := h
  obtain ⟨nC, nP, nK, nW, nw, nc, hR⟩ := h'
  obtain ⟨hC, hP, hK, hW⟩ := Rl_bd hR
  have hR' := hR
  obtain ⟨hb, hT, hF, hPl, hN, hPa, hI, hSi, hBk, hSd⟩ := hR'
  have hPl' := hPl
  obtain ⟨c0, c1, c2, c3, c4, c5, c6, c7⟩ := hPl'
  have hbp : 174 ≤ b.1 ∧ b.1 + 7 ≤ 188 := (qpl_all hb.1).2.2
  have hre : ∀ {α : Type} (u : α), u = u := fun _ => rfl
  refine ⟨_, c_X10_shout E ad l S A b b.1 hb.1 rfl a1 nK c1.2.2.1 hK nw nc hPa.2.1.1 hPa.1.1 hPa.2.1.2.1 hPa.1.2, fun r S1 A1 b1 hp => ?_⟩
  obtain ⟨rfl, hp⟩ := hp
  rcases hp with ⟨hz, hr, rfl, rfl⟩ | ⟨hz, k, hk0, ea, hq, hk, hr, e7, e4, e5, e6, e8, e35, e36, e37⟩
  · refine ⟨_, c_X11_shout E ad l S A b a1 nK c2.2.2.1 hK nc hPa.2.1.2.2 hPa.1.2, fun r2 S2 A2 b2 hp2 => ?_⟩
    obtain ⟨rfl, hp2⟩ := hp2
    rcases hp2 with ⟨hz2, hr2, rfl, rfl⟩ | ⟨hz2, _⟩
    · exact ⟨hr.trans ((hre _).trans hr2.symm), h⟩
    · exact absurd ((hre _).trans hz2) hz
  · have k1 := qK_d hk
    have e188 : S1 188 = S 188 := k1.2 188 (by omega) (by omega) (by omega) (by omega)
    have e193 : A1 193 = A 193 := k1.1 193 (by omega) (by omega)
    refine ⟨_, c_X11_shout E ad l S1 A1 b a1 nK (by rw [e188]; exact c2.2.2.1) hK nc (by rw [e188]; exact hPa.2.1.2.2) hPa.1.2, fun r2 S2 A2 b2 hp2 => ?_⟩
    obtain ⟨rfl, hp2⟩ := hp2
    rcases hp2 with ⟨hz2, _⟩ | ⟨_, ku, hk3, ea2, hq2, hk2, hr2, hres2⟩
    · (try rw [e193] at hz2)
      exact absurd ((hre _).symm.trans hz) hz2
    · have k2 := mK_d hk2
      have ek : ku = k := (nI_eq (by omega) (by omega)).mp (ea2.symm.trans ea)
      subst ek
      obtain ⟨b1, x, hx, b2⟩ := hN.2.2.2.1 ku hk0
      have hsh := i32_shout hx
      rw [e193, ← b1, b2, hsh.2] at hres2 hr2
      rw [b2, hsh.1] at hr e7
      have hN2 : rWin nC nP nK (A1 4) (A1 5) (A1 6) (A1 7) (A1 8) (S1 3 5) (S1 3 6) (S1 3 7) (A2 193) := by
        rw [e4, e5, e6, e7, e8, e35, e36, e37, hres2]
        exact rWin_shout hC hP hK hN hk0 (by omega)
      refine ⟨?_, Rl_noted hR hq k1 hq2 k2 (rNow_k k2 hN2) (rSd_k hSd hk hk2)⟩
      rw [hr, hr2]
theorem st_feed (E : qE) (ad : Nat → Nat) (l : Launch) {S A : qA2} {b : qB} (h : Rel S A b) (a1 : Int32) : qTwo E ad l yX10_feed wsX10_feed { frames := 1, cells := 0, slots := 0, locals := 22 } yX11_feed wsX11_feed { frames := 1, cells := 0, slots := 0, locals := 25 } [.int a1] S A b := by
  have h' := h
  obtain ⟨nC, nP, nK, nW, nw, nc, hR⟩ := h'
  obtain ⟨hC, hP, hK, hW⟩ := Rl_bd hR
  have hR' := hR
  obtain ⟨hb, hT, hF, hPl, hN, hPa, hI, hSi, hBk, hSd⟩ := hR'
  have hPl' := hPl
  obtain ⟨c0, c1, c2, c3, c4, c5, c6, c7⟩ := hPl'
  have hbp : 174 ≤ b.1 ∧ b.1 + 7 ≤ 188 := (qpl_all hb.1).2.2
  obtain ⟨tn, ht1, ht2, ht3, ht4⟩ := hT
  refine ⟨_, c_X10_feed E ad l S A b a1 tn ht2 ht1, fun r S1 A1 b1 hp => ?_⟩
  obtain ⟨rfl, hp⟩ := hp
  rcases hp with ⟨hz, hr, rfl, rfl⟩ | ⟨hz, k, hk, ea, hr, eS, eA⟩
  · refine ⟨_, c_X11_feed E ad l S A b a1 tn ht3 ht1, fun r2 S2 A2 b2 hp2 => ?_⟩
    obtain ⟨rfl, hp2⟩ := hp2
    rcases hp2 with ⟨hz2, hr2, rfl, rfl⟩ | ⟨hz2, _⟩
    · exact ⟨by rw [hr, hr2], h⟩
    · exact absurd hz2 hz
  · refine ⟨_, c_X11_feed E ad l S1 A1 b a1 tn (by rw [eS, q2_or _ _ (by omega)]; exact ht3) ht1, fun r2 S2 A2 b2 hp2 => ?_⟩
    obtain ⟨rfl, hp2⟩ := hp2
    rcases hp2 with ⟨hz2, _⟩ | ⟨_, k2, hk2, ea2, hr2, eS2, eA2⟩
    · exact absurd hz hz2
    · have ek : k2 = k := (nI_eq (by omega) (by omega)).mp (ea2.symm.trans ea)
      subst ek eS eA eS2 eA2
      have gS : ∀ i, (i ≠ 1 ∧ i ≠ 188) → q2 (q2 S 1 1 (nI (tn + 1))) 188 14 (nI (tn + 1)) i = S i := fun i hi => by rw [q2_or _ _ hi.2, q2_or _ _ hi.1]
      have g188 : ∀ j, j ≠ 14 → q2 (q2 S 1 1 (nI (tn + 1))) 188 14 (nI (tn + 1)) 188 j = S 188 j := fun j hj => by rw [q2_k _ _ hj, q2_or _ _ (by omega)]
      have gA : ∀ i, (i ≠ 2 ∧ i ≠ 194) → q2 (q2 A 2 tn (nI k2)) 194 tn (nI k2) i = A i := fun i hi => by rw [q2_or _ _ hi.2, q2_or _ _ hi.1]
      have ht0 : tn < 240 := by
        rcases Nat.lt_or_ge tn 240 with g | g
        · exact g
        · rw [ea, qir_in (by omega) hk (by omega)] at hz
          have hz' : (if tn < 240 then (0 : Int) else (-1000000004)) = 0 := hz
          rw [if_neg (by omega)] at hz'
          exact absurd hz' (by decide)
      have hT' : rTxt (q2 (q2 S 1 1 (nI (tn + 1))) 188 14 (nI (tn + 1))) (q2 (q2 A 2 tn (nI k2)) 194 tn (nI k2)) := by
        refine ⟨tn + 1, by omega, by rw [q2_o _ _ (by omega), q2_s], by rw [q2_s], fun j hj => ?_⟩
        rw [q2_o (i := 2) (o := 194) _ _ (by omega)]
        by_cases e : j = tn
        · subst e
          rw [q2_s, q2_s]
          exact ⟨rfl, k2, hk, rfl⟩
        · simp only [q2_k _ _ e]
          exact ht4 j (by omega)
      exact ⟨by rw [hr, hr2], ⟨nC, nP, nK, nW, nw, nc, hb, hT', by simpa [q2] using hF, rPlan_cg hPl (gS (b.1) (by omega)) (fun j hj => (g188 (j) (by omega))) (fun j hj => (gA (b.1 + j) (by omega))) (fun j h1 h2 => (gA (j) (by omega))), rNow_cg hN (gS (3) (by omega)) (fun j h1 h2 => (gA (j) (by omega))) (gA (193) (by omega)), rPast_cg hPa (gS (15) (by omega)) (g188 (30) (by omega)) (fun j h1 h2 => ⟨(gS (j) (by omega)), (gA (j) (by omega))⟩) (gA (202) (by omega)), ⟨rImg_cg hI.1 (gS (139) (by omega)) (gS (139 + 1) (by omega)) (fun j h1 h2 => (gA (j) (by omega))) (gA (212) (by omega)) (gA (213) (by omega)), rImg_cg hI.2 (gS (146) (by omega)) (gS (146 + 1) (by omega)) (fun j h1 h2 => (gA (j) (by omega))) (gA (212) (by omega)) (gA (213) (by omega))⟩, rSit_cg hSi (congrFun (gS (164) (by omega)) 0) (g188 (36) (by omega)) (gA (165) (by omega)) (gA (166) (by omega)) (gA (207) (by omega)) (gA (208) (by omega)), rBk_cg hBk (congrFun (gS (171) (by omega)) 0) (g188 (40) (by omega)) (gA (172) (by omega)) (gA (173) (by omega)) (gA (210) (by omega)) (gA (211) (by omega)), rSd_cg hSd (congrFun (gS (137) (by omega)) 0) (g188 (12) (by omega))⟩⟩
theorem st_see (E : qE) (ad : Nat → Nat) (l : Launch) {S A : qA2} {b : qB} (h : Rel S A b) (a1 a2 : Int32) : qTwo E ad l yX10_see wsX10_see { frames := 2, cells := 0, slots := 0, locals := 43 } yX11_see wsX11_see { frames := 2, cells := 0, slots := 0, locals := 46 } [.int a1, .int a2] S A b := by
  have h' := h
  obtain ⟨nC, nP, nK, nW, nw, nc, hR⟩ := h'
  obtain ⟨hC, hP, hK, hW⟩ := Rl_bd hR
  have hR' := hR
  obtain ⟨hb, hT, hF, hPl, hN, hPa, hI, hSi, hBk, hSd⟩ := hR'
  have hPl' := hPl
  obtain ⟨c0, c1, c2, c3, c4, c5, c6, c7⟩ := hPl'
  have hbp : 174 ≤ b.1 ∧ b.1 + 7 ≤ 188 := (qpl_all hb.1).2.2
  obtain ⟨tn, ht1, ht2, ht3, ht4⟩ := hSi
  refine ⟨_, c_X10_see E ad l S A b b.1 hb.1 rfl a1 a2 nP c1.2.1 hP nK c1.2.2.1 hK tn ht2 ht1, fun r S1 A1 b1 hp => ?_⟩
  obtain ⟨rfl, hp⟩ := hp
  rcases hp with ⟨hz, hr, rfl, rfl⟩ | ⟨hz, c, k, hc0, hk0, ea, eb, hr, eS, eA⟩
  · refine ⟨_, c_X11_see E ad l S A b a1 a2 nP c2.2.1 hP nK c2.2.2.1 hK tn ht3 ht1, fun r2 S2 A2 b2 hp2 => ?_⟩
    obtain ⟨rfl, hp2⟩ := hp2
    rcases hp2 with ⟨hz2, hr2, rfl, rfl⟩ | ⟨hz2, _⟩
    · exact ⟨by rw [hr, hr2], h⟩
    · exact absurd hz2 hz
  · have e188 : S1 188 = S 188 := by rw [eS, q2_or _ _ (by omega)]
    refine ⟨_, c_X11_see E ad l S1 A1 b a1 a2 nP (by rw [e188]; exact c2.2.1) hP nK (by rw [e188]; exact c2.2.2.1) hK tn (by rw [e188]; exact ht3) ht1, fun r2 S2 A2 b2 hp2 => ?_⟩
    obtain ⟨rfl, hp2⟩ := hp2
    rcases hp2 with ⟨hz2, _⟩ | ⟨_, c3, k3, hc3, hk3, ea2, eb2, hr2, eS2, eA2⟩
    · exact absurd hz hz2
    · have ec : c3 = c := (nI_eq (by omega) (by omega)).mp (ea2.symm.trans ea)
      have ek : k3 = k := (nI_eq (by omega) (by omega)).mp (eb2.symm.trans eb)
      subst ec ek eS eA eS2 eA2
      have gS : ∀ i, (i ≠ 164 ∧ i ≠ 188) → q2 (q2 S 164 0 (nI (tn + 1))) 188 36 (nI (tn + 1)) i = S i := fun i hi => by rw [q2_or _ _ hi.2, q2_or _ _ hi.1]
      have g188 : ∀ j, j ≠ 36 → q2 (q2 S 164 0 (nI (tn + 1))) 188 36 (nI (tn + 1)) 188 j = S 188 j := fun j hj => by rw [q2_k _ _ hj, q2_or _ _ (by omega)]
      have gA : ∀ i, (i ≠ 165 ∧ i ≠ 166 ∧ i ≠ 207 ∧ i ≠ 208) → q2 (q2 (q2 (q2 A 165 tn (nI c3)) 166 tn (nI k3)) 207 tn (nI c3)) 208 tn (nI k3) i = A i := fun i hi => by rw [q2_or _ _ hi.2.2.2, q2_or _ _ hi.2.2.1, q2_or _ _ hi.2.1, q2_or _ _ hi.1]
      have ht0 : tn < 6 := by
        rcases Nat.lt_or_ge tn 6 with g | g
        · exact g
        · rw [ea, eb, qix_in hc0 (by omega), qix_in hk0 (by omega)] at hz
          have hz' : (if tn < 6 then (0 : Int) else (-1000000004)) = 0 := hz
          rw [if_neg (by omega)] at hz'
          exact absurd hz' (by decide)
      have hNew : rSit nP nK (q2 (q2 S 164 0 (nI (tn + 1))) 188 36 (nI (tn + 1))) (q2 (q2 (q2 (q2 A 165 tn (nI c3)) 166 tn (nI k3)) 207 tn (nI c3)) 208 tn (nI k3)) := by
        refine ⟨tn + 1, by omega, by rw [q2_o _ _ (by omega), q2_s], by rw [q2_s], fun j hj => ?_⟩
        rw [q2_o (i := 165) (o := 208) _ _ (by omega), q2_o (i := 165) (o := 207) _ _ (by omega), q2_o (i := 165) (o := 166) _ _ (by omega), q2_o (i := 166) (o := 208) _ _ (by omega), q2_o (i := 166) (o := 207) _ _ (by omega), q2_o (i := 207) (o := 208) _ _ (by omega)]
        by_cases e : j = tn
        · subst e
          rw [q2_s, q2_s, q2_s, q2_s]
          exact ⟨⟨rfl, c3, hc0, rfl⟩, rfl, k3, hk0, rfl⟩
        · simp only [q2_k _ _ e]
          exact ht4 j (by omega)
      exact ⟨by rw [hr, hr2], ⟨nC, nP, nK, nW, nw, nc, hb, rTxt_cg hT (congrFun (gS (1) (by omega)) 1) (g188 (14) (by omega)) (gA (2) (by omega)) (gA (194) (by omega)), (congrFun (gS (1) (by omega)) 3).trans (hF.trans (g188 (15) (by omega)).symm), rPlan_cg hPl (gS (b.1) (by omega)) (fun j hj => (g188 (j) (by omega))) (fun j hj => (gA (b.1 + j) (by omega))) (fun j h1 h2 => (gA (j) (by omega))), rNow_cg hN (gS (3) (by omega)) (fun j h1 h2 => (gA (j) (by omega))) (gA (193) (by omega)), rPast_cg hPa (gS (15) (by omega)) (g188 (30) (by omega)) (fun j h1 h2 => ⟨(gS (j) (by omega)), (gA (j) (by omega))⟩) (gA (202) (by omega)), ⟨rImg_cg hI.1 (gS (139) (by omega)) (gS (139 + 1) (by omega)) (fun j h1 h2 => (gA (j) (by omega))) (gA (212) (by omega)) (gA (213) (by omega)), rImg_cg hI.2 (gS (146) (by omega)) (gS (146 + 1) (by omega)) (fun j h1 h2 => (gA (j) (by omega))) (gA (212) (by omega)) (gA (213) (by omega))⟩, hNew, rBk_cg hBk (congrFun (gS (171) (by omega)) 0) (g188 (40) (by omega)) (gA (172) (by omega)) (gA (173) (by omega)) (gA (210) (by omega)) (gA (211) (by omega)), rSd_cg hSd (congrFun (gS (137) (by omega)) 0) (g188 (12) (by omega))⟩⟩
theorem st_write (E : qE) (ad : Nat → Nat) (l : Launch) {S A : qA2} {b : qB} (h : Rel S A b) (a1 a2 : Int32) : qTwo E ad l yX10_write wsX10_write { frames := 2, cells := 0, slots := 0, locals := 43 } yX11_write wsX11_write { frames := 2, cells := 0, slots := 0, locals := 46 } [.int a1, .int a2] S A b := by
  have h' := h
  obtain ⟨nC, nP, nK, nW, nw, nc, hR⟩ := h'
  obtain ⟨hC, hP, hK, hW⟩ := Rl_bd hR
  have hR' := hR
  obtain ⟨hb, hT, hF, hPl, hN, hPa, hI, hSi, hBk, hSd⟩ := hR'
  have hPl' := hPl
  obtain ⟨c0, c1, c2, c3, c4, c5, c6, c7⟩ := hPl'
  have hbp : 174 ≤ b.1 ∧ b.1 + 7 ≤ 188 := (qpl_all hb.1).2.2
  obtain ⟨tn, ht1, ht2, ht3, ht4⟩ := hBk
  refine ⟨_, c_X10_write E ad l S A b b.1 hb.1 rfl a1 a2 nC c1.1 hC tn ht2 ht1, fun r S1 A1 b1 hp => ?_⟩
  obtain ⟨rfl, hp⟩ := hp
  rcases hp with ⟨hz, hr, rfl, rfl⟩ | ⟨hz, c, k, hc0, hk0, ea, eb, hr, eS, eA⟩
  · refine ⟨_, c_X11_write E ad l S A b a1 a2 nC c2.1 hC tn ht3 ht1, fun r2 S2 A2 b2 hp2 => ?_⟩
    obtain ⟨rfl, hp2⟩ := hp2
    rcases hp2 with ⟨hz2, hr2, rfl, rfl⟩ | ⟨hz2, _⟩
    · exact ⟨by rw [hr, hr2], h⟩
    · exact absurd hz2 hz
  · have e188 : S1 188 = S 188 := by rw [eS, q2_or _ _ (by omega)]
    refine ⟨_, c_X11_write E ad l S1 A1 b a1 a2 nC (by rw [e188]; exact c2.1) hC tn (by rw [e188]; exact ht3) ht1, fun r2 S2 A2 b2 hp2 => ?_⟩
    obtain ⟨rfl, hp2⟩ := hp2
    rcases hp2 with ⟨hz2, _⟩ | ⟨_, c3, k3, hc3, hk3, ea2, eb2, hr2, eS2, eA2⟩
    · exact absurd hz hz2
    · have ec : c3 = c := (nI_eq (by omega) (by omega)).mp (ea2.symm.trans ea)
      have ek : k3 = k := (nI_eq (by omega) (by omega)).mp (eb2.symm.trans eb)
      subst ec ek eS eA eS2 eA2
      have gS : ∀ i, (i ≠ 171 ∧ i ≠ 188) → q2 (q2 S 171 0 (nI (tn + 1))) 188 40 (nI (tn + 1)) i = S i := fun i hi => by rw [q2_or _ _ hi.2, q2_or _ _ hi.1]
      have g188 : ∀ j, j ≠ 40 → q2 (q2 S 171 0 (nI (tn + 1))) 188 40 (nI (tn + 1)) 188 j = S 188 j := fun j hj => by rw [q2_k _ _ hj, q2_or _ _ (by omega)]
      have gA : ∀ i, (i ≠ 172 ∧ i ≠ 173 ∧ i ≠ 210 ∧ i ≠ 211) → q2 (q2 (q2 (q2 A 172 tn (nI c3)) 173 tn (nI k3)) 210 tn (nI c3)) 211 tn (nI k3) i = A i := fun i hi => by rw [q2_or _ _ hi.2.2.2, q2_or _ _ hi.2.2.1, q2_or _ _ hi.2.1, q2_or _ _ hi.1]
      have ht0 : tn < 15 := by
        rcases Nat.lt_or_ge tn 15 with g | g
        · exact g
        · rw [ea, eb, qix_in hc0 (by omega), qir_in (by omega) hk0 (by omega)] at hz
          have hz' : (if tn < 15 then (0 : Int) else (-1000000004)) = 0 := hz
          rw [if_neg (by omega)] at hz'
          exact absurd hz' (by decide)
      have hNew : rBk nC (q2 (q2 S 171 0 (nI (tn + 1))) 188 40 (nI (tn + 1))) (q2 (q2 (q2 (q2 A 172 tn (nI c3)) 173 tn (nI k3)) 210 tn (nI c3)) 211 tn (nI k3)) := by
        refine ⟨tn + 1, by omega, by rw [q2_o _ _ (by omega), q2_s], by rw [q2_s], fun j hj => ?_⟩
        rw [q2_o (i := 172) (o := 211) _ _ (by omega), q2_o (i := 172) (o := 210) _ _ (by omega), q2_o (i := 172) (o := 173) _ _ (by omega), q2_o (i := 173) (o := 211) _ _ (by omega), q2_o (i := 173) (o := 210) _ _ (by omega), q2_o (i := 210) (o := 211) _ _ (by omega)]
        by_cases e : j = tn
        · subst e
          rw [q2_s, q2_s, q2_s, q2_s]
          exact ⟨⟨rfl, c3, hc0, rfl⟩, rfl⟩
        · simp only [q2_k _ _ e]
          exact ht4 j (by omega)
      exact ⟨by rw [hr, hr2], ⟨nC, nP, nK, nW, nw, nc, hb, rTxt_cg hT (congrFun (gS (1) (by omega)) 1) (g188 (14) (by omega)) (gA (2) (by omega)) (gA (194) (by omega)), (congrFun (gS (1) (by omega)) 3).trans (hF.trans (g188 (15) (by omega)).symm), rPlan_cg hPl (gS (b.1) (by omega)) (fun j hj => (g188 (j) (by omega))) (fun j hj => (gA (b.1 + j) (by omega))) (fun j h1 h2 => (gA (j) (by omega))), rNow_cg hN (gS (3) (by omega)) (fun j h1 h2 => (gA (j) (by omega))) (gA (193) (by omega)), rPast_cg hPa (gS (15) (by omega)) (g188 (30) (by omega)) (fun j h1 h2 => ⟨(gS (j) (by omega)), (gA (j) (by omega))⟩) (gA (202) (by omega)), ⟨rImg_cg hI.1 (gS (139) (by omega)) (gS (139 + 1) (by omega)) (fun j h1 h2 => (gA (j) (by omega))) (gA (212) (by omega)) (gA (213) (by omega)), rImg_cg hI.2 (gS (146) (by omega)) (gS (146 + 1) (by omega)) (fun j h1 h2 => (gA (j) (by omega))) (gA (212) (by omega)) (gA (213) (by omega))⟩, rSit_cg hSi (congrFun (gS (164) (by omega)) 0) (g188 (36) (by omega)) (gA (165) (by omega)) (gA (166) (by omega)) (gA (207) (by omega)) (gA (208) (by omega)), hNew, rSd_cg hSd (congrFun (gS (137) (by omega)) 0) (g188 (12) (by omega))⟩⟩
theorem st_tear (E : qE) (ad : Nat → Nat) (l : Launch) {S A : qA2} {b : qB} (h : Rel S A b) : qTwo E ad l yX10_tear wsX10_tear { frames := 0, cells := 0, slots := 0, locals := 0 } yX11_tear wsX11_tear { frames := 0, cells := 0, slots := 0, locals := 0 } [] S A b := by
  have h' := h
  obtain ⟨nC, nP, nK, nW, nw, nc, hR⟩ := h'
  obtain ⟨hC, hP, hK, hW⟩ := Rl_bd hR
  have hR' := hR
  obtain ⟨hb, hT, hF, hPl, hN, hPa, hI, hSi, hBk, hSd⟩ := hR'
  have hPl' := hPl
  obtain ⟨c0, c1, c2, c3, c4, c5, c6, c7⟩ := hPl'
  have hbp : 174 ≤ b.1 ∧ b.1 + 7 ≤ 188 := (qpl_all hb.1).2.2
  refine ⟨_, c_X10_tear E ad l S A b, fun r S1 A1 b1 hp => ?_⟩
  obtain ⟨⟨rfl, rfl⟩, hr, eS⟩ := hp
  refine ⟨_, c_X11_tear E ad l S1 A b, fun r2 S2 A2 b2 hp2 => ?_⟩
  obtain ⟨⟨rfl, rfl⟩, hr2, eS2⟩ := hp2
  subst eS eS2
  have gS : ∀ i, (i ≠ 164 ∧ i ≠ 171 ∧ i ≠ 188) → q2 (q2 (q2 (q2 S 164 0 0) 171 0 0) 188 36 0) 188 40 0 i = S i := fun i hi => by rw [q2_or _ _ hi.2.2, q2_or _ _ hi.2.2, q2_or _ _ hi.2.1, q2_or _ _ hi.1]
  have g188 : ∀ j, (j ≠ 36 ∧ j ≠ 40) → q2 (q2 (q2 (q2 S 164 0 0) 171 0 0) 188 36 0) 188 40 0 188 j = S 188 j := fun j hj => by rw [q2_k _ _ hj.2, q2_k _ _ hj.1, q2_or _ _ (by omega), q2_or _ _ (by omega)]
  have gA : ∀ i, i ≠ 10000 → A i = A i := fun i _ => rfl
  obtain ⟨sn, s1, s2, s3, s4⟩ := hSi
  obtain ⟨kn, k1, k2, k3, k4⟩ := hBk
  refine ⟨?_, ⟨nC, nP, nK, nW, nw, nc, hb, rTxt_cg hT (congrFun (gS (1) (by omega)) 1) (g188 (14) (by omega)) (gA (2) (by omega)) (gA (194) (by omega)), (congrFun (gS (1) (by omega)) 3).trans (hF.trans (g188 (15) (by omega)).symm), rPlan_cg hPl (gS (b.1) (by omega)) (fun j hj => (g188 (j) (by omega))) (fun j hj => (gA (b.1 + j) (by omega))) (fun j h1 h2 => (gA (j) (by omega))), rNow_cg hN (gS (3) (by omega)) (fun j h1 h2 => (gA (j) (by omega))) (gA (193) (by omega)), rPast_cg hPa (gS (15) (by omega)) (g188 (30) (by omega)) (fun j h1 h2 => ⟨(gS (j) (by omega)), (gA (j) (by omega))⟩) (gA (202) (by omega)), ⟨rImg_cg hI.1 (gS (139) (by omega)) (gS (139 + 1) (by omega)) (fun j h1 h2 => (gA (j) (by omega))) (gA (212) (by omega)) (gA (213) (by omega)), rImg_cg hI.2 (gS (146) (by omega)) (gS (146 + 1) (by omega)) (fun j h1 h2 => (gA (j) (by omega))) (gA (212) (by omega)) (gA (213) (by omega))⟩, ⟨0, by omega, by simp [q2]; rfl, by simp [q2]; rfl, fun j hj => absurd hj (Nat.not_lt_zero _)⟩, ⟨0, by omega, by simp [q2]; rfl, by simp [q2]; rfl, fun j hj => absurd hj (Nat.not_lt_zero _)⟩, rSd_cg hSd (congrFun (gS (137) (by omega)) 0) (g188 (12) (by omega))⟩⟩
  rw [hr, hr2, q2_o _ _ (by omega), q2_o _ _ (by omega), q2_o _ _ (by omega), q2_o _ _ (by omega), s2, s3, k2, k3]
theorem st_seed (E : qE) (ad : Nat → Nat) (l : Launch) {S A : qA2} {b : qB} (h : Rel S A b) (a1 : Int32) : qTwo E ad l yX10_seed wsX10_seed { frames := 0, cells := 0, slots := 0, locals := 0 } yX11_seed wsX11_seed { frames := 0, cells := 0, slots := 0, locals := 0 } [.int a1] S A b := by
  have h' := h
  obtain ⟨nC, nP, nK, nW, nw, nc, hR⟩ := h'
  obtain ⟨hC, hP, hK, hW⟩ := Rl_bd hR
  have hR' := hR
  obtain ⟨hb, hT, hF, hPl, hN, hPa, hI, hSi, hBk, hSd⟩ := hR'
  have hPl' := hPl
  obtain ⟨c0, c1, c2, c3, c4, c5, c6, c7⟩ := hPl'
  have hbp : 174 ≤ b.1 ∧ b.1 + 7 ≤ 188 := (qpl_all hb.1).2.2
  refine ⟨_, c_X10_seed E ad l S A b a1, fun r S1 A1 b1 hp => ?_⟩
  obtain ⟨⟨rfl, rfl⟩, hp⟩ := hp
  rcases hp with ⟨hz, hr, rfl⟩ | ⟨hz, hr, eS⟩
  · refine ⟨_, c_X11_seed E ad l S A b a1, fun r2 S2 A2 b2 hp2 => ?_⟩
    obtain ⟨⟨rfl, rfl⟩, hp2⟩ := hp2
    rcases hp2 with ⟨hz2, hr2, rfl⟩ | ⟨hz2, _⟩
    · exact ⟨by rw [hr, hr2], h⟩
    · exact absurd hz hz2
  · refine ⟨_, c_X11_seed E ad l S1 A b a1, fun r2 S2 A2 b2 hp2 => ?_⟩
    obtain ⟨⟨rfl, rfl⟩, hp2⟩ := hp2
    rcases hp2 with ⟨hz2, _⟩ | ⟨_, hr2, eS2⟩
    · exact absurd hz2 hz
    · subst eS eS2
      have gS : ∀ i, (i ≠ 137 ∧ i ≠ 188) → q2 (q2 S 137 0 a1) 188 12 a1 i = S i := fun i hi => by rw [q2_or _ _ hi.2, q2_or _ _ hi.1]
      have g188 : ∀ j, j ≠ 12 → q2 (q2 S 137 0 a1) 188 12 a1 188 j = S 188 j := fun j hj => by rw [q2_k _ _ hj, q2_or _ _ (by omega)]
      have gA : ∀ i, i ≠ 10000 → A i = A i := fun i _ => rfl
      refine ⟨?_, ⟨nC, nP, nK, nW, nw, nc, hb, rTxt_cg hT (congrFun (gS (1) (by omega)) 1) (g188 (14) (by omega)) (gA (2) (by omega)) (gA (194) (by omega)), (congrFun (gS (1) (by omega)) 3).trans (hF.trans (g188 (15) (by omega)).symm), rPlan_cg hPl (gS (b.1) (by omega)) (fun j hj => (g188 (j) (by omega))) (fun j hj => (gA (b.1 + j) (by omega))) (fun j h1 h2 => (gA (j) (by omega))), rNow_cg hN (gS (3) (by omega)) (fun j h1 h2 => (gA (j) (by omega))) (gA (193) (by omega)), rPast_cg hPa (gS (15) (by omega)) (g188 (30) (by omega)) (fun j h1 h2 => ⟨(gS (j) (by omega)), (gA (j) (by omega))⟩) (gA (202) (by omega)), ⟨rImg_cg hI.1 (gS (139) (by omega)) (gS (139 + 1) (by omega)) (fun j h1 h2 => (gA (j) (by omega))) (gA (212) (by omega)) (gA (213) (by omega)), rImg_cg hI.2 (gS (146) (by omega)) (gS (146 + 1) (by omega)) (fun j h1 h2 => (gA (j) (by omega))) (gA (212) (by omega)) (gA (213) (by omega))⟩, rSit_cg hSi (congrFun (gS (164) (by omega)) 0) (g188 (36) (by omega)) (gA (165) (by omega)) (gA (166) (by omega)) (gA (207) (by omega)) (gA (208) (by omega)), rBk_cg hBk (congrFun (gS (171) (by omega)) 0) (g188 (40) (by omega)) (gA (172) (by omega)) (gA (173) (by omega)) (gA (210) (by omega)) (gA (211) (by omega)), ⟨by rw [q2_o _ _ (by omega), q2_s, q2_s], by rw [q2_o _ _ (by omega), q2_s]; exact nI_of hz⟩⟩⟩
      rw [hr, hr2, q2_o _ _ (by omega), hSd.1]
theorem st_undo (E : qE) (ad : Nat → Nat) (l : Launch) {S A : qA2} {b : qB} (h : Rel S A b) : qTwo E ad l yX10_undo wsX10_undo { frames := 3, cells := 0, slots := 0, locals := 60 } yX11_undo wsX11_undo { frames := 0, cells := 0, slots := 0, locals := 0 } [] S A b := by
  have h' := h
  obtain ⟨nC, nP, nK, nW, nw, nc, hR⟩ := h'
  obtain ⟨hC, hP, hK, hW⟩ := Rl_bd hR
  have hR' := hR
  obtain ⟨hb, hT, hF, hPl, hN, hPa, hI, hSi, hBk, hSd⟩ := hR'
  have hPl' := hPl
  obtain ⟨c0, c1, c2, c3, c4, c5, c6, c7⟩ := hPl'
  have hbp : 174 ≤ b.1 ∧ b.1 + 7 ≤ 188 := (qpl_all hb.1).2.2
  refine ⟨_, c_X10_undo E ad l S A b nw nc hPa.2.1.1 hPa.1.1 hPa.2.1.2.1 hPa.1.2, fun r S1 A1 b1 hp => ?_⟩
  obtain ⟨rfl, hp⟩ := hp
  rcases hp with ⟨hz, hr, rfl, rfl⟩ | ⟨hz, hr, hw, kA, kS, s152, s151⟩
  · refine ⟨_, c_X11_undo E ad l S A b nc hPa.2.1.2.2 hPa.1.2, fun r2 S2 A2 b2 hp2 => ?_⟩
    obtain ⟨rfl, hp2⟩ := hp2
    rcases hp2 with ⟨hz2, hr2, rfl, rfl⟩ | ⟨hz2, _⟩
    · exact ⟨by rw [hr, hr2], h⟩
    · exact absurd hz hz2
  · have e188 : S1 188 = S 188 := kS 188 (by omega) (by omega)
    refine ⟨_, c_X11_undo E ad l S1 A1 b nc (by rw [e188]; exact hPa.2.1.2.2) hPa.1.2, fun r2 S2 A2 b2 hp2 => ?_⟩
    obtain ⟨rfl, hp2⟩ := hp2
    rcases hp2 with ⟨hz2, _⟩ | ⟨_, hr2, eS2, m1, m2⟩
    · exact absurd hz2 hz
    · have gS : ∀ i, (i ≠ 3 ∧ i ≠ 15 ∧ i ≠ 188) → S2 i = S i := fun i hi => by rw [eS2, q2_or _ _ hi.2.2]; exact kS i hi.1 hi.2.1
      have g188 : ∀ j, j ≠ 30 → S2 188 j = S 188 j := fun j hj => by rw [eS2, q2_k _ _ hj, e188]
      have gA : ∀ i, ((i ≤ 3 ∨ 8 < i) ∧ i ≠ 193) → A2 i = A i := fun i hi => (m2 i hi.2).trans (kA i hi.1)
      obtain ⟨⟨w1, w2, w3, w4, w5⟩, w6, w7, w8⟩ := hw _ rfl
      have hold := hPa.2.2 (nc - 1) (by omega) (17 + 6 * nw) (by have := hPa.1.1; congr 2; omega)
      have hN2 : rNow nC nP nK S2 A2 := by
        unfold rNow
        rw [m2 4 (by omega), m2 5 (by omega), m2 6 (by omega), m2 7 (by omega), m2 8 (by omega), eS2, q2_or _ _ (by omega)]
        exact rWin_cg hC hP hK hold w1 w2 w3 w4 w5 w6 w7 w8 (fun k hk => by rw [m1 k hk, kA 202 (by omega)])
      have hPa2 : rPast nC nP nK ((nw + 19) % 20) (nc - 1) S2 A2 := rPast_undo hPa hz (by rw [eS2, q2_or _ _ (by omega)]; exact s152) (by rw [eS2, q2_or _ _ (by omega)]; exact s151) (by rw [eS2, q2_s]) (fun j g1 g2 => ⟨gS j (by omega), gA j (by omega)⟩) (gA 202 (by omega))
      exact ⟨by rw [hr, hr2], ⟨nC, nP, nK, nW, (nw + 19) % 20, nc - 1, hb, rTxt_cg hT (congrFun (gS (1) (by omega)) 1) (g188 (14) (by omega)) (gA (2) (by omega)) (gA (194) (by omega)), (congrFun (gS (1) (by omega)) 3).trans (hF.trans (g188 (15) (by omega)).symm), rPlan_cg hPl (gS (b.1) (by omega)) (fun j hj => (g188 (j) (by omega))) (fun j hj => (gA (b.1 + j) (by omega))) (fun j h1 h2 => (gA (j) (by omega))), hN2, hPa2, ⟨rImg_cg hI.1 (gS (139) (by omega)) (gS (139 + 1) (by omega)) (fun j h1 h2 => (gA (j) (by omega))) (gA (212) (by omega)) (gA (213) (by omega)), rImg_cg hI.2 (gS (146) (by omega)) (gS (146 + 1) (by omega)) (fun j h1 h2 => (gA (j) (by omega))) (gA (212) (by omega)) (gA (213) (by omega))⟩, rSit_cg hSi (congrFun (gS (164) (by omega)) 0) (g188 (36) (by omega)) (gA (165) (by omega)) (gA (166) (by omega)) (gA (207) (by omega)) (gA (208) (by omega)), rBk_cg hBk (congrFun (gS (171) (by omega)) 0) (g188 (40) (by omega)) (gA (172) (by omega)) (gA (173) (by omega)) (gA (210) (by omega)) (gA (211) (by omega)), rSd_cg hSd (congrFun (gS (137) (by omega)) 0) (g188 (12) (by omega))⟩⟩
theorem st_keep (E : qE) (ad : Nat → Nat) (l : Launch) {S A : qA2} {b : qB} (h : Rel S A b) (a1 : Int32) : qTwo E ad l yX10_keep wsX10_keep { frames := 3, cells := 0, slots := 0, locals := 61 } yX11_keep wsX11_keep { frames := 1, cells := 0, slots := 0, locals := 25 } [.int a1] S A b := by
  have h' := h
  obtain ⟨nC, nP, nK, nW, nw, nc, hR⟩ := h'
  obtain ⟨hC, hP, hK, hW⟩ := Rl_bd hR
  have hR' := hR
  obtain ⟨hb, hT, hF, hPl, hN, hPa, hI, hSi, hBk, hSd⟩ := hR'
  have hPl' := hPl
  obtain ⟨c0, c1, c2, c3, c4, c5, c6, c7⟩ := hPl'
  have hbp : 174 ≤ b.1 ∧ b.1 + 7 ≤ 188 := (qpl_all hb.1).2.2
  refine ⟨_, c_X10_keep E ad l S A b a1, fun r S1 A1 b1 hp => ?_⟩
  obtain ⟨rfl, hp⟩ := hp
  rcases hp with ⟨hz, hr, rfl, rfl⟩ | ⟨k, g, hk0, ea, eg, hr, ⟨⟨w1, w2, w3, w4, w5⟩, w6, w7, w8⟩, kA, kS, sg1, sg2, s151, s152⟩
  · refine ⟨_, c_X11_keep E ad l S A b a1, fun r2 S2 A2 b2 hp2 => ?_⟩
    obtain ⟨rfl, hp2⟩ := hp2
    rcases hp2 with ⟨hz2, hr2, rfl, rfl⟩ | ⟨k2, hk2, ea2, _⟩
    · exact ⟨by rw [hr, hr2], h⟩
    · rw [ea2, qir_in (by omega) (by omega) (by omega)] at hz
      cases hz
  · have hg : g = 139 ∧ k = 0 ∨ g = 146 ∧ k = 1 := by omega
    have e188 : S1 188 = S 188 := kS 188 (by omega) (by omega) (by omega)
    refine ⟨_, c_X11_keep E ad l S1 A1 b a1, fun r2 S2 A2 b2 hp2 => ?_⟩
    obtain ⟨rfl, hp2⟩ := hp2
    rcases hp2 with ⟨hz2, _⟩ | ⟨k2, hk2, ea2, hr2, eS2, m1, m2, m3, m4, m5⟩
    · rw [ea, qir_in (by omega) (by omega) (by omega)] at hz2
      cases hz2
    · have ek : k2 = k := (nI_eq (by omega) (by omega)).mp (ea2.symm.trans ea)
      subst ek
      have gS : ∀ i, (i ≠ g ∧ i ≠ g + 1 ∧ i ≠ 15 ∧ i ≠ 188) → S2 i = S i := fun i hi => by rw [eS2, q2_or _ _ hi.2.2.2]; exact kS i hi.1 hi.2.1 hi.2.2.1
      have g188 : ∀ j, j ≠ 30 → S2 188 j = S 188 j := fun j hj => by rw [eS2, q2_k _ _ hj, e188]
      have gA : ∀ i, ((i ≤ g + 1 ∨ g + 6 < i) ∧ i ≠ 212 ∧ i ≠ 213) → A2 i = A i := fun i hi => (m5 i hi.2.1 hi.2.2).trans (kA i hi.1)
      have hnew : rImg nC nP nK k2 g S2 A2 := by
        unfold rImg
        rw [m5 (g + 2) (by omega) (by omega), m5 (g + 3) (by omega) (by omega), m5 (g + 4) (by omega) (by omega), m5 (g + 5) (by omega) (by omega), m5 (g + 6) (by omega) (by omega), eS2, q2_or _ _ (show g ≠ 188 by omega), q2_or _ _ (show g + 1 ≠ 188 by omega), sg2, m4, upd_s, sg1, m2, e188]
        refine ⟨⟨fun z => z, fun z => z⟩, fun _ => ⟨?_, hSd⟩⟩
        exact rWin_cg hC hP hK hN w1 w2 w3 w4 w5 w6 w7 w8 (fun j hj => by rw [m1 j hj, kA 193 (by omega)])
      have hoth : ∀ i g', (g' = 139 ∧ i = 0 ∨ g' = 146 ∧ i = 1) → ¬ i = k2 → rImg nC nP nK i g' S A → rImg nC nP nK i g' S2 A2 := fun i g' hg' hne hh => rImg_cg2 hC hP hK hh (gS _ (by omega)) (gS _ (by omega)) (fun j g1 g2 => gA _ (by omega)) (fun j hj => by rw [m3 _ (by omega), kA 212 (by omega)]) (by rw [m4, upd_o _ _ hne, kA 213 (by omega)])
      have hI2 : rImg nC nP nK 0 139 S2 A2 ∧ rImg nC nP nK 1 146 S2 A2 := by
        rcases hg with ⟨rfl, rfl⟩ | ⟨rfl, rfl⟩
        · exact ⟨hnew, hoth 1 146 (by omega) (by omega) hI.2⟩
        · exact ⟨hoth 0 139 (by omega) (by omega) hI.1, hnew⟩
      exact ⟨by rw [hr, hr2], ⟨nC, nP, nK, nW, nw, 0, hb, rTxt_cg hT (congrFun (gS (1) (by omega)) 1) (g188 (14) (by omega)) (gA (2) (by omega)) (gA (194) (by omega)), (congrFun (gS (1) (by omega)) 3).trans (hF.trans (g188 (15) (by omega)).symm), rPlan_cg hPl (gS (b.1) (by omega)) (fun j hj => (g188 (j) (by omega))) (fun j hj => (gA (b.1 + j) (by omega))) (fun j h1 h2 => (gA (j) (by omega))), rNow_cg hN (gS (3) (by omega)) (fun j h1 h2 => (gA (j) (by omega))) (gA (193) (by omega)), rPast_0 hPa (by rw [eS2, q2_or _ _ (by omega)]; exact s152) (by rw [eS2, q2_or _ _ (by omega)]; exact s151) (by rw [eS2, q2_s]), ⟨hI2.1, hI2.2⟩, rSit_cg hSi (congrFun (gS (164) (by omega)) 0) (g188 (36) (by omega)) (gA (165) (by omega)) (gA (166) (by omega)) (gA (207) (by omega)) (gA (208) (by omega)), rBk_cg hBk (congrFun (gS (171) (by omega)) 0) (g188 (40) (by omega)) (gA (172) (by omega)) (gA (173) (by omega)) (gA (210) (by omega)) (gA (211) (by omega)), rSd_cg hSd (congrFun (gS (137) (by omega)) 0) (g188 (12) (by omega))⟩⟩
theorem st_goBack (E : qE) (ad : Nat → Nat) (l : Launch) {S A : qA2} {b : qB} (h : Rel S A b) (a1 : Int32) : qTwo E ad l yX10_goBack wsX10_goBack { frames := 3, cells := 0, slots := 0, locals := 61 } yX11_goBack wsX11_goBack { frames := 1, cells := 0, slots := 0, locals := 25 } [.int a1] S A b := by
  have h' := h
  obtain ⟨nC, nP, nK, nW, nw, nc, hR⟩ := h'
  obtain ⟨hC, hP, hK, hW⟩ := Rl_bd hR
  have hR' := hR
  obtain ⟨hb, hT, hF, hPl, hN, hPa, hI, hSi, hBk, hSd⟩ := hR'
  have hPl' := hPl
  obtain ⟨c0, c1, c2, c3, c4, c5, c6, c7⟩ := hPl'
  have hbp : 174 ≤ b.1 ∧ b.1 + 7 ≤ 188 := (qpl_all hb.1).2.2
  refine ⟨_, c_X10_goBack E ad l S A b a1, fun r S1 A1 b1 hp => ?_⟩
  obtain ⟨rfl, hp⟩ := hp
  have himg : ∀ k g, k < 2 → g = 139 + 7 * k → rImg nC nP nK k g S A := fun k g h1 h2 => by
    rcases (show k = 0 ∨ k = 1 by omega) with e | e
    · subst e; subst h2; exact hI.1
    · subst e; subst h2; exact hI.2
  rcases hp with ⟨hz, hr, rfl, rfl⟩ | ⟨k, g, hk0, ea, eg, hp⟩
  · refine ⟨_, c_X11_goBack E ad l S A b a1, fun r2 S2 A2 b2 hp2 => ?_⟩
    obtain ⟨rfl, hp2⟩ := hp2
    rcases hp2 with ⟨hz2, hr2, rfl, rfl⟩ | ⟨k2, hk2, ea2, _⟩
    · exact ⟨by rw [hr, hr2], h⟩
    · rw [ea2, qir_in (by omega) (by omega) (by omega)] at hz
      cases hz
  · have him := himg k g hk0 eg
    rcases hp with ⟨hz, hr, rfl, rfl⟩ | ⟨hz, hr, ⟨⟨w1, w2, w3, w4, w5⟩, w6, w7, w8⟩, kA, kS, s137, s151, s152⟩
    · refine ⟨_, c_X11_goBack E ad l S A b a1, fun r2 S2 A2 b2 hp2 => ?_⟩
      obtain ⟨rfl, hp2⟩ := hp2
      rcases hp2 with ⟨hz2, _⟩ | ⟨k2, hk2, ea2, hp2⟩
      · rw [ea, qir_in (by omega) (by omega) (by omega)] at hz2
        cases hz2
      · have ek : k2 = k := (nI_eq (by omega) (by omega)).mp (ea2.symm.trans ea)
        subst ek
        rcases hp2 with ⟨hz2, hr2, rfl, rfl⟩ | ⟨hz2, _⟩
        · exact ⟨by rw [hr, hr2], h⟩
        · exact absurd (him.1.mp hz) hz2
    · have e188 : S1 188 = S 188 := kS 188 (by omega) (by omega) (by omega)
      refine ⟨_, c_X11_goBack E ad l S1 A1 b a1, fun r2 S2 A2 b2 hp2 => ?_⟩
      obtain ⟨rfl, hp2⟩ := hp2
      rcases hp2 with ⟨hz2, _⟩ | ⟨k2, hk2, ea2, hp2⟩
      · rw [ea, qir_in (by omega) (by omega) (by omega)] at hz2
        cases hz2
      · have ek : k2 = k := (nI_eq (by omega) (by omega)).mp (ea2.symm.trans ea)
        subst ek
        rcases hp2 with ⟨hz2, _⟩ | ⟨_, hr2, eS2, m1, m2⟩
        · rw [kA 213 (by omega)] at hz2
          exact absurd (him.1.mpr hz2) hz
        · have gS : ∀ i, (i ≠ 3 ∧ i ≠ 137 ∧ i ≠ 15 ∧ i ≠ 188) → S2 i = S i := fun i hi => by rw [eS2, q2_or _ _ hi.2.2.2, q2_or _ _ hi.2.2.2]; exact kS i hi.1 hi.2.1 hi.2.2.1
          have g188 : ∀ j, (j ≠ 30 ∧ j ≠ 12) → S2 188 j = S 188 j := fun j hj => by rw [eS2, q2_k _ _ hj.1, q2_k _ _ hj.2, e188]
          have gA : ∀ i, ((i ≤ 3 ∨ 8 < i) ∧ i ≠ 193) → A2 i = A i := fun i hi => (m2 i hi.2).trans (kA i hi.1)
          have hold := him.2 hz
          have hN2 : rNow nC nP nK S2 A2 := by
            unfold rNow
            rw [m2 4 (by omega), m2 5 (by omega), m2 6 (by omega), m2 7 (by omega), m2 8 (by omega), eS2, q2_or _ _ (by omega), q2_or _ _ (by omega)]
            exact rWin_cg hC hP hK hold.1 w1 w2 w3 w4 w5 w6 w7 w8 (fun j hj => by rw [m1 j hj, kA 212 (by omega)])
          have hSd2 : rSd S2 := by
            have e137 : S2 137 0 = S g 1 := by rw [eS2, q2_or _ _ (by omega), q2_or _ _ (by omega), s137]
            refine ⟨?_, ?_⟩
            · rw [e137, eS2, q2_k _ _ (by omega), q2_s, kA 212 (by omega)]
              exact hold.2.1
            · rw [e137]
              exact hold.2.2
          exact ⟨by rw [hr, hr2], ⟨nC, nP, nK, nW, nw, 0, hb, rTxt_cg hT (congrFun (gS (1) (by omega)) 1) (g188 (14) (by omega)) (gA (2) (by omega)) (gA (194) (by omega)), (congrFun (gS (1) (by omega)) 3).trans (hF.trans (g188 (15) (by omega)).symm), rPlan_cg hPl (gS (b.1) (by omega)) (fun j hj => (g188 (j) (by omega))) (fun j hj => (gA (b.1 + j) (by omega))) (fun j h1 h2 => (gA (j) (by omega))), hN2, rPast_0 hPa (by rw [eS2, q2_or _ _ (by omega), q2_or _ _ (by omega)]; exact s152) (by rw [eS2, q2_or _ _ (by omega), q2_or _ _ (by omega)]; exact s151) (by rw [eS2, q2_s]), ⟨rImg_cg hI.1 (gS (139) (by omega)) (gS (139 + 1) (by omega)) (fun j h1 h2 => (gA (j) (by omega))) (gA (212) (by omega)) (gA (213) (by omega)), rImg_cg hI.2 (gS (146) (by omega)) (gS (146 + 1) (by omega)) (fun j h1 h2 => (gA (j) (by omega))) (gA (212) (by omega)) (gA (213) (by omega))⟩, rSit_cg hSi (congrFun (gS (164) (by omega)) 0) (g188 (36) (by omega)) (gA (165) (by omega)) (gA (166) (by omega)) (gA (207) (by omega)) (gA (208) (by omega)), rBk_cg hBk (congrFun (gS (171) (by omega)) 0) (g188 (40) (by omega)) (gA (172) (by omega)) (gA (173) (by omega)) (gA (210) (by omega)) (gA (211) (by omega)), hSd2⟩⟩
theorem st_plateau (E : qE) (ad : Nat → Nat) (l : Launch) {S A : qA2} {b : qB} (h : Rel S A b) : qTwo E ad l yX10_plateau wsX10_plateau { frames := 5, cells := 0, slots := 0, locals := 113 } yX11_plateau wsX11_plateau { frames := 6, cells := 0, slots := 0, locals := 139 } [] S A b := by
  have h' := h
  obtain ⟨nC, nP, nK, nW, nw, nc, hR⟩ := h'
  obtain ⟨hC, hP, hK, hW⟩ := Rl_bd hR
  have hR' := hR
  obtain ⟨hb, hT, hF, hPl, hN, hPa, hI, hSi, hBk, hSd⟩ := hR'
  have hPl' := hPl
  obtain ⟨c0, c1, c2, c3, c4, c5, c6, c7⟩ := hPl'
  have hbp : 174 ≤ b.1 ∧ b.1 + 7 ≤ 188 := (qpl_all hb.1).2.2
  obtain ⟨tn, ht1, ht2, ht3, ht4⟩ := hT
  have hbq : 174 ≤ b.2 ∧ b.2 + 7 ≤ 188 := (qpl_all hb.2.1).2.2
  have hbd : b.1 + 7 ≤ b.2 ∨ b.2 + 7 ≤ b.1 := by
    have h1 := hb.1
    have h2 := hb.2.1
    have h3 := hb.2.2
    unfold qpl at h1 h2
    omega
  refine ⟨_, c_X10_plateau E ad l S A b b.1 hb.1 rfl b.2 hb.2.1 rfl hb.2.2 tn ht2 ht1, fun r S1 A1 b1 hp => ?_⟩
  generalize hP0 : ((upd (upd (upd (upd (upd (S b.2) 0 0) 3 0) 4 0) 5 0) 6 0, fun j => A (b.2 + j)) : qPS) = P0 at hp
  have z0 : P0.1 0 = 0 := by rw [← hP0]; simp [upd]
  have z3 : P0.1 3 = 0 := by rw [← hP0]; simp [upd]
  have z4 : P0.1 4 = 0 := by rw [← hP0]; simp [upd]
  have z5 : P0.1 5 = 0 := by rw [← hP0]; simp [upd]
  have z6 : P0.1 6 = 0 := by rw [← hP0]; simp [upd]
  have hL : ∀ k, k < tn → A 2 k = A 194 k := fun k hk => (ht4 k hk).1
  have hpe : qparse qstX (A 2) tn 240 (qsk (A 2) tn 0) P0 = qparse qstM (A 194) tn 240 (qsk (A 194) tn 0) P0 := by rw [pa_parse hL, pa_sk hL]
  have hLn : ∀ k, k < tn → ¬ A 194 k < 0 := fun k hk => by
    obtain ⟨e, c, hc, e2⟩ := ht4 k hk
    rw [← e, e2]
    exact nI_pos (by omega)
  rcases hp with ⟨kd, pl, hpar, hkd, hr, s11, s13, rfl, kS, kA⟩ | ⟨hpar, hok, rfl, hr, ⟨s11, s13⟩, ⟨a4, a5, a6, a7, a8⟩, ⟨nP2, t1, t2, t3⟩, ⟨s36, s37⟩, ⟨s151, s152⟩, ⟨i0, i1⟩, ⟨si0, bk0⟩, kS, kA⟩
  · have e188 : S1 188 = S 188 := kS 188 (by omega) (by omega)
    have e194 : A1 194 = A 194 := kA 194 (by omega)
    refine ⟨_, c_X11_plateau E ad l S1 A1 b tn (by rw [e188]; exact ht3) ht1 (by rw [e194]; exact hLn) P0 z0 z3 z4 z5 z6, fun r2 S2 A2 b2 hp2 => ?_⟩
    obtain ⟨rfl, hp2⟩ := hp2
    rw [e194] at hp2
    rcases hp2 with ⟨kd2, pl2, hpar2, hkd2, hr2, eF2, e14, kS2, kA2⟩ | ⟨P, n1, n2, n3, n4, hpar2, _⟩
    · rw [hpe, hpar2] at hpar
      cases hpar
      have gS : ∀ i, (i ≠ 1 ∧ i ≠ b.2 ∧ i ≠ 188) → S2 i = S i := fun i hi => (funext (fun j => kS2 i j (Or.inl hi.2.2))).trans (kS i hi.1 hi.2.1)
      have g188 : ∀ j, (j < 14 ∨ 27 < j) → S2 188 j = S 188 j := fun j hj => (kS2 188 j (Or.inr hj)).trans (congrFun e188 j)
      have gA : ∀ i, ((i ≤ b.2 ∨ b.2 + 6 < i) ∧ (i < 195 ∨ 201 < i)) → A2 i = A i := fun i hi => (kA2 i hi.2).trans (kA i hi.1)
      have sp2 : S2 1 3 = S2 188 15 := ((kS2 1 3 (by omega)).trans s13).trans eF2.symm
      have hT2 : rTxt S2 A2 := ⟨0, by omega, (kS2 1 1 (by omega)).trans s11, e14, fun j hj => absurd hj (Nat.not_lt_zero _)⟩
      exact ⟨by rw [hr, hr2], ⟨nC, nP, nK, nW, nw, nc, hb, hT2, sp2, rPlan_cg hPl (gS (b.1) (by omega)) (fun j hj => (g188 (j) (by omega))) (fun j hj => (gA (b.1 + j) (by omega))) (fun j h1 h2 => (gA (j) (by omega))), rNow_cg hN (gS (3) (by omega)) (fun j h1 h2 => (gA (j) (by omega))) (gA (193) (by omega)), rPast_cg hPa (gS (15) (by omega)) (g188 (30) (by omega)) (fun j h1 h2 => ⟨(gS (j) (by omega)), (gA (j) (by omega))⟩) (gA (202) (by omega)), ⟨rImg_cg hI.1 (gS (139) (by omega)) (gS (139 + 1) (by omega)) (fun j h1 h2 => (gA (j) (by omega))) (gA (212) (by omega)) (gA (213) (by omega)), rImg_cg hI.2 (gS (146) (by omega)) (gS (146 + 1) (by omega)) (fun j h1 h2 => (gA (j) (by omega))) (gA (212) (by omega)) (gA (213) (by omega))⟩, rSit_cg hSi (congrFun (gS (164) (by omega)) 0) (g188 (36) (by omega)) (gA (165) (by omega)) (gA (166) (by omega)) (gA (207) (by omega)) (gA (208) (by omega)), rBk_cg hBk (congrFun (gS (171) (by omega)) 0) (g188 (40) (by omega)) (gA (172) (by omega)) (gA (173) (by omega)) (gA (210) (by omega)) (gA (211) (by omega)), rSd_cg hSd (congrFun (gS (137) (by omega)) 0) (g188 (12) (by omega))⟩⟩
    · rw [hpe, hpar2] at hpar
      cases hpar
  · have e188 : S1 188 = S 188 := kS 188 (by omega)
    have e194 : A1 194 = A 194 := kA 194 (by omega)
    refine ⟨_, c_X11_plateau E ad l S1 A1 (b.2, b.1) tn (by rw [e188]; exact ht3) ht1 (by rw [e194]; exact hLn) P0 z0 z3 z4 z5 z6, fun r2 S2 A2 b2 hp2 => ?_⟩
    obtain ⟨rfl, hp2⟩ := hp2
    rw [e194] at hp2
    rcases hp2 with ⟨kd2, pl2, hpar2, _⟩ | ⟨P, mC, mP, mK, mW, hpar2, hr2, hPr, ⟨u0, u1, u2, u3, u4, u6, u8⟩, ⟨v14, v15, v30, v36, v40⟩, ⟨x0, x1⟩, hini, hview, hlike, hwind, row, k12, kA2⟩
    · rw [hpe, hpar2] at hpar
      cases hpar
    · rw [hpe] at hpar
      have hPe : P = (S1 b.2, fun j => A1 (b.2 + j)) := Sum.inr.inj (hpar2.symm.trans hpar)
      subst hPe
      obtain ⟨⟨p1, p2, p3⟩, p4, p5, ⟨p6, p7, p8⟩, ⟨p9, p10, p11⟩, ⟨p12, p13, p14⟩, p15, p16, p17⟩ := hPr
      have hok0 : ∃ nC nP nK nW, pOK nC nP nK nW P0 := ⟨0, 0, 0, 0, ⟨⟨z0, by omega⟩, ⟨z4, by omega⟩, ⟨z5, by omega⟩, ⟨z6, by omega⟩⟩, fun d hd hq => absurd (by rw [z3]; exact qtb_0 hd) hq, fun k hk => absurd hk (Nat.not_lt_zero _), fun k hk => absurd hk (Nat.not_lt_zero _), fun k hk => absurd hk (Nat.not_lt_zero _)⟩
      obtain ⟨oC, oP, oK, oW, ⟨⟨o1, o1'⟩, ⟨o2, o2'⟩, ⟨o3, o3'⟩, ⟨o4, o4'⟩⟩, o5, o6, o7, o8⟩ := pOK_parse 240 _ P0 _ hok0 hpar
      have q0 : oC = mC := (nI_eq (by omega) (by omega)).mp (o1.symm.trans p2)
      have q4 : oP = mP := (nI_eq (by omega) (by omega)).mp (o2.symm.trans p7)
      have q5 : oK = mK := (nI_eq (by omega) (by omega)).mp (o3.symm.trans p10)
      have q6 : oW = mW := (nI_eq (by omega) (by omega)).mp (o4.symm.trans p13)
      have eP : nP2 = mP := (nI_eq (by omega) (by omega)).mp (t1.symm.trans p7)
      subst q0 q4 q5 q6 eP
      have e2 : S2 b.2 = S1 b.2 := row _ (by omega)
      have eA : ∀ j, j < 7 → A2 (b.2 + j) = A1 (b.2 + j) := fun j hj => kA2 _ (by omega)
      have hPl2 : rPlan oC nP2 oK oW b.2 S2 A2 := by
        refine ⟨⟨p3, p8, p11, p14⟩, ⟨by rw [e2]; exact p2, by rw [e2]; exact p7, by rw [e2]; exact p10, by rw [e2]; exact p13⟩, ⟨u0, u4, u6, u8⟩, ⟨by rw [e2]; exact p5.trans u3.symm, fun d hd hle => ?_⟩, fun z => ⟨by rw [e2]; exact (p4 z).1.trans u1.symm, by rw [e2]; exact (p4 z).2.trans u2.symm⟩, fun k hk => (congrFun (eA 2 (by omega)) k).trans ((p15 k hk).2.trans (hview k (by omega)).symm), fun k hk => (congrFun (eA 4 (by omega)) k).trans ((p16 k hk).2.trans (hlike k hk).symm), fun k hk => ⟨(congrFun (eA 5 (by omega)) k).trans ((p17 k hk).1.trans (hwind k hk).1.symm), (congrFun (eA 6 (by omega)) k).trans ((p17 k hk).2.trans (hwind k hk).2.symm), ?_⟩⟩
        · rw [e2]
          refine Classical.byContradiction (fun hq => ?_)
          have := o5 d hd hq
          omega
        · obtain ⟨i, hi, e⟩ := o8 k hk
          exact ⟨i, hi, (congrFun (eA 6 (by omega)) k).trans e⟩
      have hN2 : rNow oC nP2 oK S2 A2 := by
        unfold rNow
        rw [row 3 (by omega), kA2 4 (by omega), kA2 5 (by omega), kA2 6 (by omega), kA2 7 (by omega), kA2 8 (by omega), a4, a5, a6, a7, a8, s36, s37, t3]
        refine ⟨⟨fun k hk => ?_, fun k h1 h2 => ?_⟩, fun k hk => ?_, ⟨fun k hk => ?_, fun k hk => ?_, fun k h1 h2 => ?_, fun i j hi hj he hn => ?_⟩, fun k hk => ?_, fun k hk => ?_, ⟨?_, ?_⟩, ⟨?_, 0, by omega, rfl⟩, ?_⟩
        · rw [qmap_in (by omega), hini k (by omega), mini_a (by omega)]
          exact ⟨rfl, 0, by omega, rfl⟩
        · rw [qmap_in h2]
        · rw [qmap_in (by omega), hini _ (by omega), mini_b hk p8]
          refine ⟨(p15 k hk).1, ?_⟩
          obtain ⟨c, hc, e⟩ := o6 k hk
          exact ⟨c, hc, e⟩
        · rw [qmap_in (by omega), hini _ (by omega), mini_c (by omega)]
        · rw [qmap_in hk]
          exact Or.inl rfl
        · rw [qmap_in h2]
        · rw [qmap_in hi] at hn
          exact absurd rfl hn
        · rw [qmap_in (by omega), hini _ (by omega), mini_e hk p11]
          refine ⟨(p16 k hk).1, ?_⟩
          obtain ⟨m, hm, e⟩ := o7 k hk
          exact ⟨m, hm, e⟩
        · rw [qmap_in (by omega), hini _ (by omega), mini_f (by omega)]
        · rw [hini 24 (by omega), mini_d]
        · exact hset_all p8
        · rw [hini 35 (by omega), mini_f (by omega)]
        · rw [hini 36 (by omega), mini_f (by omega)]
      refine ⟨?_, oC, nP2, oK, oW, nw, 0, ⟨hb.2.1, hb.1, fun e => hb.2.2 e.symm⟩, ⟨0, by omega, by rw [row 1 (by omega)]; exact s11, v14, fun j hj => absurd hj (Nat.not_lt_zero _)⟩, by rw [row 1 (by omega), s13, v15], hPl2, hN2, rPast_0 hPa (by rw [row 15 (by omega), s152]) (by rw [row 15 (by omega), s151]) v30, ⟨⟨by rw [row 139 (by omega), i0, x0], fun z => absurd (by rw [row 139 (by omega), i0]) z⟩, ⟨by rw [row 146 (by omega), i1, x1], fun z => absurd (by rw [row 146 (by omega), i1]) z⟩⟩, ⟨0, by omega, by rw [row 164 (by omega)]; exact si0, v36, fun j hj => absurd hj (Nat.not_lt_zero _)⟩, ⟨0, by omega, by rw [row 171 (by omega)]; exact bk0, v40, fun j hj => absurd hj (Nat.not_lt_zero _)⟩, rSd_cg hSd (by rw [row 137 (by omega), kS 137 (by omega)]) (by rw [k12, e188])⟩
      rw [hr, hr2]
      exact p2
