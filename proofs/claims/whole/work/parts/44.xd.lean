set_option maxHeartbeats 4000000 in
set_option maxRecDepth 100000 in
theorem c_X10_giveUp (E : qE) (ad : Nat → Nat) (l : Launch) (S A : qA2) (b : qB) (p : Nat) (hp : qpl p) (hbp : b.1 = p) (a1 : Int32) (nP : Nat) (hPo : S p 4 = nI nP) (hPb : nP ≤ 6) (nw nc : Nat) (hnw : S 15 2 = nI nw) (hnwb : nw < 20) (hnc : S 15 1 = nI nc) (hncb : nc ≤ 20) : MI E ad l yX10_giveUp wsX10_giveUp { frames := 3, cells := 0, slots := 0, locals := 60 } [.ref (ad 0), .int a1] S A b (fun r S' A' b' => b = b' ∧ ((¬ (qix a1 nP).elim (-1000000001) (fun k => if A 6 k = -1 then (-1000000003) else 0) = 0 ∧ r = (qix a1 nP).elim (-1000000001) (fun k => if A 6 k = -1 then (-1000000003) else 0) ∧ S = S' ∧ A = A') ∨ ((qix a1 nP).elim (-1000000001) (fun k => if A 6 k = -1 then (-1000000003) else 0) = 0 ∧ ∃ k, k < nP ∧ a1 = nI k ∧ qNoted nw nc S A S' A' ∧ qKeep S A S' A' ∧ r = A 6 k ∧ A' 6 = upd (A 6) k (-1) ∧ A' 4 = A 4 ∧ A' 5 = A 5 ∧ A' 7 = A 7 ∧ A' 8 = A 8 ∧ S' 3 5 = S 3 5 ∧ S' 3 6 = S 3 6 ∧ S' 3 7 = S 3 7))) := by
  obtain ⟨⟨kp, kp1, kp2, kp3, kp4, kp5, kp6⟩, ⟨lp1, lp2, lp3, lp4, lp5, lp6⟩, bp, bp7⟩ := qpl_all hp
  refine MI.of (cc := cX10_giveUp) (maxL := 3) (ret := some .int) RX10 rfl (by decide) rfl ?_
  intro pg e s m below meth cd C hM
  have hx := C.1
  have hb := C.2.1
  have hts := C.2.2.2.2.1
  have hA : ∀ q, s.heap.size ≤ q → qAr ad s.heap.size q := fun _ h => Or.inr h
  have hi9 : ∀ w ∈ u_ws RX9 TX9 8, w ∈ wsX10_giveUp := by decide +kernel
  have hi10 : ∀ w ∈ u_ws RX10 TX10 11, w ∈ wsX10_giveUp := by decide +kernel
  have hL0 := hts (.fieldLink RX10 19 "CrowFences" "now" "LCrowFences$Winter;") (by decide +kernel)
  have hL1 := hts (.fieldLink RX10 170 "CrowFences$Winter" "crowOn" "[I") (by decide +kernel)
  have hL2 := hts (.fieldLink RX10 29 "CrowFences" "past" "LCrowFences$Past;") (by decide +kernel)
  have hL3 := hts (.constant RX10 200 (-1000000003)) (by decide +kernel)
  have hL4 := hts (.constant RX10 160 (-1000000001)) (by decide +kernel)
  have hl := lv_entry ([.ref (ad 0), .int a1]) (n := 3) (Nat.le_of_ble_eq_true rfl)
  rw [lg_entry_eq]
  generalize (lg_sl ([.ref (ad 0), .int a1]) ++ List.replicate (3 - (lg_sl ([.ref (ad 0), .int a1])).length) Slot.unset).toArray = ls at hl ⊢
  have hl : lv_has ls 3 [(0, .ref (ad 0)), (1, .int a1)] := hl
  refine lv_aload_n hx hb dX10_giveUp_0 rfl (lv_at hl 0 rfl) ?_
  refine lv_iload_n hx hb dX10_giveUp_1 rfl (lv_at hl 1 rfl) ?_
  refine q_callVI (n := 1) (o := 0) (As := [.int a1]) (rest := []) C hM hA (c_X10_isPost E ad l S A b p hp hbp a1 nP hPo (by omega)) (qmem_10 E ad S A b (show qk 0 = 10 from by decide +kernel)) (by decide) rfl gX10_giveUp_X10_isPost rfl rfl rfl (by decide +kernel) ⟨Nat.le_of_ble_eq_true rfl, Nat.le_of_ble_eq_true rfl⟩ rfl hl.1 rfl (Nat.le_of_ble_eq_true rfl) ⟨Nat.zero_le _, Nat.zero_le _⟩ dX10_giveUp_2 (fun r_1 S_2 A_3 b_4 H locs qr_1 hM => ?_)
  obtain ⟨⟨e1, e2, e3⟩, hDr_1⟩ := qr_1
  subst e1; subst e2; subst e3
  rcases hDr_1 with ⟨er_1, ka1, hka1, eka1⟩ | ⟨er_1, hnoa1⟩
  · skip
    subst er_1
    subst eka1
    refine lv_if_ne (tgt := 11) hx hb dX10_giveUp_5 (by decide) (fun c_5 => ?_) (fun c_5 => ?_)
    · skip
      have c_5 : ¬ (1 = 0) := fun z => c_5 ((nI_eq (a := 1) (b := 0) (by omega) (by omega)).mpr z)
      refine lv_aload_n hx hb dX10_giveUp_11 rfl (lv_at hl 0 rfl) ?_
      refine q_get (o := 0) (ci := 10) (k := 1) (T := TX10) (v := .ref (ad 3)) C hM (qmem_10 E ad S A b (show qk 0 = 10 from by decide +kernel)) (by decide) rfl hi10 (by decide) hL0 rfl rfl dX10_giveUp_12 ?_
      refine q_get (o := 3) (ci := 9) (k := 2) (T := TX9) (v := .ref (ad 6)) C hM (qmem_9 E ad S A b (show qk 3 = 9 from by decide +kernel)) (by decide) rfl hi9 (by decide) hL1 rfl rfl dX10_giveUp_15 ?_
      refine lv_iload_n hx hb dX10_giveUp_18 rfl (lv_at hl 1 rfl) ?_
      refine q_iald (v := A 6 ka1) C hM (show qk 6 = 12 from by decide +kernel) (by rw [(show ql 6 = 6 from by decide +kernel)]; exact vp_nI (by omega) (by omega)) (by rw [nIc (by omega)]) dX10_giveUp_19 ?_
      refine lv_istore_n (lv' := [(2, .int (A 6 ka1)), (0, .ref (ad 0)), (1, .int (nI ka1))]) hx hb dX10_giveUp_20 rfl hl (by decide) rfl (fun ls hl => ?_)
      refine lv_iload_n hx hb dX10_giveUp_21 rfl (lv_at hl 0 rfl) ?_
      refine lv_iconst (v := (-1)) hx hb dX10_giveUp_22 (by decide) ?_
      refine lv_icmp_ne (tgt := 29) hx hb dX10_giveUp_23 (by decide) (fun c_23 => ?_) (fun c_23 => ?_)
      · skip
        refine lv_aload_n hx hb dX10_giveUp_29 rfl (lv_at hl 1 rfl) ?_
        refine q_get (o := 0) (ci := 10) (k := 3) (T := TX10) (v := .ref (ad 15)) C hM (qmem_10 E ad S A b (show qk 0 = 10 from by decide +kernel)) (by decide) rfl hi10 (by decide) hL2 rfl rfl dX10_giveUp_30 ?_
        refine lv_aload_n hx hb dX10_giveUp_33 rfl (lv_at hl 1 rfl) ?_
        refine q_get (o := 0) (ci := 10) (k := 1) (T := TX10) (v := .ref (ad 3)) C hM (qmem_10 E ad S A b (show qk 0 = 10 from by decide +kernel)) (by decide) rfl hi10 (by decide) hL0 rfl rfl dX10_giveUp_34 ?_
        refine q_callVV (n := 1) (o := 15) (As := [.ref (ad 3)]) (rest := []) C hM hA (c_X4_note E ad l S A b nw nc hnw (by omega) hnc (by omega)) (qmem_4 E ad S A b (show qk 15 = 4 from by decide +kernel)) (by decide) rfl gX10_giveUp_X4_note rfl rfl rfl (by decide +kernel) ⟨Nat.le_of_ble_eq_true rfl, Nat.le_of_ble_eq_true rfl⟩ rfl hl.1 rfl (Nat.le_of_ble_eq_true rfl) ⟨Nat.zero_le _, Nat.zero_le _⟩ dX10_giveUp_37 (fun S_6 A_7 b_8 H locs qr_5 hM => ?_)
        obtain ⟨e3, hN, hn2, hn1, hn0⟩ := qr_5
        subst e3
        obtain ⟨w, ew⟩ : ∃ zz, zz = 17 + 6 * ((nw + 1) % 20) := ⟨_, rfl⟩
        have bwn : 17 ≤ w ∧ w + 6 ≤ 137 := by omega
        obtain ⟨⟨hwc, hws⟩, hfA_7, hgS_6⟩ := hN w ew
        refine lv_aload_n hx hb dX10_giveUp_40 rfl (lv_at hl 1 rfl) ?_
        refine q_get (o := 0) (ci := 10) (k := 1) (T := TX10) (v := .ref (ad 3)) C hM (qmem_10 E ad S_6 A_7 b (show qk 0 = 10 from by decide +kernel)) (by decide) rfl hi10 (by decide) hL0 rfl rfl dX10_giveUp_41 ?_
        refine q_get (o := 3) (ci := 9) (k := 2) (T := TX9) (v := .ref (ad 6)) C hM (qmem_9 E ad S_6 A_7 b (show qk 3 = 9 from by decide +kernel)) (by decide) rfl hi9 (by decide) hL1 rfl rfl dX10_giveUp_44 ?_
        refine lv_iload_n hx hb dX10_giveUp_47 rfl (lv_at hl 2 rfl) ?_
        refine lv_iconst (v := (-1)) hx hb dX10_giveUp_48 (by decide) ?_
        refine q_iast C hM (show qk 6 = 12 from by decide +kernel) (by rw [(show ql 6 = 6 from by decide +kernel)]; exact vp_nI (by omega) (by omega)) dX10_giveUp_49 (fun H locs hM => ?_)
        rw [nIc (by omega)] at hM
        obtain ⟨A_9, eA_9⟩ : ∃ zz, zz = q2 A_7 6 ka1 (-1) := ⟨_, rfl⟩
        rw [← eA_9] at hM
        refine lv_iload_n hx hb dX10_giveUp_50 rfl (lv_at hl 0 rfl) ?_
        exact q_iret C hM dX10_giveUp_51 (by rw [qix_in hka1 (by omega)]; dsimp only [Option.elim]; exact ⟨rfl, Or.inr ⟨by rw [if_neg c_23], ka1, hka1, rfl, (fun w2 ew2 => by rw [show w2 = w from ew2.trans ew.symm]; exact ⟨⟨⟨fun k hk => by rw [eA_9, q2_or _ _ (by omega)]; exact hwc.1 k hk, fun k hk => by rw [eA_9, q2_or _ _ (by omega)]; exact hwc.2.1 k hk, fun k hk => by rw [eA_9, q2_or _ _ (by omega)]; exact hwc.2.2.1 k hk, fun k hk => by rw [eA_9, q2_or _ _ (by omega)]; exact hwc.2.2.2.1 k hk, fun k hk => by rw [eA_9, q2_or _ _ (by omega)]; exact hwc.2.2.2.2 k hk⟩, ⟨hws.1, hws.2.1, hws.2.2⟩⟩, ⟨hn2, hn1⟩, fun i h1 h2 h3 => by rw [eA_9, q2_or _ _ (by omega)]; exact hfA_7 i h3, fun i h1 h2 h3 => hgS_6 i h3 (by omega)⟩), ⟨fun i h1 h2 => by rw [eA_9, q2_or _ _ (by omega)]; exact hfA_7 i (by omega), fun i h1 h2 h3 => hgS_6 i (by omega) h2⟩, rfl, by rw [eA_9, q2_row, hfA_7 6 (by omega)], by rw [eA_9, q2_or _ _ (by omega), hfA_7 4 (by omega)], by rw [eA_9, q2_or _ _ (by omega), hfA_7 5 (by omega)], by rw [eA_9, q2_or _ _ (by omega), hfA_7 7 (by omega)], by rw [eA_9, q2_or _ _ (by omega), hfA_7 8 (by omega)], by rw [hgS_6 3 (by omega) (by omega)], by rw [hgS_6 3 (by omega) (by omega)], by rw [hgS_6 3 (by omega) (by omega)]⟩⟩)
      · skip
        refine lv_ldc (v := (-1000000003)) hx hb C.2.2.2.1 hL3 dX10_giveUp_26 ?_
        exact q_iret C hM dX10_giveUp_28 (by rw [qix_in hka1 (by omega)]; dsimp only [Option.elim]; exact ⟨rfl, Or.inl ⟨by rw [if_pos c_23]; decide, by rw [if_pos c_23], rfl, rfl⟩⟩)
    · skip
      have c_5 : 1 = 0 := (nI_eq (a := 1) (b := 0) (by omega) (by omega)).mp c_5
      exact absurd c_5 (by decide)
  · skip
    subst er_1
    refine lv_if_ne (tgt := 11) hx hb dX10_giveUp_5 (by decide) (fun c_5 => ?_) (fun c_5 => ?_)
    · skip
      have c_5 : ¬ (0 = 0) := fun z => c_5 ((nI_eq (a := 0) (b := 0) (by omega) (by omega)).mpr z)
      exact absurd rfl c_5
    · skip
      have c_5 : 0 = 0 := (nI_eq (a := 0) (b := 0) (by omega) (by omega)).mp c_5
      refine lv_ldc (v := (-1000000001)) hx hb C.2.2.2.1 hL4 dX10_giveUp_8 ?_
      exact q_iret C hM dX10_giveUp_10 (by rw [qix_out (by omega) hnoa1]; dsimp only [Option.elim]; exact ⟨rfl, Or.inl ⟨by decide, rfl, rfl, rfl⟩⟩)

set_option maxHeartbeats 4000000 in
set_option maxRecDepth 100000 in
theorem c_X10_move (E : qE) (ad : Nat → Nat) (l : Launch) (S A : qA2) (b : qB) (p : Nat) (hp : qpl p) (hbp : b.1 = p) (a1 a2 : Int32) (nC : Nat) (hC : S p 0 = nI nC) (hCb : nC ≤ 12) (nP : Nat) (hPo : S p 4 = nI nP) (hPb : nP ≤ 6) (nw nc : Nat) (hnw : S 15 2 = nI nw) (hnwb : nw < 20) (hnc : S 15 1 = nI nc) (hncb : nc ≤ 20) : MI E ad l yX10_move wsX10_move { frames := 3, cells := 0, slots := 0, locals := 60 } [.ref (ad 0), .int a1, .int a2] S A b (fun r S' A' b' => b = b' ∧ ((¬ (qix a1 nP).elim (-1000000001) (fun k => if qfree (A 5) nC nP (A 5 k + (if a2 = 0 then -1 else 1)) = -1 then (-1000000003) else 0) = 0 ∧ r = (qix a1 nP).elim (-1000000001) (fun k => if qfree (A 5) nC nP (A 5 k + (if a2 = 0 then -1 else 1)) = -1 then (-1000000003) else 0) ∧ S = S' ∧ A = A') ∨ ((qix a1 nP).elim (-1000000001) (fun k => if qfree (A 5) nC nP (A 5 k + (if a2 = 0 then -1 else 1)) = -1 then (-1000000003) else 0) = 0 ∧ ∃ k, k < nP ∧ a1 = nI k ∧ qNoted nw nc S A S' A' ∧ qKeep S A S' A' ∧ r = qfree (A 5) nC nP (A 5 k + (if a2 = 0 then -1 else 1)) ∧ A' 5 = upd (A 5) k (qfree (A 5) nC nP (A 5 k + (if a2 = 0 then -1 else 1))) ∧ A' 4 = A 4 ∧ A' 6 = A 6 ∧ A' 7 = A 7 ∧ A' 8 = A 8 ∧ S' 3 5 = S 3 5 ∧ S' 3 6 = S 3 6 ∧ S' 3 7 = S 3 7))) := by
  obtain ⟨⟨kp, kp1, kp2, kp3, kp4, kp5, kp6⟩, ⟨lp1, lp2, lp3, lp4, lp5, lp6⟩, bp, bp7⟩ := qpl_all hp
  refine MI.of (cc := cX10_move) (maxL := 4) (ret := some .int) RX10 rfl (by decide) rfl ?_
  intro pg e s m below meth cd C hM
  have hx := C.1
  have hb := C.2.1
  have hts := C.2.2.2.2.1
  have hA : ∀ q, s.heap.size ≤ q → qAr ad s.heap.size q := fun _ h => Or.inr h
  have hi9 : ∀ w ∈ u_ws RX9 TX9 8, w ∈ wsX10_move := by decide +kernel
  have hi10 : ∀ w ∈ u_ws RX10 TX10 11, w ∈ wsX10_move := by decide +kernel
  have hL0 := hts (.fieldLink RX10 19 "CrowFences" "now" "LCrowFences$Winter;") (by decide +kernel)
  have hL1 := hts (.fieldLink RX10 71 "CrowFences" "plan" "LCrowFences$Plan;") (by decide +kernel)
  have hL2 := hts (.fieldLink RX10 29 "CrowFences" "past" "LCrowFences$Past;") (by decide +kernel)
  have hL3 := hts (.fieldLink RX10 164 "CrowFences$Winter" "cellOf" "[I") (by decide +kernel)
  have hL4 := hts (.constant RX10 200 (-1000000003)) (by decide +kernel)
  have hL5 := hts (.constant RX10 160 (-1000000001)) (by decide +kernel)
  have hl := lv_entry ([.ref (ad 0), .int a1, .int a2]) (n := 4) (Nat.le_of_ble_eq_true rfl)
  rw [lg_entry_eq]
  generalize (lg_sl ([.ref (ad 0), .int a1, .int a2]) ++ List.replicate (4 - (lg_sl ([.ref (ad 0), .int a1, .int a2])).length) Slot.unset).toArray = ls at hl ⊢
  have hl : lv_has ls 4 [(0, .ref (ad 0)), (1, .int a1), (2, .int a2)] := hl
  refine lv_aload_n hx hb dX10_move_0 rfl (lv_at hl 0 rfl) ?_
  refine lv_iload_n hx hb dX10_move_1 rfl (lv_at hl 1 rfl) ?_
  refine q_callVI (n := 1) (o := 0) (As := [.int a1]) (rest := []) C hM hA (c_X10_isPost E ad l S A b p hp hbp a1 nP hPo (by omega)) (qmem_10 E ad S A b (show qk 0 = 10 from by decide +kernel)) (by decide) rfl gX10_move_X10_isPost rfl rfl rfl (by decide +kernel) ⟨Nat.le_of_ble_eq_true rfl, Nat.le_of_ble_eq_true rfl⟩ rfl hl.1 rfl (Nat.le_of_ble_eq_true rfl) ⟨Nat.zero_le _, Nat.zero_le _⟩ dX10_move_2 (fun r_1 S_2 A_3 b_4 H locs qr_1 hM => ?_)
  obtain ⟨⟨e1, e2, e3⟩, hDr_1⟩ := qr_1
  subst e1; subst e2; subst e3
  rcases hDr_1 with ⟨er_1, ka1, hka1, eka1⟩ | ⟨er_1, hnoa1⟩
  · skip
    subst er_1
    subst eka1
    refine lv_if_ne (tgt := 11) hx hb dX10_move_5 (by decide) (fun c_5 => ?_) (fun c_5 => ?_)
    · skip
      have c_5 : ¬ (1 = 0) := fun z => c_5 ((nI_eq (a := 1) (b := 0) (by omega) (by omega)).mpr z)
      refine lv_aload_n hx hb dX10_move_11 rfl (lv_at hl 0 rfl) ?_
      refine q_get (o := 0) (ci := 10) (k := 1) (T := TX10) (v := .ref (ad 3)) C hM (qmem_10 E ad S A b (show qk 0 = 10 from by decide +kernel)) (by decide) rfl hi10 (by decide) hL0 rfl rfl dX10_move_12 ?_
      refine lv_aload_n hx hb dX10_move_15 rfl (lv_at hl 0 rfl) ?_
      refine q_get (o := 0) (ci := 10) (k := 9) (T := TX10) (v := .ref (ad p)) C hM (qmem_10 E ad S A b (show qk 0 = 10 from by decide +kernel)) (by decide) rfl hi10 (by decide) hL1 rfl (by rw [← hbp]; rfl) dX10_move_16 ?_
      refine lv_iload_n hx hb dX10_move_19 rfl (lv_at hl 1 rfl) ?_
      refine lv_iload_n hx hb dX10_move_20 rfl (lv_at hl 2 rfl) ?_
      refine q_callVI (n := 3) (o := 3) (As := [.ref (ad p), .int (nI ka1), .int a2]) (rest := []) C hM hA (c_X9_freeCellBeside E ad l S A b 3 (show 3 ∈ qwL from by decide +kernel) p hp ka1 (by omega) a2 nC hC (by omega) nP hPo (by omega)) (qmem_9 E ad S A b (show qk 3 = 9 from by decide +kernel)) (by decide) rfl gX10_move_X9_freeCellBeside rfl rfl rfl (by decide +kernel) ⟨Nat.le_of_ble_eq_true rfl, Nat.le_of_ble_eq_true rfl⟩ rfl hl.1 rfl (Nat.le_of_ble_eq_true rfl) ⟨Nat.zero_le _, Nat.zero_le _⟩ dX10_move_21 (fun r_5 S_6 A_7 b_8 H locs qr_5 hM => ?_)
      obtain ⟨⟨e1, e2, e3⟩, er_5⟩ := qr_5
      subst e1; subst e2; subst e3
      refine lv_istore_n (lv' := [(3, .int r_5), (0, .ref (ad 0)), (1, .int (nI ka1)), (2, .int a2)]) hx hb dX10_move_24 rfl hl (by decide) rfl (fun ls hl => ?_)
      refine lv_iload_n hx hb dX10_move_25 rfl (lv_at hl 0 rfl) ?_
      refine lv_iconst (v := (-1)) hx hb dX10_move_26 (by decide) ?_
      refine lv_icmp_ne (tgt := 33) hx hb dX10_move_27 (by decide) (fun c_27 => ?_) (fun c_27 => ?_)
      · skip
        refine lv_aload_n hx hb dX10_move_33 rfl (lv_at hl 1 rfl) ?_
        refine q_get (o := 0) (ci := 10) (k := 3) (T := TX10) (v := .ref (ad 15)) C hM (qmem_10 E ad S A b (show qk 0 = 10 from by decide +kernel)) (by decide) rfl hi10 (by decide) hL2 rfl rfl dX10_move_34 ?_
        refine lv_aload_n hx hb dX10_move_37 rfl (lv_at hl 1 rfl) ?_
        refine q_get (o := 0) (ci := 10) (k := 1) (T := TX10) (v := .ref (ad 3)) C hM (qmem_10 E ad S A b (show qk 0 = 10 from by decide +kernel)) (by decide) rfl hi10 (by decide) hL0 rfl rfl dX10_move_38 ?_
        refine q_callVV (n := 1) (o := 15) (As := [.ref (ad 3)]) (rest := []) C hM hA (c_X4_note E ad l S A b nw nc hnw (by omega) hnc (by omega)) (qmem_4 E ad S A b (show qk 15 = 4 from by decide +kernel)) (by decide) rfl gX10_move_X4_note rfl rfl rfl (by decide +kernel) ⟨Nat.le_of_ble_eq_true rfl, Nat.le_of_ble_eq_true rfl⟩ rfl hl.1 rfl (Nat.le_of_ble_eq_true rfl) ⟨Nat.zero_le _, Nat.zero_le _⟩ dX10_move_41 (fun S_10 A_11 b_12 H locs qr_9 hM => ?_)
        obtain ⟨e3, hN, hn2, hn1, hn0⟩ := qr_9
        subst e3
        obtain ⟨w, ew⟩ : ∃ zz, zz = 17 + 6 * ((nw + 1) % 20) := ⟨_, rfl⟩
        have bwn : 17 ≤ w ∧ w + 6 ≤ 137 := by omega
        obtain ⟨⟨hwc, hws⟩, hfA_11, hgS_10⟩ := hN w ew
        refine lv_aload_n hx hb dX10_move_44 rfl (lv_at hl 1 rfl) ?_
        refine q_get (o := 0) (ci := 10) (k := 1) (T := TX10) (v := .ref (ad 3)) C hM (qmem_10 E ad S_10 A_11 b (show qk 0 = 10 from by decide +kernel)) (by decide) rfl hi10 (by decide) hL0 rfl rfl dX10_move_45 ?_
        refine q_get (o := 3) (ci := 9) (k := 1) (T := TX9) (v := .ref (ad 5)) C hM (qmem_9 E ad S_10 A_11 b (show qk 3 = 9 from by decide +kernel)) (by decide) rfl hi9 (by decide) hL3 rfl rfl dX10_move_48 ?_
        refine lv_iload_n hx hb dX10_move_51 rfl (lv_at hl 2 rfl) ?_
        refine lv_iload_n hx hb dX10_move_52 rfl (lv_at hl 0 rfl) ?_
        refine q_iast C hM (show qk 5 = 12 from by decide +kernel) (by rw [(show ql 5 = 6 from by decide +kernel)]; exact vp_nI (by omega) (by omega)) dX10_move_53 (fun H locs hM => ?_)
        rw [nIc (by omega)] at hM
        obtain ⟨A_13, eA_13⟩ : ∃ zz, zz = q2 A_11 5 ka1 r_5 := ⟨_, rfl⟩
        rw [← eA_13] at hM
        refine lv_iload_n hx hb dX10_move_54 rfl (lv_at hl 0 rfl) ?_
        exact q_iret C hM dX10_move_55 (by rw [qix_in hka1 (by omega)]; dsimp only [Option.elim]; exact ⟨rfl, Or.inr ⟨by rw [← er_5, if_neg c_27], ka1, hka1, rfl, (fun w2 ew2 => by rw [show w2 = w from ew2.trans ew.symm]; exact ⟨⟨⟨fun k hk => by rw [eA_13, q2_or _ _ (by omega)]; exact hwc.1 k hk, fun k hk => by rw [eA_13, q2_or _ _ (by omega)]; exact hwc.2.1 k hk, fun k hk => by rw [eA_13, q2_or _ _ (by omega)]; exact hwc.2.2.1 k hk, fun k hk => by rw [eA_13, q2_or _ _ (by omega)]; exact hwc.2.2.2.1 k hk, fun k hk => by rw [eA_13, q2_or _ _ (by omega)]; exact hwc.2.2.2.2 k hk⟩, ⟨hws.1, hws.2.1, hws.2.2⟩⟩, ⟨hn2, hn1⟩, fun i h1 h2 h3 => by rw [eA_13, q2_or _ _ (by omega)]; exact hfA_11 i h3, fun i h1 h2 h3 => hgS_10 i h3 (by omega)⟩), ⟨fun i h1 h2 => by rw [eA_13, q2_or _ _ (by omega)]; exact hfA_11 i (by omega), fun i h1 h2 h3 => hgS_10 i (by omega) h2⟩, er_5, by rw [eA_13, q2_row, hfA_11 5 (by omega), er_5], by rw [eA_13, q2_or _ _ (by omega), hfA_11 4 (by omega)], by rw [eA_13, q2_or _ _ (by omega), hfA_11 6 (by omega)], by rw [eA_13, q2_or _ _ (by omega), hfA_11 7 (by omega)], by rw [eA_13, q2_or _ _ (by omega), hfA_11 8 (by omega)], by rw [hgS_10 3 (by omega) (by omega)], by rw [hgS_10 3 (by omega) (by omega)], by rw [hgS_10 3 (by omega) (by omega)]⟩⟩)
      · skip
        refine lv_ldc (v := (-1000000003)) hx hb C.2.2.2.1 hL4 dX10_move_30 ?_
        exact q_iret C hM dX10_move_32 (by rw [qix_in hka1 (by omega)]; dsimp only [Option.elim]; exact ⟨rfl, Or.inl ⟨by rw [← er_5, if_pos c_27]; decide, by rw [← er_5, if_pos c_27], rfl, rfl⟩⟩)
    · skip
      have c_5 : 1 = 0 := (nI_eq (a := 1) (b := 0) (by omega) (by omega)).mp c_5
      exact absurd c_5 (by decide)
  · skip
    subst er_1
    refine lv_if_ne (tgt := 11) hx hb dX10_move_5 (by decide) (fun c_5 => ?_) (fun c_5 => ?_)
    · skip
      have c_5 : ¬ (0 = 0) := fun z => c_5 ((nI_eq (a := 0) (b := 0) (by omega) (by omega)).mpr z)
      exact absurd rfl c_5
    · skip
      have c_5 : 0 = 0 := (nI_eq (a := 0) (b := 0) (by omega) (by omega)).mp c_5
      refine lv_ldc (v := (-1000000001)) hx hb C.2.2.2.1 hL5 dX10_move_8 ?_
      exact q_iret C hM dX10_move_10 (by rw [qix_out (by omega) hnoa1]; dsimp only [Option.elim]; exact ⟨rfl, Or.inl ⟨by decide, rfl, rfl, rfl⟩⟩)

set_option maxHeartbeats 4000000 in
set_option maxRecDepth 100000 in
theorem c_X10_thaw (E : qE) (ad : Nat → Nat) (l : Launch) (S A : qA2) (b : qB) (p : Nat) (hp : qpl p) (hbp : b.1 = p) (a1 : Int32) (nC : Nat) (hC : S p 0 = nI nC) (hCb : nC ≤ 12) (nw nc : Nat) (hnw : S 15 2 = nI nw) (hnwb : nw < 20) (hnc : S 15 1 = nI nc) (hncb : nc ≤ 20) : MI E ad l yX10_thaw wsX10_thaw { frames := 3, cells := 0, slots := 0, locals := 60 } [.ref (ad 0), .int a1] S A b (fun r S' A' b' => b = b' ∧ ((¬ (qir a1 1 99).elim (-1000000002) (fun _ => if nC = 0 then (-1000000003) else 0) = 0 ∧ r = (qir a1 1 99).elim (-1000000002) (fun _ => if nC = 0 then (-1000000003) else 0) ∧ S = S' ∧ A = A') ∨ ((qir a1 1 99).elim (-1000000002) (fun _ => if nC = 0 then (-1000000003) else 0) = 0 ∧ ∃ t, (1 ≤ t ∧ t ≤ 99) ∧ a1 = nI t ∧ qNoted nw nc S A S' A' ∧ qKeep S A S' A' ∧ r = qsum (A' 4) 12 ∧ A' 4 = qmap (fun _ x => if 0 < x - nI t then x - nI t else 0) (A 4) 12 ∧ A' 5 = A 5 ∧ A' 6 = A 6 ∧ A' 7 = A 7 ∧ A' 8 = A 8 ∧ S' 3 5 = S 3 5 ∧ S' 3 6 = S 3 6 ∧ S' 3 7 = S 3 7))) := by
  obtain ⟨⟨kp, kp1, kp2, kp3, kp4, kp5, kp6⟩, ⟨lp1, lp2, lp3, lp4, lp5, lp6⟩, bp, bp7⟩ := qpl_all hp
  refine MI.of (cc := cX10_thaw) (maxL := 2) (ret := some .int) RX10 rfl (by decide) rfl ?_
  intro pg e s m below meth cd C hM
  have hx := C.1
  have hb := C.2.1
  have hts := C.2.2.2.2.1
  have hA : ∀ q, s.heap.size ≤ q → qAr ad s.heap.size q := fun _ h => Or.inr h
  have hi5 : ∀ w ∈ u_ws RX5 TX5 13, w ∈ wsX10_thaw := by decide +kernel
  have hi10 : ∀ w ∈ u_ws RX10 TX10 11, w ∈ wsX10_thaw := by decide +kernel
  have hL0 := hts (.fieldLink RX10 71 "CrowFences" "plan" "LCrowFences$Plan;") (by decide +kernel)
  have hL1 := hts (.fieldLink RX10 113 "CrowFences$Plan" "cells" "I") (by decide +kernel)
  have hL2 := hts (.fieldLink RX10 29 "CrowFences" "past" "LCrowFences$Past;") (by decide +kernel)
  have hL3 := hts (.fieldLink RX10 19 "CrowFences" "now" "LCrowFences$Winter;") (by decide +kernel)
  have hL4 := hts (.constant RX10 200 (-1000000003)) (by decide +kernel)
  have hL5 := hts (.constant RX10 86 (-1000000002)) (by decide +kernel)
  have hl := lv_entry ([.ref (ad 0), .int a1]) (n := 2) (Nat.le_of_ble_eq_true rfl)
  rw [lg_entry_eq]
  generalize (lg_sl ([.ref (ad 0), .int a1]) ++ List.replicate (2 - (lg_sl ([.ref (ad 0), .int a1])).length) Slot.unset).toArray = ls at hl ⊢
  have hl : lv_has ls 2 [(0, .ref (ad 0)), (1, .int a1)] := hl
  refine lv_iload_n hx hb dX10_thaw_0 rfl (lv_at hl 1 rfl) ?_
  refine lv_iconst (v := 1) hx hb dX10_thaw_1 (by decide) ?_
  refine lv_bipush (v := 99) hx hb dX10_thaw_2 (by decide) ?_
  refine q_callSI (n := 3) (As := [.int a1, .int 1, .int 99]) (rest := []) C hM hA (c_X10_within E ad l S A b a1 1 99) gX10_thaw_X10_within rfl rfl rfl (by decide +kernel) ⟨Nat.le_of_ble_eq_true rfl, Nat.le_of_ble_eq_true rfl⟩ rfl hl.1 rfl (Nat.le_of_ble_eq_true rfl) ⟨Nat.zero_le _, Nat.zero_le _⟩ dX10_thaw_4 (fun r_1 S_2 A_3 b_4 H locs qr_1 hM => ?_)
  obtain ⟨⟨e1, e2, e3⟩, er_1⟩ := qr_1
  subst e1; subst e2; subst e3
  rcases q01_cases (1 ≤ a1 ∧ a1 ≤ 99) with ⟨hzr_1, hir_1⟩ | ⟨hzr_1, hir_1⟩
  · skip
    rw [hzr_1] at er_1
    subst er_1
    obtain ⟨ka1, hloka1, hhika1, eka1⟩ := qin_of (l := 1) (h := 99) rfl rfl (by omega) (by omega) hir_1
    subst eka1
    refine lv_if_ne (tgt := 13) hx hb dX10_thaw_7 (by decide) (fun c_7 => ?_) (fun c_7 => ?_)
    · skip
      have c_7 : ¬ (1 = 0) := fun z => c_7 ((nI_eq (a := 1) (b := 0) (by omega) (by omega)).mpr z)
      refine lv_aload_n hx hb dX10_thaw_13 rfl (lv_at hl 0 rfl) ?_
      refine q_get (o := 0) (ci := 10) (k := 9) (T := TX10) (v := .ref (ad p)) C hM (qmem_10 E ad S A b (show qk 0 = 10 from by decide +kernel)) (by decide) rfl hi10 (by decide) hL0 rfl (by rw [← hbp]; rfl) dX10_thaw_14 ?_
      refine q_get (o := p) (ci := 5) (k := 0) (T := TX5) (v := .int (S p 0)) C hM (qmem_5 E ad S A b kp) (by omega) rfl hi5 (by decide) hL1 rfl rfl dX10_thaw_17 ?_
      refine lv_as (y := nI nC) hC ?_
      refine lv_if_ne (tgt := 26) hx hb dX10_thaw_20 (by decide) (fun c_20 => ?_) (fun c_20 => ?_)
      · skip
        have c_20 : ¬ (nC = 0) := fun z => c_20 ((nI_eq (a := nC) (b := 0) (by omega) (by omega)).mpr z)
        refine lv_aload_n hx hb dX10_thaw_26 rfl (lv_at hl 0 rfl) ?_
        refine q_get (o := 0) (ci := 10) (k := 3) (T := TX10) (v := .ref (ad 15)) C hM (qmem_10 E ad S A b (show qk 0 = 10 from by decide +kernel)) (by decide) rfl hi10 (by decide) hL2 rfl rfl dX10_thaw_27 ?_
        refine lv_aload_n hx hb dX10_thaw_30 rfl (lv_at hl 0 rfl) ?_
        refine q_get (o := 0) (ci := 10) (k := 1) (T := TX10) (v := .ref (ad 3)) C hM (qmem_10 E ad S A b (show qk 0 = 10 from by decide +kernel)) (by decide) rfl hi10 (by decide) hL3 rfl rfl dX10_thaw_31 ?_
        refine q_callVV (n := 1) (o := 15) (As := [.ref (ad 3)]) (rest := []) C hM hA (c_X4_note E ad l S A b nw nc hnw (by omega) hnc (by omega)) (qmem_4 E ad S A b (show qk 15 = 4 from by decide +kernel)) (by decide) rfl gX10_thaw_X4_note rfl rfl rfl (by decide +kernel) ⟨Nat.le_of_ble_eq_true rfl, Nat.le_of_ble_eq_true rfl⟩ rfl hl.1 rfl (Nat.le_of_ble_eq_true rfl) ⟨Nat.zero_le _, Nat.zero_le _⟩ dX10_thaw_34 (fun S_6 A_7 b_8 H locs qr_5 hM => ?_)
        obtain ⟨e3, hN, hn2, hn1, hn0⟩ := qr_5
        subst e3
        obtain ⟨w, ew⟩ : ∃ zz, zz = 17 + 6 * ((nw + 1) % 20) := ⟨_, rfl⟩
        have bwn : 17 ≤ w ∧ w + 6 ≤ 137 := by omega
        obtain ⟨⟨hwc, hws⟩, hfA_7, hgS_6⟩ := hN w ew
        refine lv_aload_n hx hb dX10_thaw_37 rfl (lv_at hl 0 rfl) ?_
        refine q_get (o := 0) (ci := 10) (k := 1) (T := TX10) (v := .ref (ad 3)) C hM (qmem_10 E ad S_6 A_7 b (show qk 0 = 10 from by decide +kernel)) (by decide) rfl hi10 (by decide) hL3 rfl rfl dX10_thaw_38 ?_
        refine lv_iload_n hx hb dX10_thaw_41 rfl (lv_at hl 1 rfl) ?_
        refine q_callVV (n := 1) (o := 3) (As := [.int (nI ka1)]) (rest := []) C hM hA (c_X9_melt E ad l S_6 A_7 b 3 (show 3 ∈ qwL from by decide +kernel) (nI ka1)) (qmem_9 E ad S_6 A_7 b (show qk 3 = 9 from by decide +kernel)) (by decide) rfl gX10_thaw_X9_melt rfl rfl rfl (by decide +kernel) ⟨Nat.le_of_ble_eq_true rfl, Nat.le_of_ble_eq_true rfl⟩ rfl hl.1 rfl (Nat.le_of_ble_eq_true rfl) ⟨Nat.zero_le _, Nat.zero_le _⟩ dX10_thaw_42 (fun S_10 A_11 b_12 H locs qr_9 hM => ?_)
        obtain ⟨e1, e3, hrA_11, hfA_11⟩ := qr_9
        subst e1; subst e3
        simp only [Nat.reduceAdd] at hrA_11 hfA_11
        refine lv_aload_n hx hb dX10_thaw_45 rfl (lv_at hl 0 rfl) ?_
        refine q_get (o := 0) (ci := 10) (k := 1) (T := TX10) (v := .ref (ad 3)) C hM (qmem_10 E ad S_6 A_11 b (show qk 0 = 10 from by decide +kernel)) (by decide) rfl hi10 (by decide) hL3 rfl rfl dX10_thaw_46 ?_
        refine q_callVI (n := 0) (o := 3) (As := []) (rest := []) C hM hA (c_X9_allSnow E ad l S_6 A_11 b 3 (show 3 ∈ qwL from by decide +kernel)) (qmem_9 E ad S_6 A_11 b (show qk 3 = 9 from by decide +kernel)) (by decide) rfl gX10_thaw_X9_allSnow rfl rfl rfl (by decide +kernel) ⟨Nat.le_of_ble_eq_true rfl, Nat.le_of_ble_eq_true rfl⟩ rfl hl.1 rfl (Nat.le_of_ble_eq_true rfl) ⟨Nat.zero_le _, Nat.zero_le _⟩ dX10_thaw_49 (fun r_13 S_14 A_15 b_16 H locs qr_13 hM => ?_)
        obtain ⟨⟨e1, e2, e3⟩, er_13⟩ := qr_13
        subst e1; subst e2; subst e3
        exact q_iret C hM dX10_thaw_52 (by rw [qir_in hloka1 hhika1 (by omega)]; dsimp only [Option.elim]; exact ⟨rfl, Or.inr ⟨by rw [if_neg c_20], ka1, ⟨hloka1, hhika1⟩, rfl, (fun w2 ew2 => by rw [show w2 = w from ew2.trans ew.symm]; exact ⟨⟨⟨fun k hk => by rw [hfA_11 (w + 1) (by omega)]; exact hwc.1 k hk, fun k hk => by rw [hfA_11 (w + 2) (by omega)]; exact hwc.2.1 k hk, fun k hk => by rw [hfA_11 (w + 3) (by omega)]; exact hwc.2.2.1 k hk, fun k hk => by rw [hfA_11 (w + 4) (by omega)]; exact hwc.2.2.2.1 k hk, fun k hk => by rw [hfA_11 (w + 5) (by omega)]; exact hwc.2.2.2.2 k hk⟩, ⟨hws.1, hws.2.1, hws.2.2⟩⟩, ⟨hn2, hn1⟩, fun i h1 h2 h3 => by rw [hfA_11 i (by omega)]; exact hfA_7 i h3, fun i h1 h2 h3 => hgS_6 i h3 (by omega)⟩), ⟨fun i h1 h2 => by rw [hfA_11 i (by omega)]; exact hfA_7 i (by omega), fun i h1 h2 h3 => hgS_6 i (by omega) h2⟩, er_13, by rw [hrA_11, hfA_7 4 (by omega)], by rw [hfA_11 5 (by omega), hfA_7 5 (by omega)], by rw [hfA_11 6 (by omega), hfA_7 6 (by omega)], by rw [hfA_11 7 (by omega), hfA_7 7 (by omega)], by rw [hfA_11 8 (by omega), hfA_7 8 (by omega)], by rw [hgS_6 3 (by omega) (by omega)], by rw [hgS_6 3 (by omega) (by omega)], by rw [hgS_6 3 (by omega) (by omega)]⟩⟩)
      · skip
        have c_20 : nC = 0 := (nI_eq (a := nC) (b := 0) (by omega) (by omega)).mp c_20
        refine lv_ldc (v := (-1000000003)) hx hb C.2.2.2.1 hL4 dX10_thaw_23 ?_
        exact q_iret C hM dX10_thaw_25 (by rw [qir_in hloka1 hhika1 (by omega)]; dsimp only [Option.elim]; exact ⟨rfl, Or.inl ⟨by rw [if_pos c_20]; decide, by rw [if_pos c_20], rfl, rfl⟩⟩)
    · skip
      have c_7 : 1 = 0 := (nI_eq (a := 1) (b := 0) (by omega) (by omega)).mp c_7
      exact absurd c_7 (by decide)
  · skip
    rw [hzr_1] at er_1
    subst er_1
    refine lv_if_ne (tgt := 13) hx hb dX10_thaw_7 (by decide) (fun c_7 => ?_) (fun c_7 => ?_)
    · skip
      have c_7 : ¬ (0 = 0) := fun z => c_7 ((nI_eq (a := 0) (b := 0) (by omega) (by omega)).mpr z)
      exact absurd rfl c_7
    · skip
      have c_7 : 0 = 0 := (nI_eq (a := 0) (b := 0) (by omega) (by omega)).mp c_7
      refine lv_ldc (v := (-1000000002)) hx hb C.2.2.2.1 hL5 dX10_thaw_10 ?_
      exact q_iret C hM dX10_thaw_12 (by rw [qir_out hir_1]; dsimp only [Option.elim]; exact ⟨rfl, Or.inl ⟨by decide, rfl, rfl, rfl⟩⟩)

set_option maxHeartbeats 4000000 in
set_option maxRecDepth 100000 in
theorem c_X10_shout (E : qE) (ad : Nat → Nat) (l : Launch) (S A : qA2) (b : qB) (p : Nat) (hp : qpl p) (hbp : b.1 = p) (a1 : Int32) (nK : Nat) (hK : S p 5 = nI nK) (hKb : nK ≤ 5) (nw nc : Nat) (hnw : S 15 2 = nI nw) (hnwb : nw < 20) (hnc : S 15 1 = nI nc) (hncb : nc ≤ 20) : MI E ad l yX10_shout wsX10_shout { frames := 3, cells := 0, slots := 0, locals := 60 } [.ref (ad 0), .int a1] S A b (fun r S' A' b' => b = b' ∧ ((¬ (qix a1 nK).elim (-1000000001) (fun _ => 0) = 0 ∧ r = (qix a1 nK).elim (-1000000001) (fun _ => 0) ∧ S = S' ∧ A = A') ∨ ((qix a1 nK).elim (-1000000001) (fun _ => 0) = 0 ∧ ∃ k, k < nK ∧ a1 = nI k ∧ qNoted nw nc S A S' A' ∧ qKeep S A S' A' ∧ r = (if 0 < A 7 k - 1 then A 7 k - 1 else 0) ∧ A' 7 = upd (A 7) k (if 0 < A 7 k - 1 then A 7 k - 1 else 0) ∧ A' 4 = A 4 ∧ A' 5 = A 5 ∧ A' 6 = A 6 ∧ A' 8 = A 8 ∧ S' 3 5 = S 3 5 ∧ S' 3 6 = S 3 6 ∧ S' 3 7 = S 3 7))) := by
  obtain ⟨⟨kp, kp1, kp2, kp3, kp4, kp5, kp6⟩, ⟨lp1, lp2, lp3, lp4, lp5, lp6⟩, bp, bp7⟩ := qpl_all hp
  refine MI.of (cc := cX10_shout) (maxL := 2) (ret := some .int) RX10 rfl (by decide) rfl ?_
  intro pg e s m below meth cd C hM
  have hx := C.1
  have hb := C.2.1
  have hts := C.2.2.2.2.1
  have hA : ∀ q, s.heap.size ≤ q → qAr ad s.heap.size q := fun _ h => Or.inr h
  have hi9 : ∀ w ∈ u_ws RX9 TX9 8, w ∈ wsX10_shout := by decide +kernel
  have hi10 : ∀ w ∈ u_ws RX10 TX10 11, w ∈ wsX10_shout := by decide +kernel
  have hL0 := hts (.fieldLink RX10 29 "CrowFences" "past" "LCrowFences$Past;") (by decide +kernel)
  have hL1 := hts (.fieldLink RX10 19 "CrowFences" "now" "LCrowFences$Winter;") (by decide +kernel)
  have hL2 := hts (.fieldLink RX10 176 "CrowFences$Winter" "bid" "[I") (by decide +kernel)
  have hL3 := hts (.methodLink RX10 216 Lib.Math.max.name) (by decide +kernel)
  have hL4 := hts (.static Lib.Math.max.name) (by decide +kernel)
  have hL5 := hts (.initialized "java/lang/Math") (by decide +kernel)
  have hL6 := hts (.code Lib.Math.max.name Lib.Math.max.code 2 (some .int)) (by decide +kernel)
  have hL7 := hts (.constant RX10 160 (-1000000001)) (by decide +kernel)
  have hl := lv_entry ([.ref (ad 0), .int a1]) (n := 2) (Nat.le_of_ble_eq_true rfl)
  rw [lg_entry_eq]
  generalize (lg_sl ([.ref (ad 0), .int a1]) ++ List.replicate (2 - (lg_sl ([.ref (ad 0), .int a1])).length) Slot.unset).toArray = ls at hl ⊢
  have hl : lv_has ls 2 [(0, .ref (ad 0)), (1, .int a1)] := hl
  refine lv_aload_n hx hb dX10_shout_0 rfl (lv_at hl 0 rfl) ?_
  refine lv_iload_n hx hb dX10_shout_1 rfl (lv_at hl 1 rfl) ?_
  refine q_callVI (n := 1) (o := 0) (As := [.int a1]) (rest := []) C hM hA (c_X10_isCrow E ad l S A b p hp hbp a1 nK hK (by omega)) (qmem_10 E ad S A b (show qk 0 = 10 from by decide +kernel)) (by decide) rfl gX10_shout_X10_isCrow rfl rfl rfl (by decide +kernel) ⟨Nat.le_of_ble_eq_true rfl, Nat.le_of_ble_eq_true rfl⟩ rfl hl.1 rfl (Nat.le_of_ble_eq_true rfl) ⟨Nat.zero_le _, Nat.zero_le _⟩ dX10_shout_2 (fun r_1 S_2 A_3 b_4 H locs qr_1 hM => ?_)
  obtain ⟨⟨e1, e2, e3⟩, hDr_1⟩ := qr_1
  subst e1; subst e2; subst e3
  rcases hDr_1 with ⟨er_1, ka1, hka1, eka1⟩ | ⟨er_1, hnoa1⟩
  · skip
    subst er_1
    subst eka1
    refine lv_if_ne (tgt := 11) hx hb dX10_shout_5 (by decide) (fun c_5 => ?_) (fun c_5 => ?_)
    · skip
      have c_5 : ¬ (1 = 0) := fun z => c_5 ((nI_eq (a := 1) (b := 0) (by omega) (by omega)).mpr z)
      refine lv_aload_n hx hb dX10_shout_11 rfl (lv_at hl 0 rfl) ?_
      refine q_get (o := 0) (ci := 10) (k := 3) (T := TX10) (v := .ref (ad 15)) C hM (qmem_10 E ad S A b (show qk 0 = 10 from by decide +kernel)) (by decide) rfl hi10 (by decide) hL0 rfl rfl dX10_shout_12 ?_
      refine lv_aload_n hx hb dX10_shout_15 rfl (lv_at hl 0 rfl) ?_
      refine q_get (o := 0) (ci := 10) (k := 1) (T := TX10) (v := .ref (ad 3)) C hM (qmem_10 E ad S A b (show qk 0 = 10 from by decide +kernel)) (by decide) rfl hi10 (by decide) hL1 rfl rfl dX10_shout_16 ?_
      refine q_callVV (n := 1) (o := 15) (As := [.ref (ad 3)]) (rest := []) C hM hA (c_X4_note E ad l S A b nw nc hnw (by omega) hnc (by omega)) (qmem_4 E ad S A b (show qk 15 = 4 from by decide +kernel)) (by decide) rfl gX10_shout_X4_note rfl rfl rfl (by decide +kernel) ⟨Nat.le_of_ble_eq_true rfl, Nat.le_of_ble_eq_true rfl⟩ rfl hl.1 rfl (Nat.le_of_ble_eq_true rfl) ⟨Nat.zero_le _, Nat.zero_le _⟩ dX10_shout_19 (fun S_6 A_7 b_8 H locs qr_5 hM => ?_)
      obtain ⟨e3, hN, hn2, hn1, hn0⟩ := qr_5
      subst e3
      obtain ⟨w, ew⟩ : ∃ zz, zz = 17 + 6 * ((nw + 1) % 20) := ⟨_, rfl⟩
      have bwn : 17 ≤ w ∧ w + 6 ≤ 137 := by omega
      obtain ⟨⟨hwc, hws⟩, hfA_7, hgS_6⟩ := hN w ew
      refine lv_aload_n hx hb dX10_shout_22 rfl (lv_at hl 0 rfl) ?_
      refine q_get (o := 0) (ci := 10) (k := 1) (T := TX10) (v := .ref (ad 3)) C hM (qmem_10 E ad S_6 A_7 b (show qk 0 = 10 from by decide +kernel)) (by decide) rfl hi10 (by decide) hL1 rfl rfl dX10_shout_23 ?_
      refine q_get (o := 3) (ci := 9) (k := 3) (T := TX9) (v := .ref (ad 7)) C hM (qmem_9 E ad S_6 A_7 b (show qk 3 = 9 from by decide +kernel)) (by decide) rfl hi9 (by decide) hL2 rfl rfl dX10_shout_26 ?_
      refine lv_iload_n hx hb dX10_shout_29 rfl (lv_at hl 1 rfl) ?_
      refine lv_iconst (v := 0) hx hb dX10_shout_30 (by decide) ?_
      refine lv_aload_n hx hb dX10_shout_31 rfl (lv_at hl 0 rfl) ?_
      refine q_get (o := 0) (ci := 10) (k := 1) (T := TX10) (v := .ref (ad 3)) C hM (qmem_10 E ad S_6 A_7 b (show qk 0 = 10 from by decide +kernel)) (by decide) rfl hi10 (by decide) hL1 rfl rfl dX10_shout_32 ?_
      refine q_get (o := 3) (ci := 9) (k := 3) (T := TX9) (v := .ref (ad 7)) C hM (qmem_9 E ad S_6 A_7 b (show qk 3 = 9 from by decide +kernel)) (by decide) rfl hi9 (by decide) hL2 rfl rfl dX10_shout_35 ?_
      refine lv_iload_n hx hb dX10_shout_38 rfl (lv_at hl 1 rfl) ?_
      refine q_iald (v := A 7 ka1) C hM (show qk 7 = 12 from by decide +kernel) (by rw [(show ql 7 = 5 from by decide +kernel)]; exact vp_nI (by omega) (by omega)) (by rw [nIc (by omega)]; exact (show A_7 7 ka1 = A 7 ka1 from by rw [hfA_7 7 (by omega)])) dX10_shout_39 ?_
      refine lv_iconst (v := 1) hx hb dX10_shout_40 (by decide) ?_
      refine lv_isub hx hb dX10_shout_41 ?_
      refine va_mmax hx hb (C.2.2.1.trans hl.1.symm) C.2.2.2.1 hL3 hL4 hL5 hL6 (Nat.le_of_ble_eq_true rfl) (Nat.le_of_ble_eq_true rfl) (Nat.zero_le _) (Nat.zero_le _) dX10_shout_42 ?_
      refine lv_topi (fun v_9 ev_9 => ?_)
      refine q_iast C hM (show qk 7 = 12 from by decide +kernel) (by rw [(show ql 7 = 5 from by decide +kernel)]; exact vp_nI (by omega) (by omega)) dX10_shout_45 (fun H locs hM => ?_)
      rw [nIc (by omega)] at hM
      obtain ⟨A_10, eA_10⟩ : ∃ zz, zz = q2 A_7 7 ka1 v_9 := ⟨_, rfl⟩
      rw [← eA_10] at hM
      refine lv_aload_n hx hb dX10_shout_46 rfl (lv_at hl 0 rfl) ?_
      refine q_get (o := 0) (ci := 10) (k := 1) (T := TX10) (v := .ref (ad 3)) C hM (qmem_10 E ad S_6 A_10 b (show qk 0 = 10 from by decide +kernel)) (by decide) rfl hi10 (by decide) hL1 rfl rfl dX10_shout_47 ?_
      refine q_get (o := 3) (ci := 9) (k := 3) (T := TX9) (v := .ref (ad 7)) C hM (qmem_9 E ad S_6 A_10 b (show qk 3 = 9 from by decide +kernel)) (by decide) rfl hi9 (by decide) hL2 rfl rfl dX10_shout_50 ?_
      refine lv_iload_n hx hb dX10_shout_53 rfl (lv_at hl 1 rfl) ?_
      refine q_iald (v := v_9) C hM (show qk 7 = 12 from by decide +kernel) (by rw [(show ql 7 = 5 from by decide +kernel)]; exact vp_nI (by omega) (by omega)) (by rw [nIc (by omega)]; exact (show A_10 7 ka1 = v_9 from by rw [eA_10]; exact q2_s _ _ _ _)) dX10_shout_54 ?_
      exact q_iret C hM dX10_shout_55 (by rw [qix_in hka1 (by omega)]; dsimp only [Option.elim]; exact ⟨rfl, Or.inr ⟨rfl, ka1, hka1, rfl, (fun w2 ew2 => by rw [show w2 = w from ew2.trans ew.symm]; exact ⟨⟨⟨fun k hk => by rw [eA_10, q2_or _ _ (by omega)]; exact hwc.1 k hk, fun k hk => by rw [eA_10, q2_or _ _ (by omega)]; exact hwc.2.1 k hk, fun k hk => by rw [eA_10, q2_or _ _ (by omega)]; exact hwc.2.2.1 k hk, fun k hk => by rw [eA_10, q2_or _ _ (by omega)]; exact hwc.2.2.2.1 k hk, fun k hk => by rw [eA_10, q2_or _ _ (by omega)]; exact hwc.2.2.2.2 k hk⟩, ⟨hws.1, hws.2.1, hws.2.2⟩⟩, ⟨hn2, hn1⟩, fun i h1 h2 h3 => by rw [eA_10, q2_or _ _ (by omega)]; exact hfA_7 i h3, fun i h1 h2 h3 => hgS_6 i h3 (by omega)⟩), ⟨fun i h1 h2 => by rw [eA_10, q2_or _ _ (by omega)]; exact hfA_7 i (by omega), fun i h1 h2 h3 => hgS_6 i (by omega) h2⟩, ev_9, by rw [eA_10, q2_row, hfA_7 7 (by omega), ev_9], by rw [eA_10, q2_or _ _ (by omega), hfA_7 4 (by omega)], by rw [eA_10, q2_or _ _ (by omega), hfA_7 5 (by omega)], by rw [eA_10, q2_or _ _ (by omega), hfA_7 6 (by omega)], by rw [eA_10, q2_or _ _ (by omega), hfA_7 8 (by omega)], by rw [hgS_6 3 (by omega) (by omega)], by rw [hgS_6 3 (by omega) (by omega)], by rw [hgS_6 3 (by omega) (by omega)]⟩⟩)
    · skip
      have c_5 : 1 = 0 := (nI_eq (a := 1) (b := 0) (by omega) (by omega)).mp c_5
      exact absurd c_5 (by decide)
  · skip
    subst er_1
    refine lv_if_ne (tgt := 11) hx hb dX10_shout_5 (by decide) (fun c_5 => ?_) (fun c_5 => ?_)
    · skip
      have c_5 : ¬ (0 = 0) := fun z => c_5 ((nI_eq (a := 0) (b := 0) (by omega) (by omega)).mpr z)
      exact absurd rfl c_5
    · skip
      have c_5 : 0 = 0 := (nI_eq (a := 0) (b := 0) (by omega) (by omega)).mp c_5
      refine lv_ldc (v := (-1000000001)) hx hb C.2.2.2.1 hL7 dX10_shout_8 ?_
      exact q_iret C hM dX10_shout_10 (by rw [qix_out (by omega) hnoa1]; dsimp only [Option.elim]; exact ⟨rfl, Or.inl ⟨by decide, rfl, rfl, rfl⟩⟩)

set_option maxHeartbeats 4000000 in
set_option maxRecDepth 100000 in
theorem c_X10_let (E : qE) (ad : Nat → Nat) (l : Launch) (S A : qA2) (b : qB) (p : Nat) (hp : qpl p) (hbp : b.1 = p) (a1 a2 : Int32) (nP : Nat) (hPo : S p 4 = nI nP) (hPb : nP ≤ 6) (nK : Nat) (hK : S p 5 = nI nK) (hKb : nK ≤ 5) (nw nc : Nat) (hnw : S 15 2 = nI nw) (hnwb : nw < 20) (hnc : S 15 1 = nI nc) (hncb : nc ≤ 20) : MI E ad l yX10_let wsX10_let { frames := 3, cells := 0, slots := 0, locals := 60 } [.ref (ad 0), .int a1, .int a2] S A b (fun r S' A' b' => b = b' ∧ ((¬ (qix a1 nP).elim (-1000000001) (fun k => (qix a2 nK).elim (-1000000001) (fun c => if A 6 k = -1 ∧ qfind (A 6) (nI c) 0 6 = -1 then 0 else (-1000000003))) = 0 ∧ r = (qix a1 nP).elim (-1000000001) (fun k => (qix a2 nK).elim (-1000000001) (fun c => if A 6 k = -1 ∧ qfind (A 6) (nI c) 0 6 = -1 then 0 else (-1000000003))) ∧ S = S' ∧ A = A') ∨ ((qix a1 nP).elim (-1000000001) (fun k => (qix a2 nK).elim (-1000000001) (fun c => if A 6 k = -1 ∧ qfind (A 6) (nI c) 0 6 = -1 then 0 else (-1000000003))) = 0 ∧ ∃ k c, k < nP ∧ c < nK ∧ a1 = nI k ∧ a2 = nI c ∧ qNoted nw nc S A S' A' ∧ qKeep S A S' A' ∧ r = (A 7 c + A (p + 4) c * A (p + 2) k) ∧ A' 6 = upd (A 6) k (nI c) ∧ A' 8 = upd (A 8) c (qmin6 (A 8 c + (A 7 c + A (p + 4) c * A (p + 2) k))) ∧ A' 4 = A 4 ∧ A' 5 = A 5 ∧ A' 7 = A 7 ∧ S' 3 5 = S 3 5 ||| qbit k ∧ S' 3 7 = qmin6 (S 3 7 + (A 7 c + A (p + 4) c * A (p + 2) k)) ∧ S' 3 6 = S 3 6))) := by
  obtain ⟨⟨kp, kp1, kp2, kp3, kp4, kp5, kp6⟩, ⟨lp1, lp2, lp3, lp4, lp5, lp6⟩, bp, bp7⟩ := qpl_all hp
  refine MI.of (cc := cX10_let) (maxL := 4) (ret := some .int) RX10 rfl (by decide) rfl ?_
  intro pg e s m below meth cd C hM
  have hx := C.1
  have hb := C.2.1
  have hts := C.2.2.2.2.1
  have hA : ∀ q, s.heap.size ≤ q → qAr ad s.heap.size q := fun _ h => Or.inr h
  have hi9 : ∀ w ∈ u_ws RX9 TX9 8, w ∈ wsX10_let := by decide +kernel
  have hi10 : ∀ w ∈ u_ws RX10 TX10 11, w ∈ wsX10_let := by decide +kernel
  have hL0 := hts (.fieldLink RX10 19 "CrowFences" "now" "LCrowFences$Winter;") (by decide +kernel)
  have hL1 := hts (.fieldLink RX10 170 "CrowFences$Winter" "crowOn" "[I") (by decide +kernel)
  have hL2 := hts (.constant RX10 200 (-1000000003)) (by decide +kernel)
  have hL3 := hts (.fieldLink RX10 29 "CrowFences" "past" "LCrowFences$Past;") (by decide +kernel)
  have hL4 := hts (.fieldLink RX10 71 "CrowFences" "plan" "LCrowFences$Plan;") (by decide +kernel)
  have hL5 := hts (.constant RX10 160 (-1000000001)) (by decide +kernel)
  have hl := lv_entry ([.ref (ad 0), .int a1, .int a2]) (n := 4) (Nat.le_of_ble_eq_true rfl)
  rw [lg_entry_eq]
  generalize (lg_sl ([.ref (ad 0), .int a1, .int a2]) ++ List.replicate (4 - (lg_sl ([.ref (ad 0), .int a1, .int a2])).length) Slot.unset).toArray = ls at hl ⊢
  have hl : lv_has ls 4 [(0, .ref (ad 0)), (1, .int a1), (2, .int a2)] := hl
  refine lv_aload_n hx hb dX10_let_0 rfl (lv_at hl 0 rfl) ?_
  refine lv_iload_n hx hb dX10_let_1 rfl (lv_at hl 1 rfl) ?_
  refine q_callVI (n := 1) (o := 0) (As := [.int a1]) (rest := []) C hM hA (c_X10_isPost E ad l S A b p hp hbp a1 nP hPo (by omega)) (qmem_10 E ad S A b (show qk 0 = 10 from by decide +kernel)) (by decide) rfl gX10_let_X10_isPost rfl rfl rfl (by decide +kernel) ⟨Nat.le_of_ble_eq_true rfl, Nat.le_of_ble_eq_true rfl⟩ rfl hl.1 rfl (Nat.le_of_ble_eq_true rfl) ⟨Nat.zero_le _, Nat.zero_le _⟩ dX10_let_2 (fun r_1 S_2 A_3 b_4 H locs qr_1 hM => ?_)
  obtain ⟨⟨e1, e2, e3⟩, hDr_1⟩ := qr_1
  subst e1; subst e2; subst e3
  rcases hDr_1 with ⟨er_1, ka1, hka1, eka1⟩ | ⟨er_1, hnoa1⟩
  · skip
    subst er_1
    subst eka1
    refine lv_if_eq (tgt := 16) hx hb dX10_let_5 (by decide) (fun c_5 => ?_) (fun c_5 => ?_)
    · skip
      have c_5 : 1 = 0 := (nI_eq (a := 1) (b := 0) (by omega) (by omega)).mp c_5
      exact absurd c_5 (by decide)
    · skip
      have c_5 : ¬ (1 = 0) := fun z => c_5 ((nI_eq (a := 1) (b := 0) (by omega) (by omega)).mpr z)
      refine lv_aload_n hx hb dX10_let_8 rfl (lv_at hl 0 rfl) ?_
      refine lv_iload_n hx hb dX10_let_9 rfl (lv_at hl 2 rfl) ?_
      refine q_callVI (n := 1) (o := 0) (As := [.int a2]) (rest := []) C hM hA (c_X10_isCrow E ad l S A b p hp hbp a2 nK hK (by omega)) (qmem_10 E ad S A b (show qk 0 = 10 from by decide +kernel)) (by decide) rfl gX10_let_X10_isCrow rfl rfl rfl (by decide +kernel) ⟨Nat.le_of_ble_eq_true rfl, Nat.le_of_ble_eq_true rfl⟩ rfl hl.1 rfl (Nat.le_of_ble_eq_true rfl) ⟨Nat.zero_le _, Nat.zero_le _⟩ dX10_let_10 (fun r_5 S_6 A_7 b_8 H locs qr_5 hM => ?_)
      obtain ⟨⟨e1, e2, e3⟩, hDr_5⟩ := qr_5
      subst e1; subst e2; subst e3
      rcases hDr_5 with ⟨er_5, ka2, hka2, eka2⟩ | ⟨er_5, hnoa2⟩
      · skip
        subst er_5
        subst eka2
        refine lv_if_ne (tgt := 19) hx hb dX10_let_13 (by decide) (fun c_13 => ?_) (fun c_13 => ?_)
        · skip
          have c_13 : ¬ (1 = 0) := fun z => c_13 ((nI_eq (a := 1) (b := 0) (by omega) (by omega)).mpr z)
          refine lv_aload_n hx hb dX10_let_19 rfl (lv_at hl 0 rfl) ?_
          refine q_get (o := 0) (ci := 10) (k := 1) (T := TX10) (v := .ref (ad 3)) C hM (qmem_10 E ad S A b (show qk 0 = 10 from by decide +kernel)) (by decide) rfl hi10 (by decide) hL0 rfl rfl dX10_let_20 ?_
          refine q_get (o := 3) (ci := 9) (k := 2) (T := TX9) (v := .ref (ad 6)) C hM (qmem_9 E ad S A b (show qk 3 = 9 from by decide +kernel)) (by decide) rfl hi9 (by decide) hL1 rfl rfl dX10_let_23 ?_
          refine lv_iload_n hx hb dX10_let_26 rfl (lv_at hl 1 rfl) ?_
          refine q_iald (v := A 6 ka1) C hM (show qk 6 = 12 from by decide +kernel) (by rw [(show ql 6 = 6 from by decide +kernel)]; exact vp_nI (by omega) (by omega)) (by rw [nIc (by omega)]) dX10_let_27 ?_
          refine lv_iconst (v := (-1)) hx hb dX10_let_28 (by decide) ?_
          refine lv_icmp_ne (tgt := 44) hx hb dX10_let_29 (by decide) (fun c_29 => ?_) (fun c_29 => ?_)
          · skip
            refine lv_ldc (v := (-1000000003)) hx hb C.2.2.2.1 hL2 dX10_let_44 ?_
            exact q_iret C hM dX10_let_46 (by rw [qix_in hka1 (by omega)]; dsimp only [Option.elim]; rw [qix_in hka2 (by omega)]; dsimp only [Option.elim]; exact ⟨rfl, Or.inl ⟨by rw [if_neg (fun z => c_29 z.1)]; decide, by rw [if_neg (fun z => c_29 z.1)], rfl, rfl⟩⟩)
          · skip
            refine lv_aload_n hx hb dX10_let_32 rfl (lv_at hl 0 rfl) ?_
            refine q_get (o := 0) (ci := 10) (k := 1) (T := TX10) (v := .ref (ad 3)) C hM (qmem_10 E ad S A b (show qk 0 = 10 from by decide +kernel)) (by decide) rfl hi10 (by decide) hL0 rfl rfl dX10_let_33 ?_
            refine lv_iload_n hx hb dX10_let_36 rfl (lv_at hl 2 rfl) ?_
            refine q_callVI (n := 1) (o := 3) (As := [.int (nI ka2)]) (rest := []) C hM hA (c_X9_postOf E ad l S A b 3 (show 3 ∈ qwL from by decide +kernel) (nI ka2)) (qmem_9 E ad S A b (show qk 3 = 9 from by decide +kernel)) (by decide) rfl gX10_let_X9_postOf rfl rfl rfl (by decide +kernel) ⟨Nat.le_of_ble_eq_true rfl, Nat.le_of_ble_eq_true rfl⟩ rfl hl.1 rfl (Nat.le_of_ble_eq_true rfl) ⟨Nat.zero_le _, Nat.zero_le _⟩ dX10_let_37 (fun r_9 S_10 A_11 b_12 H locs qr_9 hM => ?_)
            obtain ⟨⟨e1, e2, e3⟩, er_9⟩ := qr_9
            subst e1; subst e2; subst e3
            refine lv_iconst (v := (-1)) hx hb dX10_let_40 (by decide) ?_
            refine lv_icmp_eq (tgt := 47) hx hb dX10_let_41 (by decide) (fun c_41 => ?_) (fun c_41 => ?_)
            · skip
              refine lv_aload_n hx hb dX10_let_47 rfl (lv_at hl 0 rfl) ?_
              refine q_get (o := 0) (ci := 10) (k := 3) (T := TX10) (v := .ref (ad 15)) C hM (qmem_10 E ad S A b (show qk 0 = 10 from by decide +kernel)) (by decide) rfl hi10 (by decide) hL3 rfl rfl dX10_let_48 ?_
              refine lv_aload_n hx hb dX10_let_51 rfl (lv_at hl 0 rfl) ?_
              refine q_get (o := 0) (ci := 10) (k := 1) (T := TX10) (v := .ref (ad 3)) C hM (qmem_10 E ad S A b (show qk 0 = 10 from by decide +kernel)) (by decide) rfl hi10 (by decide) hL0 rfl rfl dX10_let_52 ?_
              refine q_callVV (n := 1) (o := 15) (As := [.ref (ad 3)]) (rest := []) C hM hA (c_X4_note E ad l S A b nw nc hnw (by omega) hnc (by omega)) (qmem_4 E ad S A b (show qk 15 = 4 from by decide +kernel)) (by decide) rfl gX10_let_X4_note rfl rfl rfl (by decide +kernel) ⟨Nat.le_of_ble_eq_true rfl, Nat.le_of_ble_eq_true rfl⟩ rfl hl.1 rfl (Nat.le_of_ble_eq_true rfl) ⟨Nat.zero_le _, Nat.zero_le _⟩ dX10_let_55 (fun S_14 A_15 b_16 H locs qr_13 hM => ?_)
              obtain ⟨e3, hN, hn2, hn1, hn0⟩ := qr_13
              subst e3
              obtain ⟨w, ew⟩ : ∃ zz, zz = 17 + 6 * ((nw + 1) % 20) := ⟨_, rfl⟩
              have bwn : 17 ≤ w ∧ w + 6 ≤ 137 := by omega
              obtain ⟨⟨hwc, hws⟩, hfA_15, hgS_14⟩ := hN w ew
              refine lv_aload_n hx hb dX10_let_58 rfl (lv_at hl 0 rfl) ?_
              refine q_get (o := 0) (ci := 10) (k := 1) (T := TX10) (v := .ref (ad 3)) C hM (qmem_10 E ad S_14 A_15 b (show qk 0 = 10 from by decide +kernel)) (by decide) rfl hi10 (by decide) hL0 rfl rfl dX10_let_59 ?_
              refine lv_aload_n hx hb dX10_let_62 rfl (lv_at hl 0 rfl) ?_
              refine q_get (o := 0) (ci := 10) (k := 9) (T := TX10) (v := .ref (ad p)) C hM (qmem_10 E ad S_14 A_15 b (show qk 0 = 10 from by decide +kernel)) (by decide) rfl hi10 (by decide) hL4 rfl (by rw [← hbp]; rfl) dX10_let_63 ?_
              refine lv_iload_n hx hb dX10_let_66 rfl (lv_at hl 1 rfl) ?_
              refine lv_iload_n hx hb dX10_let_67 rfl (lv_at hl 2 rfl) ?_
              refine q_callVI (n := 3) (o := 3) (As := [.ref (ad p), .int (nI ka1), .int (nI ka2)]) (rest := []) C hM hA (c_X9_worthOf E ad l S_14 A_15 b 3 (show 3 ∈ qwL from by decide +kernel) p hp ka1 ka2 (by omega) (by omega)) (qmem_9 E ad S_14 A_15 b (show qk 3 = 9 from by decide +kernel)) (by decide) rfl gX10_let_X9_worthOf rfl rfl rfl (by decide +kernel) ⟨Nat.le_of_ble_eq_true rfl, Nat.le_of_ble_eq_true rfl⟩ rfl hl.1 rfl (Nat.le_of_ble_eq_true rfl) ⟨Nat.zero_le _, Nat.zero_le _⟩ dX10_let_68 (fun r_17 S_18 A_19 b_20 H locs qr_17 hM => ?_)
              obtain ⟨⟨e1, e2, e3⟩, er_17⟩ := qr_17
              subst e1; subst e2; subst e3
              simp only [Nat.reduceAdd] at er_17
              rw [show A_15 7 = A 7 from by rw [hfA_15 7 (by omega)], show A_15 (p + 4) = A (p + 4) from by rw [hfA_15 (p + 4) (by omega)], show A_15 (p + 2) = A (p + 2) from by rw [hfA_15 (p + 2) (by omega)]] at er_17
              refine lv_istore_n (lv' := [(3, .int r_17), (0, .ref (ad 0)), (1, .int (nI ka1)), (2, .int (nI ka2))]) hx hb dX10_let_71 rfl hl (by decide) rfl (fun ls hl => ?_)
              refine lv_aload_n hx hb dX10_let_72 rfl (lv_at hl 1 rfl) ?_
              refine q_get (o := 0) (ci := 10) (k := 1) (T := TX10) (v := .ref (ad 3)) C hM (qmem_10 E ad S_14 A_15 b (show qk 0 = 10 from by decide +kernel)) (by decide) rfl hi10 (by decide) hL0 rfl rfl dX10_let_73 ?_
              refine lv_iload_n hx hb dX10_let_76 rfl (lv_at hl 2 rfl) ?_
              refine lv_iload_n hx hb dX10_let_77 rfl (lv_at hl 3 rfl) ?_
              refine lv_iload_n hx hb dX10_let_78 rfl (lv_at hl 0 rfl) ?_
              refine q_callVV (n := 3) (o := 3) (As := [.int (nI ka1), .int (nI ka2), .int r_17]) (rest := []) C hM hA (c_X9_lease E ad l S_14 A_15 b 3 (show 3 ∈ qwL from by decide +kernel) ka1 ka2 r_17 (by omega) (by omega)) (qmem_9 E ad S_14 A_15 b (show qk 3 = 9 from by decide +kernel)) (by decide) rfl gX10_let_X9_lease rfl rfl rfl (by decide +kernel) ⟨Nat.le_of_ble_eq_true rfl, Nat.le_of_ble_eq_true rfl⟩ rfl hl.1 rfl (Nat.le_of_ble_eq_true rfl) ⟨Nat.zero_le _, Nat.zero_le _⟩ dX10_let_79 (fun S_22 A_23 b_24 H locs qr_21 hM => ?_)
              obtain ⟨eS_22, eA_23, e3⟩ := qr_21
              subst e3
              simp only [Nat.reduceAdd] at eA_23
              obtain ⟨S_25, eS_25⟩ : ∃ zz, zz = q2 S_14 3 5 (S_14 3 5 ||| qbit ka1) := ⟨_, rfl⟩
              rw [← eS_25] at eS_22
              obtain ⟨A_26, eA_26⟩ : ∃ zz, zz = q2 A_15 6 ka1 (nI ka2) := ⟨_, rfl⟩
              rw [← eA_26] at eA_23
              refine lv_iload_n hx hb dX10_let_82 rfl (lv_at hl 0 rfl) ?_
              exact q_iret C hM dX10_let_83 (by rw [qix_in hka1 (by omega)]; dsimp only [Option.elim]; rw [qix_in hka2 (by omega)]; dsimp only [Option.elim]; exact ⟨rfl, Or.inr ⟨by rw [if_pos ⟨c_29, er_9 ▸ c_41⟩], ka1, ka2, hka1, hka2, rfl, rfl, (fun w2 ew2 => by rw [show w2 = w from ew2.trans ew.symm]; exact ⟨⟨⟨fun k hk => by rw [eA_23, q2_or _ _ (by omega), eA_26, q2_or _ _ (by omega)]; exact hwc.1 k hk, fun k hk => by rw [eA_23, q2_or _ _ (by omega), eA_26, q2_or _ _ (by omega)]; exact hwc.2.1 k hk, fun k hk => by rw [eA_23, q2_or _ _ (by omega), eA_26, q2_or _ _ (by omega)]; exact hwc.2.2.1 k hk, fun k hk => by rw [eA_23, q2_or _ _ (by omega), eA_26, q2_or _ _ (by omega)]; exact hwc.2.2.2.1 k hk, fun k hk => by rw [eA_23, q2_or _ _ (by omega), eA_26, q2_or _ _ (by omega)]; exact hwc.2.2.2.2 k hk⟩, ⟨by rw [eS_22, q2_o _ _ (by omega), eS_25, q2_o _ _ (by omega)]; exact hws.1, by rw [eS_22, q2_o _ _ (by omega), eS_25, q2_o _ _ (by omega)]; exact hws.2.1, by rw [eS_22, q2_o _ _ (by omega), eS_25, q2_o _ _ (by omega)]; exact hws.2.2⟩⟩, ⟨by rw [eS_22, q2_o _ _ (by omega), eS_25, q2_o _ _ (by omega)]; exact hn2, by rw [eS_22, q2_o _ _ (by omega), eS_25, q2_o _ _ (by omega)]; exact hn1⟩, fun i h1 h2 h3 => by rw [eA_23, q2_or _ _ (by omega), eA_26, q2_or _ _ (by omega)]; exact hfA_15 i h3, fun i h1 h2 h3 => by rw [eS_22, q2_or _ _ (by omega), eS_25, q2_or _ _ (by omega)]; exact hgS_14 i h3 (by omega)⟩), ⟨fun i h1 h2 => by rw [eA_23, q2_or _ _ (by omega), eA_26, q2_or _ _ (by omega)]; exact hfA_15 i (by omega), fun i h1 h2 h3 => by rw [eS_22, q2_or _ _ (by omega), eS_25, q2_or _ _ (by omega)]; exact hgS_14 i (by omega) h2⟩, er_17, by rw [eA_23, q2_or _ _ (by omega), eA_26, q2_row, hfA_15 6 (by omega)], by rw [eA_23, q2_row, eA_26, q2_or _ _ (by omega), hfA_15 8 (by omega), er_17], by rw [eA_23, q2_or _ _ (by omega), eA_26, q2_or _ _ (by omega), hfA_15 4 (by omega)], by rw [eA_23, q2_or _ _ (by omega), eA_26, q2_or _ _ (by omega), hfA_15 5 (by omega)], by rw [eA_23, q2_or _ _ (by omega), eA_26, q2_or _ _ (by omega), hfA_15 7 (by omega)], by rw [eS_22, q2_k _ _ (by omega), eS_25, q2_s, hgS_14 3 (by omega) (by omega)], by rw [eS_22, q2_s, hgS_14 3 (by omega) (by omega), er_17], by rw [eS_22, q2_k _ _ (by omega), eS_25, q2_k _ _ (by omega), hgS_14 3 (by omega) (by omega)]⟩⟩)
            · skip
              refine lv_ldc (v := (-1000000003)) hx hb C.2.2.2.1 hL2 dX10_let_44 ?_
              exact q_iret C hM dX10_let_46 (by rw [qix_in hka1 (by omega)]; dsimp only [Option.elim]; rw [qix_in hka2 (by omega)]; dsimp only [Option.elim]; exact ⟨rfl, Or.inl ⟨by rw [if_neg (fun z => c_41 (er_9.trans z.2))]; decide, by rw [if_neg (fun z => c_41 (er_9.trans z.2))], rfl, rfl⟩⟩)
        · skip
          have c_13 : 1 = 0 := (nI_eq (a := 1) (b := 0) (by omega) (by omega)).mp c_13
          exact absurd c_13 (by decide)
      · skip
        subst er_5
        refine lv_if_ne (tgt := 19) hx hb dX10_let_13 (by decide) (fun c_13 => ?_) (fun c_13 => ?_)
        · skip
          have c_13 : ¬ (0 = 0) := fun z => c_13 ((nI_eq (a := 0) (b := 0) (by omega) (by omega)).mpr z)
          exact absurd rfl c_13
        · skip
          have c_13 : 0 = 0 := (nI_eq (a := 0) (b := 0) (by omega) (by omega)).mp c_13
          refine lv_ldc (v := (-1000000001)) hx hb C.2.2.2.1 hL5 dX10_let_16 ?_
          exact q_iret C hM dX10_let_18 (by rw [qix_in hka1 (by omega)]; dsimp only [Option.elim]; rw [qix_out (by omega) hnoa2]; dsimp only [Option.elim]; exact ⟨rfl, Or.inl ⟨by decide, rfl, rfl, rfl⟩⟩)
  · skip
    subst er_1
    refine lv_if_eq (tgt := 16) hx hb dX10_let_5 (by decide) (fun c_5 => ?_) (fun c_5 => ?_)
    · skip
      have c_5 : 0 = 0 := (nI_eq (a := 0) (b := 0) (by omega) (by omega)).mp c_5
      refine lv_ldc (v := (-1000000001)) hx hb C.2.2.2.1 hL5 dX10_let_16 ?_
      exact q_iret C hM dX10_let_18 (by rw [qix_out (by omega) hnoa1]; dsimp only [Option.elim]; exact ⟨rfl, Or.inl ⟨by decide, rfl, rfl, rfl⟩⟩)
    · skip
      have c_5 : ¬ (0 = 0) := fun z => c_5 ((nI_eq (a := 0) (b := 0) (by omega) (by omega)).mpr z)
      exact absurd rfl c_5
