set_option maxHeartbeats 4000000 in
set_option maxRecDepth 100000 in
theorem c_X10_hour (E : qE) (ad : Nat → Nat) (l : Launch) (S A : qA2) (b : qB) (p : Nat) (hp : qpl p) (hbp : b.1 = p) (a1 : Int32) (nC : Nat) (hC : S p 0 = nI nC) (hCb : nC ≤ 12) (nP : Nat) (hPo : S p 4 = nI nP) (hPb : nP ≤ 6) (nW : Nat) (hWi : S p 6 = nI nW) (hWb : nW ≤ 10) (nH : Nat) (hH : S 3 6 = nI nH) (hHb : nH ≤ 80000) (nw nc : Nat) (hnw : S 15 2 = nI nw) (hnwb : nw < 20) (hnc : S 15 1 = nI nc) (hncb : nc ≤ 20) : MI E ad l yX10_hour wsX10_hour { frames := 3, cells := 0, slots := 0, locals := 79 } [.ref (ad 0), .int a1] S A b (fun r S' A' b' => b = b' ∧ ((¬ qrefh a1 nC (S 3 6) = 0 ∧ r = qrefh a1 nC (S 3 6) ∧ S = S' ∧ A = A') ∨ (qrefh a1 nC (S 3 6) = 0 ∧ ∃ n, (1 ≤ n ∧ n ≤ 60) ∧ a1 = nI n ∧ qNoted nw nc S A S' A' ∧ qKeep S A S' A' ∧ r = qsum (A' 4) 12 ∧ (A' 4, S' 3 5, S' 3 6) = (qpass nC nP nW (S p 1) (A 5) (A (p + 5)) (A (p + 6)) (qlets (A 6) 6) (A 4, S 3 5, S 3 6) n) ∧ A' 5 = A 5 ∧ A' 6 = A 6 ∧ A' 7 = A 7 ∧ A' 8 = A 8 ∧ S' 3 7 = S 3 7))) := by
  obtain ⟨⟨kp, kp1, kp2, kp3, kp4, kp5, kp6⟩, ⟨lp1, lp2, lp3, lp4, lp5, lp6⟩, bp, bp7⟩ := qpl_all hp
  refine MI.of (cc := cX10_hour) (maxL := 3) (ret := some .int) RX10 rfl (by decide) rfl ?_
  intro pg e s m below meth cd C hM
  have hx := C.1
  have hb := C.2.1
  have hts := C.2.2.2.2.1
  have hA : ∀ q, s.heap.size ≤ q → qAr ad s.heap.size q := fun _ h => Or.inr h
  have hi10 : ∀ w ∈ u_ws RX10 TX10 11, w ∈ wsX10_hour := by decide +kernel
  have hL0 := hts (.fieldLink RX10 29 "CrowFences" "past" "LCrowFences$Past;") (by decide +kernel)
  have hL1 := hts (.fieldLink RX10 19 "CrowFences" "now" "LCrowFences$Winter;") (by decide +kernel)
  have hL2 := hts (.fieldLink RX10 71 "CrowFences" "plan" "LCrowFences$Plan;") (by decide +kernel)
  have hl := lv_entry ([.ref (ad 0), .int a1]) (n := 3) (Nat.le_of_ble_eq_true rfl)
  rw [lg_entry_eq]
  generalize (lg_sl ([.ref (ad 0), .int a1]) ++ List.replicate (3 - (lg_sl ([.ref (ad 0), .int a1])).length) Slot.unset).toArray = ls at hl ⊢
  have hl : lv_has ls 3 [(0, .ref (ad 0)), (1, .int a1)] := hl
  refine lv_aload_n hx hb dX10_hour_0 rfl (lv_at hl 0 rfl) ?_
  refine lv_iload_n hx hb dX10_hour_1 rfl (lv_at hl 1 rfl) ?_
  refine q_callVI (n := 1) (o := 0) (As := [.int a1]) (rest := []) C hM hA (c_X10_refusalOfHours E ad l S A b p hp hbp a1 nC hC (by omega)) (qmem_10 E ad S A b (show qk 0 = 10 from by decide +kernel)) (by decide) rfl gX10_hour_X10_refusalOfHours rfl rfl rfl (by decide +kernel) ⟨Nat.le_of_ble_eq_true rfl, Nat.le_of_ble_eq_true rfl⟩ rfl hl.1 rfl (Nat.le_of_ble_eq_true rfl) ⟨Nat.zero_le _, Nat.zero_le _⟩ dX10_hour_2 (fun r_1 S_2 A_3 b_4 H locs qr_1 hM => ?_)
  obtain ⟨⟨e1, e2, e3⟩, er_1⟩ := qr_1
  subst e1; subst e2; subst e3
  refine lv_istore_n (lv' := [(2, .int r_1), (0, .ref (ad 0)), (1, .int a1)]) hx hb dX10_hour_5 rfl hl (by decide) rfl (fun ls hl => ?_)
  refine lv_iload_n hx hb dX10_hour_6 rfl (lv_at hl 0 rfl) ?_
  refine lv_if_eq (tgt := 12) hx hb dX10_hour_7 (by decide) (fun c_7 => ?_) (fun c_7 => ?_)
  · skip
    refine lv_aload_n hx hb dX10_hour_12 rfl (lv_at hl 1 rfl) ?_
    obtain ⟨hin, hC0, hh9⟩ := qrefh_0 (er_1.symm.trans c_7)
    obtain ⟨ka1, hloka1, hhika1, eka1⟩ := qin_of (l := 1) (h := 60) rfl rfl (by omega) (by omega) hin
    subst eka1
    refine q_get (o := 0) (ci := 10) (k := 3) (T := TX10) (v := .ref (ad 15)) C hM (qmem_10 E ad S A b (show qk 0 = 10 from by decide +kernel)) (by decide) rfl hi10 (by decide) hL0 rfl rfl dX10_hour_13 ?_
    refine lv_aload_n hx hb dX10_hour_16 rfl (lv_at hl 1 rfl) ?_
    refine q_get (o := 0) (ci := 10) (k := 1) (T := TX10) (v := .ref (ad 3)) C hM (qmem_10 E ad S A b (show qk 0 = 10 from by decide +kernel)) (by decide) rfl hi10 (by decide) hL1 rfl rfl dX10_hour_17 ?_
    refine q_callVV (n := 1) (o := 15) (As := [.ref (ad 3)]) (rest := []) C hM hA (c_X4_note E ad l S A b nw nc hnw (by omega) hnc (by omega)) (qmem_4 E ad S A b (show qk 15 = 4 from by decide +kernel)) (by decide) rfl gX10_hour_X4_note rfl rfl rfl (by decide +kernel) ⟨Nat.le_of_ble_eq_true rfl, Nat.le_of_ble_eq_true rfl⟩ rfl hl.1 rfl (Nat.le_of_ble_eq_true rfl) ⟨Nat.zero_le _, Nat.zero_le _⟩ dX10_hour_20 (fun S_6 A_7 b_8 H locs qr_5 hM => ?_)
    obtain ⟨e3, hN, hn2, hn1, hn0⟩ := qr_5
    subst e3
    obtain ⟨w, ew⟩ : ∃ zz, zz = 17 + 6 * ((nw + 1) % 20) := ⟨_, rfl⟩
    have bwn : 17 ≤ w ∧ w + 6 ≤ 137 := by omega
    obtain ⟨⟨hwc, hws⟩, hfA_7, hgS_6⟩ := hN w ew
    refine lv_aload_n hx hb dX10_hour_23 rfl (lv_at hl 1 rfl) ?_
    refine q_get (o := 0) (ci := 10) (k := 1) (T := TX10) (v := .ref (ad 3)) C hM (qmem_10 E ad S_6 A_7 b (show qk 0 = 10 from by decide +kernel)) (by decide) rfl hi10 (by decide) hL1 rfl rfl dX10_hour_24 ?_
    refine lv_aload_n hx hb dX10_hour_27 rfl (lv_at hl 1 rfl) ?_
    refine q_get (o := 0) (ci := 10) (k := 9) (T := TX10) (v := .ref (ad p)) C hM (qmem_10 E ad S_6 A_7 b (show qk 0 = 10 from by decide +kernel)) (by decide) rfl hi10 (by decide) hL2 rfl (by rw [← hbp]; rfl) dX10_hour_28 ?_
    refine lv_iload_n hx hb dX10_hour_31 rfl (lv_at hl 2 rfl) ?_
    refine lv_aload_n hx hb dX10_hour_32 rfl (lv_at hl 1 rfl) ?_
    refine q_get (o := 0) (ci := 10) (k := 1) (T := TX10) (v := .ref (ad 3)) C hM (qmem_10 E ad S_6 A_7 b (show qk 0 = 10 from by decide +kernel)) (by decide) rfl hi10 (by decide) hL1 rfl rfl dX10_hour_33 ?_
    refine q_callVI (n := 0) (o := 3) (As := []) (rest := [.int (nI ka1), .ref (ad p), .ref (ad 3)]) C hM hA (c_X9_letPosts E ad l S_6 A_7 b 3 (show 3 ∈ qwL from by decide +kernel)) (qmem_9 E ad S_6 A_7 b (show qk 3 = 9 from by decide +kernel)) (by decide) rfl gX10_hour_X9_letPosts rfl rfl rfl (by decide +kernel) ⟨Nat.le_of_ble_eq_true rfl, Nat.le_of_ble_eq_true rfl⟩ rfl hl.1 rfl (Nat.le_of_ble_eq_true rfl) ⟨Nat.zero_le _, Nat.zero_le _⟩ dX10_hour_36 (fun r_9 S_10 A_11 b_12 H locs qr_9 hM => ?_)
    obtain ⟨⟨e1, e2, e3⟩, er_9⟩ := qr_9
    subst e1; subst e2; subst e3
    simp only [Nat.reduceAdd] at er_9
    rw [show A_7 6 = A 6 from by rw [hfA_7 6 (by omega)]] at er_9
    refine q_callVV (n := 3) (o := 3) (As := [.ref (ad p), .int (nI ka1), .int r_9]) (rest := []) C hM hA (c_X9_passHours E ad l S_6 A_7 b 3 (show 3 ∈ qwL from by decide +kernel) p hp ka1 r_9 nC ((show S_6 p 0 = S p 0 from by rw [hgS_6 p (by omega) (by omega)]).trans hC) (by omega) nP ((show S_6 p 4 = S p 4 from by rw [hgS_6 p (by omega) (by omega)]).trans hPo) (by omega) nW ((show S_6 p 6 = S p 6 from by rw [hgS_6 p (by omega) (by omega)]).trans hWi) (by omega) nH ((show S_6 3 6 = S 3 6 from by rw [hgS_6 3 (by omega) (by omega)]).trans hH) (by omega) (by omega)) (qmem_9 E ad S_6 A_7 b (show qk 3 = 9 from by decide +kernel)) (by decide) rfl gX10_hour_X9_passHours rfl rfl rfl (by decide +kernel) ⟨Nat.le_of_ble_eq_true rfl, Nat.le_of_ble_eq_true rfl⟩ rfl hl.1 rfl (Nat.le_of_ble_eq_true rfl) ⟨Nat.zero_le _, Nat.zero_le _⟩ dX10_hour_39 (fun S_14 A_15 b_16 H locs qr_13 hM => ?_)
    obtain ⟨e3, htA_15, hfA_15, hgS_14⟩ := qr_13
    subst e3
    simp only [Nat.reduceAdd] at htA_15 hfA_15
    refine lv_aload_n hx hb dX10_hour_42 rfl (lv_at hl 1 rfl) ?_
    refine q_get (o := 0) (ci := 10) (k := 1) (T := TX10) (v := .ref (ad 3)) C hM (qmem_10 E ad S_14 A_15 b (show qk 0 = 10 from by decide +kernel)) (by decide) rfl hi10 (by decide) hL1 rfl rfl dX10_hour_43 ?_
    refine q_callVI (n := 0) (o := 3) (As := []) (rest := []) C hM hA (c_X9_allSnow E ad l S_14 A_15 b 3 (show 3 ∈ qwL from by decide +kernel)) (qmem_9 E ad S_14 A_15 b (show qk 3 = 9 from by decide +kernel)) (by decide) rfl gX10_hour_X9_allSnow rfl rfl rfl (by decide +kernel) ⟨Nat.le_of_ble_eq_true rfl, Nat.le_of_ble_eq_true rfl⟩ rfl hl.1 rfl (Nat.le_of_ble_eq_true rfl) ⟨Nat.zero_le _, Nat.zero_le _⟩ dX10_hour_46 (fun r_17 S_18 A_19 b_20 H locs qr_17 hM => ?_)
    obtain ⟨⟨e1, e2, e3⟩, er_17⟩ := qr_17
    subst e1; subst e2; subst e3
    exact q_iret C hM dX10_hour_49 (by have hz := htA_15; rw [hfA_7 4 (by omega), hfA_7 5 (by omega), hfA_7 (p + 5) (by omega), hfA_7 (p + 6) (by omega), er_9, hgS_6 3 (by omega) (by omega), hgS_6 p (by omega) (by omega)] at hz; exact ⟨rfl, Or.inr ⟨er_1.symm.trans c_7, ka1, ⟨hloka1, hhika1⟩, rfl, (fun w2 ew2 => by rw [show w2 = w from ew2.trans ew.symm]; exact ⟨⟨⟨fun k hk => by rw [hfA_15 (w + 1) (by omega)]; exact hwc.1 k hk, fun k hk => by rw [hfA_15 (w + 2) (by omega)]; exact hwc.2.1 k hk, fun k hk => by rw [hfA_15 (w + 3) (by omega)]; exact hwc.2.2.1 k hk, fun k hk => by rw [hfA_15 (w + 4) (by omega)]; exact hwc.2.2.2.1 k hk, fun k hk => by rw [hfA_15 (w + 5) (by omega)]; exact hwc.2.2.2.2 k hk⟩, ⟨by rw [hgS_14 w 5 (by omega)]; exact hws.1, by rw [hgS_14 w 6 (by omega)]; exact hws.2.1, by rw [hgS_14 w 7 (by omega)]; exact hws.2.2⟩⟩, ⟨by rw [hgS_14 15 2 (by omega)]; exact hn2, by rw [hgS_14 15 1 (by omega)]; exact hn1⟩, fun i h1 h2 h3 => by rw [hfA_15 i (by omega)]; exact hfA_7 i h3, fun i h1 h2 h3 => by rw [show S_14 i = S_6 i from funext fun j => hgS_14 i j (Or.inl (by omega))]; exact hgS_6 i h3 (by omega)⟩), ⟨fun i h1 h2 => by rw [hfA_15 i (by omega)]; exact hfA_7 i (by omega), fun i h1 h2 h3 => by rw [show S_14 i = S_6 i from funext fun j => hgS_14 i j (Or.inl (by omega))]; exact hgS_6 i (by omega) h2⟩, er_17, hz, by rw [hfA_15 5 (by omega), hfA_7 5 (by omega)], by rw [hfA_15 6 (by omega), hfA_7 6 (by omega)], by rw [hfA_15 7 (by omega), hfA_7 7 (by omega)], by rw [hfA_15 8 (by omega), hfA_7 8 (by omega)], by rw [hgS_14 3 7 (by omega), hgS_6 3 (by omega) (by omega)]⟩⟩)
  · skip
    refine lv_iload_n hx hb dX10_hour_10 rfl (lv_at hl 0 rfl) ?_
    exact q_iret C hM dX10_hour_11 (by exact ⟨rfl, Or.inl ⟨fun z => c_7 (er_1.trans z), er_1, rfl, rfl⟩⟩)

set_option maxHeartbeats 4000000 in
set_option maxRecDepth 100000 in
theorem c_X10_drift (E : qE) (ad : Nat → Nat) (l : Launch) (S A : qA2) (b : qB) (p : Nat) (hp : qpl p) (hbp : b.1 = p) (a1 : Int32) (nC : Nat) (hC : S p 0 = nI nC) (hCb : nC ≤ 12) (nP : Nat) (hPo : S p 4 = nI nP) (hPb : nP ≤ 6) (nW : Nat) (hWi : S p 6 = nI nW) (hWb : nW ≤ 10) (nH : Nat) (hH : S 3 6 = nI nH) (hHb : nH ≤ 80000) (nw nc : Nat) (hnw : S 15 2 = nI nw) (hnwb : nw < 20) (hnc : S 15 1 = nI nc) (hncb : nc ≤ 20) : MI E ad l yX10_drift wsX10_drift { frames := 3, cells := 0, slots := 0, locals := 60 } [.ref (ad 0), .int a1] S A b (fun r S' A' b' => b = b' ∧ ((¬ qrefh a1 nC (S 3 6) = 0 ∧ r = qrefh a1 nC (S 3 6) ∧ S = S' ∧ A = A') ∨ (qrefh a1 nC (S 3 6) = 0 ∧ ∃ n, (1 ≤ n ∧ n ≤ 60) ∧ a1 = nI n ∧ qNoted nw nc S A S' A' ∧ ((∀ i, (i ≤ 3 ∨ 8 < i) → (i < 17 ∨ 136 < i) → A' i = A i) ∧ (∀ i, i ≠ 3 → i ≠ 15 → i ≠ 137 → (i < 17 ∨ 136 < i) → S' i = S i)) ∧ r = qsum (A' 4) 12 ∧ ((A' 4, S' 3 5, S' 3 6), S' 137 0) = qdrift nC nP (S p 1) (A 5) (qlets (A 6) 6) ((A 4, S 3 5, S 3 6), S 137 0) n ∧ A' 5 = A 5 ∧ A' 6 = A 6 ∧ A' 7 = A 7 ∧ A' 8 = A 8 ∧ S' 3 7 = S 3 7))) := by
  obtain ⟨⟨kp, kp1, kp2, kp3, kp4, kp5, kp6⟩, ⟨lp1, lp2, lp3, lp4, lp5, lp6⟩, bp, bp7⟩ := qpl_all hp
  refine MI.of (cc := cX10_drift) (maxL := 7) (ret := some .int) RX10 rfl (by decide) rfl ?_
  intro pg e s m below meth cd C hM
  have hx := C.1
  have hb := C.2.1
  have hts := C.2.2.2.2.1
  have hA : ∀ q, s.heap.size ≤ q → qAr ad s.heap.size q := fun _ h => Or.inr h
  have hi10 : ∀ w ∈ u_ws RX10 TX10 11, w ∈ wsX10_drift := by decide +kernel
  have hL0 := hts (.fieldLink RX10 29 "CrowFences" "past" "LCrowFences$Past;") (by decide +kernel)
  have hL1 := hts (.fieldLink RX10 19 "CrowFences" "now" "LCrowFences$Winter;") (by decide +kernel)
  have hL2 := hts (.fieldLink RX10 36 "CrowFences" "draws" "LCrowFences$Draws;") (by decide +kernel)
  have hL3 := hts (.fieldLink RX10 71 "CrowFences" "plan" "LCrowFences$Plan;") (by decide +kernel)
  have hl := lv_entry ([.ref (ad 0), .int a1]) (n := 7) (Nat.le_of_ble_eq_true rfl)
  rw [lg_entry_eq]
  generalize (lg_sl ([.ref (ad 0), .int a1]) ++ List.replicate (7 - (lg_sl ([.ref (ad 0), .int a1])).length) Slot.unset).toArray = ls at hl ⊢
  have hl : lv_has ls 7 [(0, .ref (ad 0)), (1, .int a1)] := hl
  refine lv_aload_n hx hb dX10_drift_0 rfl (lv_at hl 0 rfl) ?_
  refine lv_iload_n hx hb dX10_drift_1 rfl (lv_at hl 1 rfl) ?_
  refine q_callVI (n := 1) (o := 0) (As := [.int a1]) (rest := []) C hM hA (c_X10_refusalOfHours E ad l S A b p hp hbp a1 nC hC (by omega)) (qmem_10 E ad S A b (show qk 0 = 10 from by decide +kernel)) (by decide) rfl gX10_drift_X10_refusalOfHours rfl rfl rfl (by decide +kernel) ⟨Nat.le_of_ble_eq_true rfl, Nat.le_of_ble_eq_true rfl⟩ rfl hl.1 rfl (Nat.le_of_ble_eq_true rfl) ⟨Nat.zero_le _, Nat.zero_le _⟩ dX10_drift_2 (fun r_1 S_2 A_3 b_4 H locs qr_1 hM => ?_)
  obtain ⟨⟨e1, e2, e3⟩, er_1⟩ := qr_1
  subst e1; subst e2; subst e3
  refine lv_istore_n (lv' := [(2, .int r_1), (0, .ref (ad 0)), (1, .int a1)]) hx hb dX10_drift_5 rfl hl (by decide) rfl (fun ls hl => ?_)
  refine lv_iload_n hx hb dX10_drift_6 rfl (lv_at hl 0 rfl) ?_
  refine lv_if_eq (tgt := 12) hx hb dX10_drift_7 (by decide) (fun c_7 => ?_) (fun c_7 => ?_)
  · skip
    refine lv_aload_n hx hb dX10_drift_12 rfl (lv_at hl 1 rfl) ?_
    obtain ⟨hin, hC0, hh9⟩ := qrefh_0 (er_1.symm.trans c_7)
    obtain ⟨ka1, hloka1, hhika1, eka1⟩ := qin_of (l := 1) (h := 60) rfl rfl (by omega) (by omega) hin
    subst eka1
    refine q_get (o := 0) (ci := 10) (k := 3) (T := TX10) (v := .ref (ad 15)) C hM (qmem_10 E ad S A b (show qk 0 = 10 from by decide +kernel)) (by decide) rfl hi10 (by decide) hL0 rfl rfl dX10_drift_13 ?_
    refine lv_aload_n hx hb dX10_drift_16 rfl (lv_at hl 1 rfl) ?_
    refine q_get (o := 0) (ci := 10) (k := 1) (T := TX10) (v := .ref (ad 3)) C hM (qmem_10 E ad S A b (show qk 0 = 10 from by decide +kernel)) (by decide) rfl hi10 (by decide) hL1 rfl rfl dX10_drift_17 ?_
    refine q_callVV (n := 1) (o := 15) (As := [.ref (ad 3)]) (rest := []) C hM hA (c_X4_note E ad l S A b nw nc hnw (by omega) hnc (by omega)) (qmem_4 E ad S A b (show qk 15 = 4 from by decide +kernel)) (by decide) rfl gX10_drift_X4_note rfl rfl rfl (by decide +kernel) ⟨Nat.le_of_ble_eq_true rfl, Nat.le_of_ble_eq_true rfl⟩ rfl hl.1 rfl (Nat.le_of_ble_eq_true rfl) ⟨Nat.zero_le _, Nat.zero_le _⟩ dX10_drift_20 (fun S_6 A_7 b_8 H locs qr_5 hM => ?_)
    obtain ⟨e3, hN, hn2, hn1, hn0⟩ := qr_5
    subst e3
    obtain ⟨w, ew⟩ : ∃ zz, zz = 17 + 6 * ((nw + 1) % 20) := ⟨_, rfl⟩
    have bwn : 17 ≤ w ∧ w + 6 ≤ 137 := by omega
    obtain ⟨⟨hwc, hws⟩, hfA_7, hgS_6⟩ := hN w ew
    refine lv_aload_n hx hb dX10_drift_23 rfl (lv_at hl 1 rfl) ?_
    refine q_get (o := 0) (ci := 10) (k := 1) (T := TX10) (v := .ref (ad 3)) C hM (qmem_10 E ad S_6 A_7 b (show qk 0 = 10 from by decide +kernel)) (by decide) rfl hi10 (by decide) hL1 rfl rfl dX10_drift_24 ?_
    refine q_callVI (n := 0) (o := 3) (As := []) (rest := []) C hM hA (c_X9_letPosts E ad l S_6 A_7 b 3 (show 3 ∈ qwL from by decide +kernel)) (qmem_9 E ad S_6 A_7 b (show qk 3 = 9 from by decide +kernel)) (by decide) rfl gX10_drift_X9_letPosts rfl rfl rfl (by decide +kernel) ⟨Nat.le_of_ble_eq_true rfl, Nat.le_of_ble_eq_true rfl⟩ rfl hl.1 rfl (Nat.le_of_ble_eq_true rfl) ⟨Nat.zero_le _, Nat.zero_le _⟩ dX10_drift_27 (fun r_9 S_10 A_11 b_12 H locs qr_9 hM => ?_)
    obtain ⟨⟨e1, e2, e3⟩, er_9⟩ := qr_9
    subst e1; subst e2; subst e3
    simp only [Nat.reduceAdd] at er_9
    rw [show A_7 6 = A 6 from by rw [hfA_7 6 (by omega)]] at er_9
    refine lv_istore_n (lv' := [(3, .int r_9), (2, .int r_1), (0, .ref (ad 0)), (1, .int (nI ka1))]) hx hb dX10_drift_30 rfl hl (by decide) rfl (fun ls hl => ?_)
    refine lv_iconst (v := 0) hx hb dX10_drift_31 (by decide) ?_
    refine lv_istore (lv' := [(4, .int 0), (3, .int r_9), (2, .int r_1), (0, .ref (ad 0)), (1, .int (nI ka1))]) hx hb dX10_drift_32 hl (by decide) rfl (fun ls hl => ?_)
    have loop34 : ∀ (fu : Nat) (k : Nat) (S34 : qA2) (A34 : qA2) (hk : k ≤ ka1) (ht : ((A34 4, S34 3 5, S34 3 6), S34 137 0) = qdrift nC nP (S p 1) (A 5) (qlets (A 6) 6) ((A 4, S 3 5, S 3 6), S 137 0) k) (hfA : ∀ i, i ≠ 4 → A34 i = A_7 i) (hfS : ∀ i, i ≠ 3 → i ≠ 137 → S34 i = S_6 i) (h37 : S34 3 7 = S 3 7), ka1 - k < fu → ∀ (H : Heap) (locs : List Loc) (ls : Array Slot), qM E ad S34 A34 b (qAr ad s.heap.size) s H locs → lv_has ls 7 [(4, .int (nI k)), (3, .int r_9), (0, .ref (ad 0)), (1, .int (nI ka1))] → W pg l e (headSpec wsX10_drift { frames := 3, cells := 0, slots := 0, locals := 60 }).room s m ([.ref (ad 0), .int (nI ka1)] : List Value).toArray below meth cd H locs 0 0 (MQ below (qQi E ad s.heap.size (fun r S' A' b' => b = b' ∧ ((¬ qrefh (nI ka1) nC (S 3 6) = 0 ∧ r = qrefh (nI ka1) nC (S 3 6) ∧ S = S' ∧ A = A') ∨ (qrefh (nI ka1) nC (S 3 6) = 0 ∧ ∃ n, (1 ≤ n ∧ n ≤ 60) ∧ (nI ka1) = nI n ∧ qNoted nw nc S A S' A' ∧ ((∀ i, (i ≤ 3 ∨ 8 < i) → (i < 17 ∨ 136 < i) → A' i = A i) ∧ (∀ i, i ≠ 3 → i ≠ 15 → i ≠ 137 → (i < 17 ∨ 136 < i) → S' i = S i)) ∧ r = qsum (A' 4) 12 ∧ ((A' 4, S' 3 5, S' 3 6), S' 137 0) = qdrift nC nP (S p 1) (A 5) (qlets (A 6) 6) ((A 4, S 3 5, S 3 6), S 137 0) n ∧ A' 5 = A 5 ∧ A' 6 = A 6 ∧ A' 7 = A 7 ∧ A' 8 = A 8 ∧ S' 3 7 = S 3 7)))) ([.ref (ad 0), .int (nI ka1)] : List Value).toArray s 0 0 (qAr ad s.heap.size)) (F0 m 34 ls []) := by
      intro fu
      induction fu with
      | zero => intro k S34 A34 hk ht hfA hfS h37 hn; exact absurd hn (Nat.not_lt_zero _)
      | succ fu ih34 =>
        intro k S34 A34 hk ht hfA hfS h37 hn H locs ls hM hl
        refine lv_iload hx hb dX10_drift_34 (lv_at hl 0 rfl) ?_
        refine lv_iload_n hx hb dX10_drift_36 rfl (lv_at hl 3 rfl) ?_
        refine lv_icmp_ge (tgt := 84) hx hb dX10_drift_37 (by decide) (fun c_37 => ?_) (fun c_37 => ?_)
        · skip
          have c_37 : ka1 ≤ k := (nI_leI (a := ka1) (b := k) (by omega) (by omega)).mp c_37
          refine lv_aload_n hx hb dX10_drift_84 rfl (lv_at hl 2 rfl) ?_
          refine q_get (o := 0) (ci := 10) (k := 1) (T := TX10) (v := .ref (ad 3)) C hM (qmem_10 E ad S34 A34 b (show qk 0 = 10 from by decide +kernel)) (by decide) rfl hi10 (by decide) hL1 rfl rfl dX10_drift_85 ?_
          refine q_callVI (n := 0) (o := 3) (As := []) (rest := []) C hM hA (c_X9_allSnow E ad l S34 A34 b 3 (show 3 ∈ qwL from by decide +kernel)) (qmem_9 E ad S34 A34 b (show qk 3 = 9 from by decide +kernel)) (by decide) rfl gX10_drift_X9_allSnow rfl rfl rfl (by decide +kernel) ⟨Nat.le_of_ble_eq_true rfl, Nat.le_of_ble_eq_true rfl⟩ rfl hl.1 rfl (Nat.le_of_ble_eq_true rfl) ⟨Nat.zero_le _, Nat.zero_le _⟩ dX10_drift_88 (fun r_13 S_14 A_15 b_16 H locs qr_13 hM => ?_)
          obtain ⟨⟨e1, e2, e3⟩, er_13⟩ := qr_13
          subst e1; subst e2; subst e3
          exact q_iret C hM dX10_drift_91 (by exact ⟨rfl, Or.inr ⟨er_1.symm.trans c_7, ka1, ⟨hloka1, hhika1⟩, rfl, (fun w2 ew2 => by rw [show w2 = w from ew2.trans ew.symm]; exact ⟨⟨⟨fun k hk => by rw [hfA (w + 1) (by omega)]; exact hwc.1 k hk, fun k hk => by rw [hfA (w + 2) (by omega)]; exact hwc.2.1 k hk, fun k hk => by rw [hfA (w + 3) (by omega)]; exact hwc.2.2.1 k hk, fun k hk => by rw [hfA (w + 4) (by omega)]; exact hwc.2.2.2.1 k hk, fun k hk => by rw [hfA (w + 5) (by omega)]; exact hwc.2.2.2.2 k hk⟩, ⟨by rw [hfS w (by omega) (by omega)]; exact hws.1, by rw [hfS w (by omega) (by omega)]; exact hws.2.1, by rw [hfS w (by omega) (by omega)]; exact hws.2.2⟩⟩, ⟨by rw [hfS 15 (by omega) (by omega)]; exact hn2, by rw [hfS 15 (by omega) (by omega)]; exact hn1⟩, fun i h1 h2 h3 => by rw [hfA i (by omega)]; exact hfA_7 i h3, fun i h1 h2 h3 => by rw [hfS i (by omega) (by omega)]; exact hgS_6 i h3 (by omega)⟩), ⟨fun i h1 h2 => by rw [hfA i (by omega)]; exact hfA_7 i (by omega), fun i h1 h2 h4 h3 => by rw [hfS i (by omega) (by omega)]; exact hgS_6 i (by omega) h2⟩, er_13, by rw [ht, show k = ka1 by omega], by rw [hfA 5 (by omega), hfA_7 5 (by omega)], by rw [hfA 6 (by omega), hfA_7 6 (by omega)], by rw [hfA 7 (by omega), hfA_7 7 (by omega)], by rw [hfA 8 (by omega), hfA_7 8 (by omega)], h37⟩⟩)
        · skip
          have c_37 : ¬ (ka1 ≤ k) := fun z => c_37 ((nI_leI (a := ka1) (b := k) (by omega) (by omega)).mpr z)
          refine lv_aload_n hx hb dX10_drift_40 rfl (lv_at hl 2 rfl) ?_
          refine q_get (o := 0) (ci := 10) (k := 4) (T := TX10) (v := .ref (ad 137)) C hM (qmem_10 E ad S34 A34 b (show qk 0 = 10 from by decide +kernel)) (by decide) rfl hi10 (by decide) hL2 rfl rfl dX10_drift_41 ?_
          refine lv_bipush (v := 19) hx hb dX10_drift_44 (by decide) ?_
          refine q_callVI (n := 1) (o := 137) (As := [.int 19]) (rest := []) C hM hA (c_X1_below E ad l S34 A34 b 19 (by decide)) (qmem_1 E ad S34 A34 b (show qk 137 = 1 from by decide +kernel)) (by decide) rfl gX10_drift_X1_below rfl rfl rfl (by decide +kernel) ⟨Nat.le_of_ble_eq_true rfl, Nat.le_of_ble_eq_true rfl⟩ rfl hl.1 rfl (Nat.le_of_ble_eq_true rfl) ⟨Nat.zero_le _, Nat.zero_le _⟩ dX10_drift_46 (fun r_17 S_18 A_19 b_20 H locs qr_17 hM => ?_)
          obtain ⟨⟨eS_18, e2, e3⟩, er_17⟩ := qr_17
          subst e2; subst e3
          refine lv_istore (lv' := [(5, .int r_17), (4, .int (nI k)), (3, .int r_9), (0, .ref (ad 0)), (1, .int (nI ka1))]) hx hb dX10_drift_49 hl (by decide) rfl (fun ls hl => ?_)
          refine lv_aload_n hx hb dX10_drift_51 rfl (lv_at hl 3 rfl) ?_
          refine q_get (o := 0) (ci := 10) (k := 4) (T := TX10) (v := .ref (ad 137)) C hM (qmem_10 E ad S_18 A34 b (show qk 0 = 10 from by decide +kernel)) (by decide) rfl hi10 (by decide) hL2 rfl rfl dX10_drift_52 ?_
          refine lv_bipush (v := 11) hx hb dX10_drift_55 (by decide) ?_
          refine q_callVI (n := 1) (o := 137) (As := [.int 11]) (rest := []) C hM hA (c_X1_below E ad l S_18 A34 b 11 (by decide)) (qmem_1 E ad S_18 A34 b (show qk 137 = 1 from by decide +kernel)) (by decide) rfl gX10_drift_X1_below rfl rfl rfl (by decide +kernel) ⟨Nat.le_of_ble_eq_true rfl, Nat.le_of_ble_eq_true rfl⟩ rfl hl.1 rfl (Nat.le_of_ble_eq_true rfl) ⟨Nat.zero_le _, Nat.zero_le _⟩ dX10_drift_57 (fun r_21 S_22 A_23 b_24 H locs qr_21 hM => ?_)
          obtain ⟨⟨eS_22, e2, e3⟩, er_21⟩ := qr_21
          subst e2; subst e3
          refine lv_istore (lv' := [(6, .int r_21), (5, .int r_17), (4, .int (nI k)), (3, .int r_9), (0, .ref (ad 0)), (1, .int (nI ka1))]) hx hb dX10_drift_60 hl (by decide) rfl (fun ls hl => ?_)
          refine lv_aload_n hx hb dX10_drift_62 rfl (lv_at hl 4 rfl) ?_
          refine q_get (o := 0) (ci := 10) (k := 1) (T := TX10) (v := .ref (ad 3)) C hM (qmem_10 E ad S_22 A34 b (show qk 0 = 10 from by decide +kernel)) (by decide) rfl hi10 (by decide) hL1 rfl rfl dX10_drift_63 ?_
          refine lv_aload_n hx hb dX10_drift_66 rfl (lv_at hl 4 rfl) ?_
          refine q_get (o := 0) (ci := 10) (k := 9) (T := TX10) (v := .ref (ad p)) C hM (qmem_10 E ad S_22 A34 b (show qk 0 = 10 from by decide +kernel)) (by decide) rfl hi10 (by decide) hL3 rfl (by rw [← hbp]; rfl) dX10_drift_67 ?_
          refine lv_iload hx hb dX10_drift_70 (lv_at hl 1 rfl) ?_
          refine lv_iload hx hb dX10_drift_72 (lv_at hl 0 rfl) ?_
          refine lv_iload_n hx hb dX10_drift_74 rfl (lv_at hl 3 rfl) ?_
          refine q_callVV (n := 4) (o := 3) (As := [.ref (ad p), .int r_17, .int r_21, .int r_9]) (rest := []) C hM hA (c_X9_blow E ad l S_22 A34 b 3 (show 3 ∈ qwL from by decide +kernel) p hp r_17 r_21 r_9 nC ((show S_22 p 0 = S p 0 from by rw [eS_22, q2_o _ _ (by omega)]; rw [eS_18, q2_o _ _ (by omega)]; rw [hfS p (by omega) (by omega)]; rw [hgS_6 p (by omega) (by omega)]).trans hC) (by omega) nP ((show S_22 p 4 = S p 4 from by rw [eS_22, q2_o _ _ (by omega)]; rw [eS_18, q2_o _ _ (by omega)]; rw [hfS p (by omega) (by omega)]; rw [hgS_6 p (by omega) (by omega)]).trans hPo) (by omega)) (qmem_9 E ad S_22 A34 b (show qk 3 = 9 from by decide +kernel)) (by decide) rfl gX10_drift_X9_blow rfl rfl rfl (by decide +kernel) ⟨Nat.le_of_ble_eq_true rfl, Nat.le_of_ble_eq_true rfl⟩ rfl hl.1 rfl (Nat.le_of_ble_eq_true rfl) ⟨Nat.zero_le _, Nat.zero_le _⟩ dX10_drift_75 (fun S_26 A_27 b_28 H locs qr_25 hM => ?_)
          obtain ⟨t_29, et_29⟩ : ∃ zz, zz = qhour nC nP (S_22 p 1) (A34 (5)) r_17 r_21 r_9 (A34 (4), S_22 3 5, S_22 3 6) := ⟨_, rfl⟩
          rw [← et_29] at qr_25
          obtain ⟨e3, eS_26, hrA_27, hfA_27⟩ := qr_25
          subst e3
          obtain ⟨S_30, eS_30⟩ : ∃ zz, zz = q2 S_22 3 5 t_29.2.1 := ⟨_, rfl⟩
          rw [← eS_30] at eS_26
          simp only [Nat.reduceAdd] at et_29 hrA_27 hfA_27
          refine lv_iinc (v := nI (k + 1)) (lv' := [(4, .int (nI (k + 1))), (6, .int r_21), (5, .int r_17), (3, .int r_9), (0, .ref (ad 0)), (1, .int (nI ka1))]) hx hb dX10_drift_78 hl (k := 2) rfl (by rw [nI_succ]; rfl) (by decide) rfl (fun ls hl => ?_)
          refine lv_goto (tgt := 34) hx hb dX10_drift_81 (by decide) ?_
          exact ih34 (k + 1) S_26 A_27 (by omega) (by rw [show S_26 3 5 = t_29.2.1 from by rw [eS_26, q2_k _ _ (by omega), eS_30, q2_s], show S_26 3 6 = t_29.2.2 from by rw [eS_26, q2_s], hrA_27, show S_26 137 0 = qdraw (qdraw (S34 137 0)) from by rw [eS_26, q2_o _ _ (by omega), eS_30, q2_o _ _ (by omega), eS_22, q2_s, eS_18, q2_s]]; show (t_29, _) = _; rw [et_29, er_17, er_21, show S_22 p 1 = S p 1 from by rw [eS_22, q2_o _ _ (by omega), eS_18, q2_o _ _ (by omega), hfS p (by omega) (by omega), hgS_6 p (by omega) (by omega)], show S_22 3 5 = S34 3 5 from by rw [eS_22, q2_o _ _ (by omega), eS_18, q2_o _ _ (by omega)], show S_22 3 6 = S34 3 6 from by rw [eS_22, q2_o _ _ (by omega), eS_18, q2_o _ _ (by omega)], show S_18 137 0 = qdraw (S34 137 0) from by rw [eS_18, q2_s], hfA 5 (by omega), hfA_7 5 (by omega), er_9]; simp only [qdrift, ← ht]) (fun i hi => (hfA_27 i hi).trans (hfA i hi)) (fun i h1 h2 => by rw [eS_26, q2_or _ _ h1, eS_30, q2_or _ _ h1, eS_22, q2_or _ _ h2, eS_18, q2_or _ _ h2]; exact hfS i h1 h2) (by rw [eS_26, q2_k _ _ (by omega), eS_30, q2_k _ _ (by omega), eS_22, q2_o _ _ (by omega), eS_18, q2_o _ _ (by omega)]; exact h37) (by omega) _ _ _ hM (lv_sub hl [0, 3, 4, 5] rfl)
    exact loop34 (ka1 - 0 + 1) 0 S_6 A_7 (by omega) (by rw [hfA_7 4 (by omega), hgS_6 3 (by omega) (by omega), hgS_6 137 (by omega) (by omega)]; rfl) (fun _ _ => rfl) (fun _ _ _ => rfl) (by rw [hgS_6 3 (by omega) (by omega)]) (Nat.lt_succ_self _) _ _ _ hM (lv_sub hl [0, 1, 3, 4] rfl)
  · skip
    refine lv_iload_n hx hb dX10_drift_10 rfl (lv_at hl 0 rfl) ?_
    exact q_iret C hM dX10_drift_11 (by exact ⟨rfl, Or.inl ⟨fun z => c_7 (er_1.trans z), er_1, rfl, rfl⟩⟩)

set_option maxHeartbeats 4000000 in
set_option maxRecDepth 100000 in
theorem c_X10_undo (E : qE) (ad : Nat → Nat) (l : Launch) (S A : qA2) (b : qB) (nw nc : Nat) (hnw : S 15 2 = nI nw) (hnwb : nw < 20) (hnc : S 15 1 = nI nc) (hncb : nc ≤ 20) : MI E ad l yX10_undo wsX10_undo { frames := 3, cells := 0, slots := 0, locals := 60 } [.ref (ad 0)] S A b (fun r S' A' b' => b = b' ∧ ((nc = 0 ∧ r = (-1000000003) ∧ S = S' ∧ A = A') ∨ (¬ nc = 0 ∧ r = nI (nc - 1) ∧ (∀ w, w = 17 + 6 * nw → ((∀ k, k < 12 → A' 4 k = A (w + 1) k) ∧ (∀ k, k < 6 → A' 5 k = A (w + 2) k) ∧ (∀ k, k < 6 → A' 6 k = A (w + 3) k) ∧ (∀ k, k < 5 → A' 7 k = A (w + 4) k) ∧ (∀ k, k < 5 → A' 8 k = A (w + 5) k)) ∧ (S' 3 5 = S w 5 ∧ S' 3 6 = S w 6 ∧ S' 3 7 = S w 7)) ∧ (∀ i, (i ≤ 3 ∨ 8 < i) → A' i = A i) ∧ (∀ i, i ≠ 3 → i ≠ 15 → S' i = S i) ∧ S' 15 2 = nI ((nw + 19) % 20) ∧ S' 15 1 = nI (nc - 1)))) := by
  refine MI.of (cc := cX10_undo) (maxL := 1) (ret := some .int) RX10 rfl (by decide) rfl ?_
  intro pg e s m below meth cd C hM
  have hx := C.1
  have hb := C.2.1
  have hts := C.2.2.2.2.1
  have hA : ∀ q, s.heap.size ≤ q → qAr ad s.heap.size q := fun _ h => Or.inr h
  have hi4 : ∀ w ∈ u_ws RX4 TX4 3, w ∈ wsX10_undo := by decide +kernel
  have hi10 : ∀ w ∈ u_ws RX10 TX10 11, w ∈ wsX10_undo := by decide +kernel
  have hL0 := hts (.fieldLink RX10 29 "CrowFences" "past" "LCrowFences$Past;") (by decide +kernel)
  have hL1 := hts (.fieldLink RX10 151 "CrowFences$Past" "count" "I") (by decide +kernel)
  have hL2 := hts (.fieldLink RX10 19 "CrowFences" "now" "LCrowFences$Winter;") (by decide +kernel)
  have hL3 := hts (.constant RX10 200 (-1000000003)) (by decide +kernel)
  have hl := lv_entry ([.ref (ad 0)]) (n := 1) (Nat.le_of_ble_eq_true rfl)
  rw [lg_entry_eq]
  generalize (lg_sl ([.ref (ad 0)]) ++ List.replicate (1 - (lg_sl ([.ref (ad 0)])).length) Slot.unset).toArray = ls at hl ⊢
  have hl : lv_has ls 1 [(0, .ref (ad 0))] := hl
  refine lv_aload_n hx hb dX10_undo_0 rfl (lv_at hl 0 rfl) ?_
  refine q_get (o := 0) (ci := 10) (k := 3) (T := TX10) (v := .ref (ad 15)) C hM (qmem_10 E ad S A b (show qk 0 = 10 from by decide +kernel)) (by decide) rfl hi10 (by decide) hL0 rfl rfl dX10_undo_1 ?_
  refine q_get (o := 15) (ci := 4) (k := 1) (T := TX4) (v := .int (S 15 1)) C hM (qmem_4 E ad S A b (show qk 15 = 4 from by decide +kernel)) (by decide) rfl hi4 (by decide) hL1 rfl rfl dX10_undo_4 ?_
  refine lv_as (y := nI nc) hnc ?_
  refine lv_if_ne (tgt := 13) hx hb dX10_undo_7 (by decide) (fun c_7 => ?_) (fun c_7 => ?_)
  · skip
    have c_7 : ¬ (nc = 0) := fun z => c_7 ((nI_eq (a := nc) (b := 0) (by omega) (by omega)).mpr z)
    refine lv_aload_n hx hb dX10_undo_13 rfl (lv_at hl 0 rfl) ?_
    refine q_get (o := 0) (ci := 10) (k := 3) (T := TX10) (v := .ref (ad 15)) C hM (qmem_10 E ad S A b (show qk 0 = 10 from by decide +kernel)) (by decide) rfl hi10 (by decide) hL0 rfl rfl dX10_undo_14 ?_
    refine lv_aload_n hx hb dX10_undo_17 rfl (lv_at hl 0 rfl) ?_
    refine q_get (o := 0) (ci := 10) (k := 1) (T := TX10) (v := .ref (ad 3)) C hM (qmem_10 E ad S A b (show qk 0 = 10 from by decide +kernel)) (by decide) rfl hi10 (by decide) hL2 rfl rfl dX10_undo_18 ?_
    refine q_callVV (n := 1) (o := 15) (As := [.ref (ad 3)]) (rest := []) C hM hA (c_X4_bringBack E ad l S A b nw nc hnw (by omega) hnc (by omega) (by omega)) (qmem_4 E ad S A b (show qk 15 = 4 from by decide +kernel)) (by decide) rfl gX10_undo_X4_bringBack rfl rfl rfl (by decide +kernel) ⟨Nat.le_of_ble_eq_true rfl, Nat.le_of_ble_eq_true rfl⟩ rfl hl.1 rfl (Nat.le_of_ble_eq_true rfl) ⟨Nat.zero_le _, Nat.zero_le _⟩ dX10_undo_21 (fun S_2 A_3 b_4 H locs qr_1 hM => ?_)
    obtain ⟨e3, hN, hfA_3, hgS_2, hn2, hn1, hn0⟩ := qr_1
    subst e3
    refine lv_aload_n hx hb dX10_undo_24 rfl (lv_at hl 0 rfl) ?_
    refine q_get (o := 0) (ci := 10) (k := 3) (T := TX10) (v := .ref (ad 15)) C hM (qmem_10 E ad S_2 A_3 b (show qk 0 = 10 from by decide +kernel)) (by decide) rfl hi10 (by decide) hL0 rfl rfl dX10_undo_25 ?_
    refine q_get (o := 15) (ci := 4) (k := 1) (T := TX4) (v := .int (nI (nc - 1))) C hM (qmem_4 E ad S_2 A_3 b (show qk 15 = 4 from by decide +kernel)) (by decide) rfl hi4 (by decide) hL1 rfl (congrArg (fun z => some (Value.int z)) (show S_2 15 1 = nI (nc - 1) from by exact hn1)) dX10_undo_28 ?_
    exact q_iret C hM dX10_undo_31 (by exact ⟨rfl, Or.inr ⟨c_7, rfl, hN, hfA_3, hgS_2, hn2, hn1⟩⟩)
  · skip
    have c_7 : nc = 0 := (nI_eq (a := nc) (b := 0) (by omega) (by omega)).mp c_7
    refine lv_ldc (v := (-1000000003)) hx hb C.2.2.2.1 hL3 dX10_undo_10 ?_
    exact q_iret C hM dX10_undo_12 (by exact ⟨rfl, Or.inl ⟨c_7, rfl, rfl, rfl⟩⟩)

set_option maxHeartbeats 4000000 in
set_option maxRecDepth 100000 in
theorem c_X10_keep (E : qE) (ad : Nat → Nat) (l : Launch) (S A : qA2) (b : qB) (a1 : Int32) : MI E ad l yX10_keep wsX10_keep { frames := 3, cells := 0, slots := 0, locals := 61 } [.ref (ad 0), .int a1] S A b (fun r S' A' b' => b = b' ∧ ((qir a1 0 1 = none ∧ r = (-1000000001) ∧ S = S' ∧ A = A') ∨ (∃ k g, k < 2 ∧ a1 = nI k ∧ g = 139 + 7 * k ∧ r = 1 ∧ (((∀ k, k < 12 → A' (g + 2) k = A 4 k) ∧ (∀ k, k < 6 → A' (g + 3) k = A 5 k) ∧ (∀ k, k < 6 → A' (g + 4) k = A 6 k) ∧ (∀ k, k < 5 → A' (g + 5) k = A 7 k) ∧ (∀ k, k < 5 → A' (g + 6) k = A 8 k)) ∧ (S' (g + 1) 5 = S 3 5 ∧ S' (g + 1) 6 = S 3 6 ∧ S' (g + 1) 7 = S 3 7)) ∧ (∀ i, (i ≤ g + 1 ∨ g + 6 < i) → A' i = A i) ∧ (∀ i, i ≠ g → i ≠ g + 1 → i ≠ 15 → S' i = S i) ∧ S' g 1 = S 137 0 ∧ S' g 2 = 1 ∧ S' 15 1 = 0 ∧ S' 15 2 = S 15 2))) := by
  refine MI.of (cc := cX10_keep) (maxL := 2) (ret := some .int) RX10 rfl (by decide) rfl ?_
  intro pg e s m below meth cd C hM
  have hx := C.1
  have hb := C.2.1
  have hts := C.2.2.2.2.1
  have hA : ∀ q, s.heap.size ≤ q → qAr ad s.heap.size q := fun _ h => Or.inr h
  have hi10 : ∀ w ∈ u_ws RX10 TX10 11, w ∈ wsX10_keep := by decide +kernel
  have hL0 := hts (.fieldLink RX10 42 "CrowFences" "images" "[LCrowFences$Image;") (by decide +kernel)
  have hL1 := hts (.fieldLink RX10 19 "CrowFences" "now" "LCrowFences$Winter;") (by decide +kernel)
  have hL2 := hts (.fieldLink RX10 36 "CrowFences" "draws" "LCrowFences$Draws;") (by decide +kernel)
  have hL3 := hts (.fieldLink RX10 29 "CrowFences" "past" "LCrowFences$Past;") (by decide +kernel)
  have hL4 := hts (.constant RX10 160 (-1000000001)) (by decide +kernel)
  have hl := lv_entry ([.ref (ad 0), .int a1]) (n := 2) (Nat.le_of_ble_eq_true rfl)
  rw [lg_entry_eq]
  generalize (lg_sl ([.ref (ad 0), .int a1]) ++ List.replicate (2 - (lg_sl ([.ref (ad 0), .int a1])).length) Slot.unset).toArray = ls at hl ⊢
  have hl : lv_has ls 2 [(0, .ref (ad 0)), (1, .int a1)] := hl
  refine lv_iload_n hx hb dX10_keep_0 rfl (lv_at hl 1 rfl) ?_
  refine lv_iconst (v := 0) hx hb dX10_keep_1 (by decide) ?_
  refine lv_iconst (v := 1) hx hb dX10_keep_2 (by decide) ?_
  refine q_callSI (n := 3) (As := [.int a1, .int 0, .int 1]) (rest := []) C hM hA (c_X10_within E ad l S A b a1 0 1) gX10_keep_X10_within rfl rfl rfl (by decide +kernel) ⟨Nat.le_of_ble_eq_true rfl, Nat.le_of_ble_eq_true rfl⟩ rfl hl.1 rfl (Nat.le_of_ble_eq_true rfl) ⟨Nat.zero_le _, Nat.zero_le _⟩ dX10_keep_3 (fun r_1 S_2 A_3 b_4 H locs qr_1 hM => ?_)
  obtain ⟨⟨e1, e2, e3⟩, er_1⟩ := qr_1
  subst e1; subst e2; subst e3
  rcases q01_cases (0 ≤ a1 ∧ a1 ≤ 1) with ⟨hzr_1, hir_1⟩ | ⟨hzr_1, hir_1⟩
  · skip
    rw [hzr_1] at er_1
    subst er_1
    obtain ⟨ka1, hloka1, hhika1, eka1⟩ := qin_of (l := 0) (h := 1) rfl rfl (by omega) (by omega) hir_1
    subst eka1
    refine lv_if_ne (tgt := 12) hx hb dX10_keep_6 (by decide) (fun c_6 => ?_) (fun c_6 => ?_)
    · skip
      have c_6 : ¬ (1 = 0) := fun z => c_6 ((nI_eq (a := 1) (b := 0) (by omega) (by omega)).mpr z)
      refine lv_aload_n hx hb dX10_keep_12 rfl (lv_at hl 0 rfl) ?_
      refine q_get (o := 0) (ci := 10) (k := 5) (T := TX10) (v := .ref (ad 138)) C hM (qmem_10 E ad S A b (show qk 0 = 10 from by decide +kernel)) (by decide) rfl hi10 (by decide) hL0 rfl rfl dX10_keep_13 ?_
      refine lv_iload_n hx hb dX10_keep_16 rfl (lv_at hl 1 rfl) ?_
      refine q_aald14 (k := ka1) C hM (show qk 138 = 14 from by decide +kernel) (by rw [show ql 138 = 2 from by decide +kernel]; exact vp_nI (by omega) (by omega)) (nIc (by omega)) dX10_keep_17 ?_
      obtain ⟨g, eg⟩ : ∃ zz, zz = 139 + 7 * ka1 := ⟨_, rfl⟩
      rw [← eg]
      have hg : qg g := by rw [eg]; exact qimg_g (by omega)
      obtain ⟨kg, hg1, hg01⟩ := qg_all hg
      refine lv_aload_n hx hb dX10_keep_18 rfl (lv_at hl 0 rfl) ?_
      refine q_get (o := 0) (ci := 10) (k := 1) (T := TX10) (v := .ref (ad 3)) C hM (qmem_10 E ad S A b (show qk 0 = 10 from by decide +kernel)) (by decide) rfl hi10 (by decide) hL1 rfl rfl dX10_keep_19 ?_
      refine lv_aload_n hx hb dX10_keep_22 rfl (lv_at hl 0 rfl) ?_
      refine q_get (o := 0) (ci := 10) (k := 4) (T := TX10) (v := .ref (ad 137)) C hM (qmem_10 E ad S A b (show qk 0 = 10 from by decide +kernel)) (by decide) rfl hi10 (by decide) hL2 rfl rfl dX10_keep_23 ?_
      refine q_callVV (n := 2) (o := g) (As := [.ref (ad 3), .ref (ad 137)]) (rest := []) C hM hA (c_X2_take E ad l S A b g hg) (qmem_2 E ad S A b kg) (by omega) rfl gX10_keep_X2_take rfl rfl rfl (by decide +kernel) ⟨Nat.le_of_ble_eq_true rfl, Nat.le_of_ble_eq_true rfl⟩ rfl hl.1 rfl (Nat.le_of_ble_eq_true rfl) ⟨Nat.zero_le _, Nat.zero_le _⟩ dX10_keep_26 (fun S_6 A_7 b_8 H locs qr_5 hM => ?_)
      obtain ⟨e3, hwA_7, hfA_7, hgS_6, h1S_6, h2S_6, h0S_6⟩ := qr_5
      subst e3
      refine lv_aload_n hx hb dX10_keep_29 rfl (lv_at hl 0 rfl) ?_
      refine q_get (o := 0) (ci := 10) (k := 3) (T := TX10) (v := .ref (ad 15)) C hM (qmem_10 E ad S_6 A_7 b (show qk 0 = 10 from by decide +kernel)) (by decide) rfl hi10 (by decide) hL3 rfl rfl dX10_keep_30 ?_
      refine q_callVV (n := 0) (o := 15) (As := []) (rest := []) C hM hA (c_X4_forget E ad l S_6 A_7 b) (qmem_4 E ad S_6 A_7 b (show qk 15 = 4 from by decide +kernel)) (by decide) rfl gX10_keep_X4_forget rfl rfl rfl (by decide +kernel) ⟨Nat.le_of_ble_eq_true rfl, Nat.le_of_ble_eq_true rfl⟩ rfl hl.1 rfl (Nat.le_of_ble_eq_true rfl) ⟨Nat.zero_le _, Nat.zero_le _⟩ dX10_keep_33 (fun S_10 A_11 b_12 H locs qr_9 hM => ?_)
      obtain ⟨eS_10, e2, e3⟩ := qr_9
      subst e3; rw [e2] at hM
      refine lv_iconst (v := 1) hx hb dX10_keep_36 (by decide) ?_
      exact q_iret C hM dX10_keep_37 (by exact ⟨rfl, Or.inr ⟨ka1, g, by omega, rfl, eg, rfl, ⟨hwA_7.1, by rw [eS_10, q2_o _ _ (by omega)]; exact hwA_7.2.1, by rw [eS_10, q2_o _ _ (by omega)]; exact hwA_7.2.2.1, by rw [eS_10, q2_o _ _ (by omega)]; exact hwA_7.2.2.2⟩, hfA_7, fun i h1 h2 h3 => by rw [eS_10, q2_or _ _ h3]; exact hgS_6 i h1 h2, by rw [eS_10, q2_o _ _ (by omega)]; exact h1S_6, by rw [eS_10, q2_o _ _ (by omega)]; exact h2S_6, by rw [eS_10, q2_s], by rw [eS_10, q2_k _ _ (by omega), hgS_6 15 (by omega) (by omega)]⟩⟩)
    · skip
      have c_6 : 1 = 0 := (nI_eq (a := 1) (b := 0) (by omega) (by omega)).mp c_6
      exact absurd c_6 (by decide)
  · skip
    rw [hzr_1] at er_1
    subst er_1
    refine lv_if_ne (tgt := 12) hx hb dX10_keep_6 (by decide) (fun c_6 => ?_) (fun c_6 => ?_)
    · skip
      have c_6 : ¬ (0 = 0) := fun z => c_6 ((nI_eq (a := 0) (b := 0) (by omega) (by omega)).mpr z)
      exact absurd rfl c_6
    · skip
      have c_6 : 0 = 0 := (nI_eq (a := 0) (b := 0) (by omega) (by omega)).mp c_6
      refine lv_ldc (v := (-1000000001)) hx hb C.2.2.2.1 hL4 dX10_keep_9 ?_
      exact q_iret C hM dX10_keep_11 (by exact ⟨rfl, Or.inl ⟨qir_out hir_1, rfl, rfl, rfl⟩⟩)

set_option maxHeartbeats 4000000 in
set_option maxRecDepth 100000 in
theorem c_X10_goBack (E : qE) (ad : Nat → Nat) (l : Launch) (S A : qA2) (b : qB) (a1 : Int32) : MI E ad l yX10_goBack wsX10_goBack { frames := 3, cells := 0, slots := 0, locals := 61 } [.ref (ad 0), .int a1] S A b (fun r S' A' b' => b = b' ∧ ((qir a1 0 1 = none ∧ r = (-1000000001) ∧ S = S' ∧ A = A') ∨ (∃ k g, k < 2 ∧ a1 = nI k ∧ g = 139 + 7 * k ∧ ((S g 2 = 0 ∧ r = (-1000000003) ∧ S = S' ∧ A = A') ∨ (¬ S g 2 = 0 ∧ r = 1 ∧ (((∀ k, k < 12 → A' 4 k = A (g + 2) k) ∧ (∀ k, k < 6 → A' 5 k = A (g + 3) k) ∧ (∀ k, k < 6 → A' 6 k = A (g + 4) k) ∧ (∀ k, k < 5 → A' 7 k = A (g + 5) k) ∧ (∀ k, k < 5 → A' 8 k = A (g + 6) k)) ∧ (S' 3 5 = S (g + 1) 5 ∧ S' 3 6 = S (g + 1) 6 ∧ S' 3 7 = S (g + 1) 7)) ∧ (∀ i, (i ≤ 3 ∨ 8 < i) → A' i = A i) ∧ (∀ i, i ≠ 3 → i ≠ 137 → i ≠ 15 → S' i = S i) ∧ S' 137 0 = S g 1 ∧ S' 15 1 = 0 ∧ S' 15 2 = S 15 2))))) := by
  refine MI.of (cc := cX10_goBack) (maxL := 2) (ret := some .int) RX10 rfl (by decide) rfl ?_
  intro pg e s m below meth cd C hM
  have hx := C.1
  have hb := C.2.1
  have hts := C.2.2.2.2.1
  have hA : ∀ q, s.heap.size ≤ q → qAr ad s.heap.size q := fun _ h => Or.inr h
  have hi2 : ∀ w ∈ u_ws RX2 TX2 3, w ∈ wsX10_goBack := by decide +kernel
  have hi10 : ∀ w ∈ u_ws RX10 TX10 11, w ∈ wsX10_goBack := by decide +kernel
  have hL0 := hts (.fieldLink RX10 42 "CrowFences" "images" "[LCrowFences$Image;") (by decide +kernel)
  have hL1 := hts (.fieldLink RX10 105 "CrowFences$Image" "kept" "Z") (by decide +kernel)
  have hL2 := hts (.fieldLink RX10 19 "CrowFences" "now" "LCrowFences$Winter;") (by decide +kernel)
  have hL3 := hts (.fieldLink RX10 36 "CrowFences" "draws" "LCrowFences$Draws;") (by decide +kernel)
  have hL4 := hts (.fieldLink RX10 29 "CrowFences" "past" "LCrowFences$Past;") (by decide +kernel)
  have hL5 := hts (.constant RX10 200 (-1000000003)) (by decide +kernel)
  have hL6 := hts (.constant RX10 160 (-1000000001)) (by decide +kernel)
  have hl := lv_entry ([.ref (ad 0), .int a1]) (n := 2) (Nat.le_of_ble_eq_true rfl)
  rw [lg_entry_eq]
  generalize (lg_sl ([.ref (ad 0), .int a1]) ++ List.replicate (2 - (lg_sl ([.ref (ad 0), .int a1])).length) Slot.unset).toArray = ls at hl ⊢
  have hl : lv_has ls 2 [(0, .ref (ad 0)), (1, .int a1)] := hl
  refine lv_iload_n hx hb dX10_goBack_0 rfl (lv_at hl 1 rfl) ?_
  refine lv_iconst (v := 0) hx hb dX10_goBack_1 (by decide) ?_
  refine lv_iconst (v := 1) hx hb dX10_goBack_2 (by decide) ?_
  refine q_callSI (n := 3) (As := [.int a1, .int 0, .int 1]) (rest := []) C hM hA (c_X10_within E ad l S A b a1 0 1) gX10_goBack_X10_within rfl rfl rfl (by decide +kernel) ⟨Nat.le_of_ble_eq_true rfl, Nat.le_of_ble_eq_true rfl⟩ rfl hl.1 rfl (Nat.le_of_ble_eq_true rfl) ⟨Nat.zero_le _, Nat.zero_le _⟩ dX10_goBack_3 (fun r_1 S_2 A_3 b_4 H locs qr_1 hM => ?_)
  obtain ⟨⟨e1, e2, e3⟩, er_1⟩ := qr_1
  subst e1; subst e2; subst e3
  rcases q01_cases (0 ≤ a1 ∧ a1 ≤ 1) with ⟨hzr_1, hir_1⟩ | ⟨hzr_1, hir_1⟩
  · skip
    rw [hzr_1] at er_1
    subst er_1
    obtain ⟨ka1, hloka1, hhika1, eka1⟩ := qin_of (l := 0) (h := 1) rfl rfl (by omega) (by omega) hir_1
    subst eka1
    refine lv_if_ne (tgt := 12) hx hb dX10_goBack_6 (by decide) (fun c_6 => ?_) (fun c_6 => ?_)
    · skip
      have c_6 : ¬ (1 = 0) := fun z => c_6 ((nI_eq (a := 1) (b := 0) (by omega) (by omega)).mpr z)
      refine lv_aload_n hx hb dX10_goBack_12 rfl (lv_at hl 0 rfl) ?_
      refine q_get (o := 0) (ci := 10) (k := 5) (T := TX10) (v := .ref (ad 138)) C hM (qmem_10 E ad S A b (show qk 0 = 10 from by decide +kernel)) (by decide) rfl hi10 (by decide) hL0 rfl rfl dX10_goBack_13 ?_
      refine lv_iload_n hx hb dX10_goBack_16 rfl (lv_at hl 1 rfl) ?_
      refine q_aald14 (k := ka1) C hM (show qk 138 = 14 from by decide +kernel) (by rw [show ql 138 = 2 from by decide +kernel]; exact vp_nI (by omega) (by omega)) (nIc (by omega)) dX10_goBack_17 ?_
      obtain ⟨g, eg⟩ : ∃ zz, zz = 139 + 7 * ka1 := ⟨_, rfl⟩
      rw [← eg]
      have hg : qg g := by rw [eg]; exact qimg_g (by omega)
      obtain ⟨kg, hg1, hg01⟩ := qg_all hg
      refine q_get (o := g) (ci := 2) (k := 2) (T := TX2) (v := .int (S g 2)) C hM (qmem_2 E ad S A b kg) (by omega) rfl hi2 (by decide) hL1 rfl rfl dX10_goBack_18 ?_
      refine lv_if_ne (tgt := 27) hx hb dX10_goBack_21 (by decide) (fun c_21 => ?_) (fun c_21 => ?_)
      · skip
        refine lv_aload_n hx hb dX10_goBack_27 rfl (lv_at hl 0 rfl) ?_
        refine q_get (o := 0) (ci := 10) (k := 5) (T := TX10) (v := .ref (ad 138)) C hM (qmem_10 E ad S A b (show qk 0 = 10 from by decide +kernel)) (by decide) rfl hi10 (by decide) hL0 rfl rfl dX10_goBack_28 ?_
        refine lv_iload_n hx hb dX10_goBack_31 rfl (lv_at hl 1 rfl) ?_
        refine q_aald14 (k := ka1) C hM (show qk 138 = 14 from by decide +kernel) (by rw [show ql 138 = 2 from by decide +kernel]; exact vp_nI (by omega) (by omega)) (nIc (by omega)) dX10_goBack_32 ?_
        rw [← eg]
        refine lv_aload_n hx hb dX10_goBack_33 rfl (lv_at hl 0 rfl) ?_
        refine q_get (o := 0) (ci := 10) (k := 1) (T := TX10) (v := .ref (ad 3)) C hM (qmem_10 E ad S A b (show qk 0 = 10 from by decide +kernel)) (by decide) rfl hi10 (by decide) hL2 rfl rfl dX10_goBack_34 ?_
        refine lv_aload_n hx hb dX10_goBack_37 rfl (lv_at hl 0 rfl) ?_
        refine q_get (o := 0) (ci := 10) (k := 4) (T := TX10) (v := .ref (ad 137)) C hM (qmem_10 E ad S A b (show qk 0 = 10 from by decide +kernel)) (by decide) rfl hi10 (by decide) hL3 rfl rfl dX10_goBack_38 ?_
        refine q_callVV (n := 2) (o := g) (As := [.ref (ad 3), .ref (ad 137)]) (rest := []) C hM hA (c_X2_give E ad l S A b g hg) (qmem_2 E ad S A b kg) (by omega) rfl gX10_goBack_X2_give rfl rfl rfl (by decide +kernel) ⟨Nat.le_of_ble_eq_true rfl, Nat.le_of_ble_eq_true rfl⟩ rfl hl.1 rfl (Nat.le_of_ble_eq_true rfl) ⟨Nat.zero_le _, Nat.zero_le _⟩ dX10_goBack_41 (fun S_6 A_7 b_8 H locs qr_5 hM => ?_)
        obtain ⟨e3, hwA_7, hfA_7, hgS_6, h1S_6⟩ := qr_5
        subst e3
        refine lv_aload_n hx hb dX10_goBack_44 rfl (lv_at hl 0 rfl) ?_
        refine q_get (o := 0) (ci := 10) (k := 3) (T := TX10) (v := .ref (ad 15)) C hM (qmem_10 E ad S_6 A_7 b (show qk 0 = 10 from by decide +kernel)) (by decide) rfl hi10 (by decide) hL4 rfl rfl dX10_goBack_45 ?_
        refine q_callVV (n := 0) (o := 15) (As := []) (rest := []) C hM hA (c_X4_forget E ad l S_6 A_7 b) (qmem_4 E ad S_6 A_7 b (show qk 15 = 4 from by decide +kernel)) (by decide) rfl gX10_goBack_X4_forget rfl rfl rfl (by decide +kernel) ⟨Nat.le_of_ble_eq_true rfl, Nat.le_of_ble_eq_true rfl⟩ rfl hl.1 rfl (Nat.le_of_ble_eq_true rfl) ⟨Nat.zero_le _, Nat.zero_le _⟩ dX10_goBack_48 (fun S_10 A_11 b_12 H locs qr_9 hM => ?_)
        obtain ⟨eS_10, e2, e3⟩ := qr_9
        subst e3; rw [e2] at hM
        refine lv_iconst (v := 1) hx hb dX10_goBack_51 (by decide) ?_
        exact q_iret C hM dX10_goBack_52 (by exact ⟨rfl, Or.inr ⟨ka1, g, by omega, rfl, eg, Or.inr ⟨c_21, rfl, ⟨hwA_7.1, by rw [eS_10, q2_o _ _ (by omega)]; exact hwA_7.2.1, by rw [eS_10, q2_o _ _ (by omega)]; exact hwA_7.2.2.1, by rw [eS_10, q2_o _ _ (by omega)]; exact hwA_7.2.2.2⟩, hfA_7, fun i h1 h2 h3 => by rw [eS_10, q2_or _ _ h3]; exact hgS_6 i h1 h2, by rw [eS_10, q2_o _ _ (by omega)]; exact h1S_6, by rw [eS_10, q2_s], by rw [eS_10, q2_k _ _ (by omega), hgS_6 15 (by omega) (by omega)]⟩⟩⟩)
      · skip
        refine lv_ldc (v := (-1000000003)) hx hb C.2.2.2.1 hL5 dX10_goBack_24 ?_
        exact q_iret C hM dX10_goBack_26 (by exact ⟨rfl, Or.inr ⟨ka1, g, by omega, rfl, eg, Or.inl ⟨c_21, rfl, rfl, rfl⟩⟩⟩)
    · skip
      have c_6 : 1 = 0 := (nI_eq (a := 1) (b := 0) (by omega) (by omega)).mp c_6
      exact absurd c_6 (by decide)
  · skip
    rw [hzr_1] at er_1
    subst er_1
    refine lv_if_ne (tgt := 12) hx hb dX10_goBack_6 (by decide) (fun c_6 => ?_) (fun c_6 => ?_)
    · skip
      have c_6 : ¬ (0 = 0) := fun z => c_6 ((nI_eq (a := 0) (b := 0) (by omega) (by omega)).mpr z)
      exact absurd rfl c_6
    · skip
      have c_6 : 0 = 0 := (nI_eq (a := 0) (b := 0) (by omega) (by omega)).mp c_6
      refine lv_ldc (v := (-1000000001)) hx hb C.2.2.2.1 hL6 dX10_goBack_9 ?_
      exact q_iret C hM dX10_goBack_11 (by exact ⟨rfl, Or.inl ⟨qir_out hir_1, rfl, rfl, rfl⟩⟩)
