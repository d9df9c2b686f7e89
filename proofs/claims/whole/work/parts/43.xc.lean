set_option maxHeartbeats 4000000 in
set_option maxRecDepth 100000 in
theorem c_X10_lies (E : qE) (ad : Nat → Nat) (l : Launch) (S A : qA2) (b : qB) (p : Nat) (hp : qpl p) (hbp : b.1 = p) (a1 a2 : Int32) (nC : Nat) (hC : S p 0 = nI nC) (hCb : nC ≤ 12) (nP : Nat) (hPo : S p 4 = nI nP) (hPb : nP ≤ 6) (nW : Nat) (hWi : S p 6 = nI nW) (hWb : nW ≤ 10) (nH : Nat) (hH : S 3 6 = nI nH) (hHb : nH ≤ 90000) : MI E ad l yX10_lies wsX10_lies { frames := 4, cells := 0, slots := 0, locals := 100 } [.ref (ad 0), .int a1, .int a2] S A b (fun r S' A' b' => b = b' ∧ r = (qix a1 nC).elim (-1000000001) (fun k => (qir a2 0 40).elim (-1000000002) (fun n => (qpass nC nP nW (S p 1) (A 5) (A (p + 5)) (A (p + 6)) (qlets (A 6) 6) (A 4, S 3 5, S 3 6) n).1 k)) ∧ (∀ i, (i ≤ 9 ∨ 14 < i) → A' i = A i) ∧ (∀ i, i ≠ 9 → S' i = S i)) := by
  obtain ⟨⟨kp, kp1, kp2, kp3, kp4, kp5, kp6⟩, ⟨lp1, lp2, lp3, lp4, lp5, lp6⟩, bp, bp7⟩ := qpl_all hp
  refine MI.of (cc := cX10_lies) (maxL := 3) (ret := some .int) RX10 rfl (by decide) rfl ?_
  intro pg e s m below meth cd C hM
  have hx := C.1
  have hb := C.2.1
  have hts := C.2.2.2.2.1
  have hA : ∀ q, s.heap.size ≤ q → qAr ad s.heap.size q := fun _ h => Or.inr h
  have hi9 : ∀ w ∈ u_ws RX9 TX9 8, w ∈ wsX10_lies := by decide +kernel
  have hi10 : ∀ w ∈ u_ws RX10 TX10 11, w ∈ wsX10_lies := by decide +kernel
  have hL0 := hts (.fieldLink RX10 23 "CrowFences" "trial" "LCrowFences$Winter;") (by decide +kernel)
  have hL1 := hts (.fieldLink RX10 156 "CrowFences$Winter" "snow" "[I") (by decide +kernel)
  have hL2 := hts (.constant RX10 86 (-1000000002)) (by decide +kernel)
  have hL3 := hts (.constant RX10 160 (-1000000001)) (by decide +kernel)
  have hl := lv_entry ([.ref (ad 0), .int a1, .int a2]) (n := 3) (Nat.le_of_ble_eq_true rfl)
  rw [lg_entry_eq]
  generalize (lg_sl ([.ref (ad 0), .int a1, .int a2]) ++ List.replicate (3 - (lg_sl ([.ref (ad 0), .int a1, .int a2])).length) Slot.unset).toArray = ls at hl ⊢
  have hl : lv_has ls 3 [(0, .ref (ad 0)), (1, .int a1), (2, .int a2)] := hl
  refine lv_aload_n hx hb dX10_lies_0 rfl (lv_at hl 0 rfl) ?_
  refine lv_iload_n hx hb dX10_lies_1 rfl (lv_at hl 1 rfl) ?_
  refine q_callVI (n := 1) (o := 0) (As := [.int a1]) (rest := []) C hM hA (c_X10_isCell E ad l S A b p hp hbp a1 nC hC (by omega)) (qmem_10 E ad S A b (show qk 0 = 10 from by decide +kernel)) (by decide) rfl gX10_lies_X10_isCell rfl rfl rfl (by decide +kernel) ⟨Nat.le_of_ble_eq_true rfl, Nat.le_of_ble_eq_true rfl⟩ rfl hl.1 rfl (Nat.le_of_ble_eq_true rfl) ⟨Nat.zero_le _, Nat.zero_le _⟩ dX10_lies_2 (fun r_1 S_2 A_3 b_4 H locs qr_1 hM => ?_)
  obtain ⟨⟨e1, e2, e3⟩, hDr_1⟩ := qr_1
  subst e1; subst e2; subst e3
  rcases hDr_1 with ⟨er_1, ka1, hka1, eka1⟩ | ⟨er_1, hnoa1⟩
  · skip
    subst er_1
    subst eka1
    refine lv_if_ne (tgt := 11) hx hb dX10_lies_5 (by decide) (fun c_5 => ?_) (fun c_5 => ?_)
    · skip
      have c_5 : ¬ (1 = 0) := fun z => c_5 ((nI_eq (a := 1) (b := 0) (by omega) (by omega)).mpr z)
      refine lv_iload_n hx hb dX10_lies_11 rfl (lv_at hl 2 rfl) ?_
      refine lv_iconst (v := 0) hx hb dX10_lies_12 (by decide) ?_
      refine lv_bipush (v := 40) hx hb dX10_lies_13 (by decide) ?_
      refine q_callSI (n := 3) (As := [.int a2, .int 0, .int 40]) (rest := []) C hM hA (c_X10_within E ad l S A b a2 0 40) gX10_lies_X10_within rfl rfl rfl (by decide +kernel) ⟨Nat.le_of_ble_eq_true rfl, Nat.le_of_ble_eq_true rfl⟩ rfl hl.1 rfl (Nat.le_of_ble_eq_true rfl) ⟨Nat.zero_le _, Nat.zero_le _⟩ dX10_lies_15 (fun r_5 S_6 A_7 b_8 H locs qr_5 hM => ?_)
      obtain ⟨⟨e1, e2, e3⟩, er_5⟩ := qr_5
      subst e1; subst e2; subst e3
      rcases q01_cases (0 ≤ a2 ∧ a2 ≤ 40) with ⟨hzr_5, hir_5⟩ | ⟨hzr_5, hir_5⟩
      · skip
        rw [hzr_5] at er_5
        subst er_5
        obtain ⟨ka2, hloka2, hhika2, eka2⟩ := qin_of (l := 0) (h := 40) rfl rfl (by omega) (by omega) hir_5
        subst eka2
        refine lv_if_ne (tgt := 24) hx hb dX10_lies_18 (by decide) (fun c_18 => ?_) (fun c_18 => ?_)
        · skip
          have c_18 : ¬ (1 = 0) := fun z => c_18 ((nI_eq (a := 1) (b := 0) (by omega) (by omega)).mpr z)
          refine lv_aload_n hx hb dX10_lies_24 rfl (lv_at hl 0 rfl) ?_
          refine lv_iload_n hx hb dX10_lies_25 rfl (lv_at hl 2 rfl) ?_
          refine q_callVV (n := 1) (o := 0) (As := [.int (nI ka2)]) (rest := []) C hM hA (c_X10_tryHours E ad l S A b p hp hbp ka2 (by omega) nC hC (by omega) nP hPo (by omega) nW hWi (by omega) nH hH (by omega)) (qmem_10 E ad S A b (show qk 0 = 10 from by decide +kernel)) (by decide) rfl gX10_lies_X10_tryHours rfl rfl rfl (by decide +kernel) ⟨Nat.le_of_ble_eq_true rfl, Nat.le_of_ble_eq_true rfl⟩ rfl hl.1 rfl (Nat.le_of_ble_eq_true rfl) ⟨Nat.zero_le _, Nat.zero_le _⟩ dX10_lies_26 (fun S_10 A_11 b_12 H locs qr_9 hM => ?_)
          obtain ⟨e3, ⟨fA_11, cA_11, hf1A_11, hc1A_11, htA_11⟩, hfA_11, hgS_10⟩ := qr_9
          subst e3
          refine lv_aload_n hx hb dX10_lies_29 rfl (lv_at hl 0 rfl) ?_
          refine q_get (o := 0) (ci := 10) (k := 2) (T := TX10) (v := .ref (ad 9)) C hM (qmem_10 E ad S_10 A_11 b (show qk 0 = 10 from by decide +kernel)) (by decide) rfl hi10 (by decide) hL0 rfl rfl dX10_lies_30 ?_
          refine q_get (o := 9) (ci := 9) (k := 0) (T := TX9) (v := .ref (ad 10)) C hM (qmem_9 E ad S_10 A_11 b (show qk 9 = 9 from by decide +kernel)) (by decide) rfl hi9 (by decide) hL1 rfl rfl dX10_lies_33 ?_
          refine lv_iload_n hx hb dX10_lies_36 rfl (lv_at hl 1 rfl) ?_
          refine q_iald (v := A_11 10 ka1) C hM (show qk 10 = 12 from by decide +kernel) (by rw [(show ql 10 = 12 from by decide +kernel)]; exact vp_nI (by omega) (by omega)) (by rw [nIc (by omega)]) dX10_lies_37 ?_
          exact q_iret C hM dX10_lies_38 (by exact ⟨rfl, by rw [qix_in hka1 (by omega)]; dsimp only [Option.elim]; rw [qir_in hloka2 hhika2 (by omega)]; dsimp only [Option.elim]; rw [qfst htA_11]; exact (qpass_cong (fun k hk => hf1A_11 k (by omega)) (fun k hk => hc1A_11 k (by omega)) ka2).1 ka1 hka1, hfA_11, hgS_10⟩)
        · skip
          have c_18 : 1 = 0 := (nI_eq (a := 1) (b := 0) (by omega) (by omega)).mp c_18
          exact absurd c_18 (by decide)
      · skip
        rw [hzr_5] at er_5
        subst er_5
        refine lv_if_ne (tgt := 24) hx hb dX10_lies_18 (by decide) (fun c_18 => ?_) (fun c_18 => ?_)
        · skip
          have c_18 : ¬ (0 = 0) := fun z => c_18 ((nI_eq (a := 0) (b := 0) (by omega) (by omega)).mpr z)
          exact absurd rfl c_18
        · skip
          have c_18 : 0 = 0 := (nI_eq (a := 0) (b := 0) (by omega) (by omega)).mp c_18
          refine lv_ldc (v := (-1000000002)) hx hb C.2.2.2.1 hL2 dX10_lies_21 ?_
          exact q_iret C hM dX10_lies_23 (by exact ⟨rfl, by rw [qix_in hka1 (by omega)]; dsimp only [Option.elim]; rw [qir_out hir_5] <;> rfl, fun _ _ => rfl, fun _ _ => rfl⟩)
    · skip
      have c_5 : 1 = 0 := (nI_eq (a := 1) (b := 0) (by omega) (by omega)).mp c_5
      exact absurd c_5 (by decide)
  · skip
    subst er_1
    refine lv_if_ne (tgt := 11) hx hb dX10_lies_5 (by decide) (fun c_5 => ?_) (fun c_5 => ?_)
    · skip
      have c_5 : ¬ (0 = 0) := fun z => c_5 ((nI_eq (a := 0) (b := 0) (by omega) (by omega)).mpr z)
      exact absurd rfl c_5
    · skip
      have c_5 : 0 = 0 := (nI_eq (a := 0) (b := 0) (by omega) (by omega)).mp c_5
      refine lv_ldc (v := (-1000000001)) hx hb C.2.2.2.1 hL3 dX10_lies_8 ?_
      exact q_iret C hM dX10_lies_10 (by exact ⟨rfl, by rw [qix_out (by omega) hnoa1] <;> rfl, fun _ _ => rfl, fun _ _ => rfl⟩)

set_option maxHeartbeats 4000000 in
set_option maxRecDepth 100000 in
theorem c_X10_open (E : qE) (ad : Nat → Nat) (l : Launch) (S A : qA2) (b : qB) (p : Nat) (hp : qpl p) (hbp : b.1 = p) (a1 : Int32) (nC : Nat) (hC : S p 0 = nI nC) (hCb : nC ≤ 12) (nP : Nat) (hPo : S p 4 = nI nP) (hPb : nP ≤ 6) (nW : Nat) (hWi : S p 6 = nI nW) (hWb : nW ≤ 10) (nH : Nat) (hH : S 3 6 = nI nH) (hHb : nH ≤ 90000) : MI E ad l yX10_open wsX10_open { frames := 4, cells := 0, slots := 0, locals := 100 } [.ref (ad 0), .int a1] S A b (fun r S' A' b' => b = b' ∧ r = (qir a1 0 40).elim (-1000000002) (fun n => q01 (qopen (S p 3) (S p 2) (qpass nC nP nW (S p 1) (A 5) (A (p + 5)) (A (p + 6)) (qlets (A 6) 6) (A 4, S 3 5, S 3 6) n).1 nC = S p 3)) ∧ (∀ i, (i ≤ 9 ∨ 14 < i) → A' i = A i) ∧ (∀ i, i ≠ 9 → S' i = S i)) := by
  obtain ⟨⟨kp, kp1, kp2, kp3, kp4, kp5, kp6⟩, ⟨lp1, lp2, lp3, lp4, lp5, lp6⟩, bp, bp7⟩ := qpl_all hp
  refine MI.of (cc := cX10_open) (maxL := 2) (ret := some .int) RX10 rfl (by decide) rfl ?_
  intro pg e s m below meth cd C hM
  have hx := C.1
  have hb := C.2.1
  have hts := C.2.2.2.2.1
  have hA : ∀ q, s.heap.size ≤ q → qAr ad s.heap.size q := fun _ h => Or.inr h
  have hi10 : ∀ w ∈ u_ws RX10 TX10 11, w ∈ wsX10_open := by decide +kernel
  have hL0 := hts (.fieldLink RX10 23 "CrowFences" "trial" "LCrowFences$Winter;") (by decide +kernel)
  have hL1 := hts (.fieldLink RX10 71 "CrowFences" "plan" "LCrowFences$Plan;") (by decide +kernel)
  have hL2 := hts (.constant RX10 86 (-1000000002)) (by decide +kernel)
  have hl := lv_entry ([.ref (ad 0), .int a1]) (n := 2) (Nat.le_of_ble_eq_true rfl)
  rw [lg_entry_eq]
  generalize (lg_sl ([.ref (ad 0), .int a1]) ++ List.replicate (2 - (lg_sl ([.ref (ad 0), .int a1])).length) Slot.unset).toArray = ls at hl ⊢
  have hl : lv_has ls 2 [(0, .ref (ad 0)), (1, .int a1)] := hl
  refine lv_iload_n hx hb dX10_open_0 rfl (lv_at hl 1 rfl) ?_
  refine lv_iconst (v := 0) hx hb dX10_open_1 (by decide) ?_
  refine lv_bipush (v := 40) hx hb dX10_open_2 (by decide) ?_
  refine q_callSI (n := 3) (As := [.int a1, .int 0, .int 40]) (rest := []) C hM hA (c_X10_within E ad l S A b a1 0 40) gX10_open_X10_within rfl rfl rfl (by decide +kernel) ⟨Nat.le_of_ble_eq_true rfl, Nat.le_of_ble_eq_true rfl⟩ rfl hl.1 rfl (Nat.le_of_ble_eq_true rfl) ⟨Nat.zero_le _, Nat.zero_le _⟩ dX10_open_4 (fun r_1 S_2 A_3 b_4 H locs qr_1 hM => ?_)
  obtain ⟨⟨e1, e2, e3⟩, er_1⟩ := qr_1
  subst e1; subst e2; subst e3
  rcases q01_cases (0 ≤ a1 ∧ a1 ≤ 40) with ⟨hzr_1, hir_1⟩ | ⟨hzr_1, hir_1⟩
  · skip
    rw [hzr_1] at er_1
    subst er_1
    obtain ⟨ka1, hloka1, hhika1, eka1⟩ := qin_of (l := 0) (h := 40) rfl rfl (by omega) (by omega) hir_1
    subst eka1
    refine lv_if_ne (tgt := 13) hx hb dX10_open_7 (by decide) (fun c_7 => ?_) (fun c_7 => ?_)
    · skip
      have c_7 : ¬ (1 = 0) := fun z => c_7 ((nI_eq (a := 1) (b := 0) (by omega) (by omega)).mpr z)
      refine lv_aload_n hx hb dX10_open_13 rfl (lv_at hl 0 rfl) ?_
      refine lv_iload_n hx hb dX10_open_14 rfl (lv_at hl 1 rfl) ?_
      refine q_callVV (n := 1) (o := 0) (As := [.int (nI ka1)]) (rest := []) C hM hA (c_X10_tryHours E ad l S A b p hp hbp ka1 (by omega) nC hC (by omega) nP hPo (by omega) nW hWi (by omega) nH hH (by omega)) (qmem_10 E ad S A b (show qk 0 = 10 from by decide +kernel)) (by decide) rfl gX10_open_X10_tryHours rfl rfl rfl (by decide +kernel) ⟨Nat.le_of_ble_eq_true rfl, Nat.le_of_ble_eq_true rfl⟩ rfl hl.1 rfl (Nat.le_of_ble_eq_true rfl) ⟨Nat.zero_le _, Nat.zero_le _⟩ dX10_open_15 (fun S_6 A_7 b_8 H locs qr_5 hM => ?_)
      obtain ⟨e3, ⟨fA_7, cA_7, hf1A_7, hc1A_7, htA_7⟩, hfA_7, hgS_6⟩ := qr_5
      subst e3
      refine lv_aload_n hx hb dX10_open_18 rfl (lv_at hl 0 rfl) ?_
      refine q_get (o := 0) (ci := 10) (k := 2) (T := TX10) (v := .ref (ad 9)) C hM (qmem_10 E ad S_6 A_7 b (show qk 0 = 10 from by decide +kernel)) (by decide) rfl hi10 (by decide) hL0 rfl rfl dX10_open_19 ?_
      refine lv_aload_n hx hb dX10_open_22 rfl (lv_at hl 0 rfl) ?_
      refine q_get (o := 0) (ci := 10) (k := 9) (T := TX10) (v := .ref (ad p)) C hM (qmem_10 E ad S_6 A_7 b (show qk 0 = 10 from by decide +kernel)) (by decide) rfl hi10 (by decide) hL1 rfl (by rw [← hbp]; rfl) dX10_open_23 ?_
      refine q_callVI (n := 1) (o := 9) (As := [.ref (ad p)]) (rest := []) C hM hA (c_X9_roadIsOpen E ad l S_6 A_7 b 9 (show 9 ∈ qwL from by decide +kernel) p hp nC ((show S_6 p 0 = S p 0 from by rw [hgS_6 p (by omega)]).trans hC) (by omega)) (qmem_9 E ad S_6 A_7 b (show qk 9 = 9 from by decide +kernel)) (by decide) rfl gX10_open_X9_roadIsOpen rfl rfl rfl (by decide +kernel) ⟨Nat.le_of_ble_eq_true rfl, Nat.le_of_ble_eq_true rfl⟩ rfl hl.1 rfl (Nat.le_of_ble_eq_true rfl) ⟨Nat.zero_le _, Nat.zero_le _⟩ dX10_open_26 (fun r_9 S_10 A_11 b_12 H locs qr_9 hM => ?_)
      obtain ⟨⟨e1, e2, e3⟩, er_9⟩ := qr_9
      subst e1; subst e2; subst e3
      simp only [Nat.reduceAdd] at er_9
      rw [(show S_6 p 3 = S p 3 from by rw [hgS_6 p (by omega)]), (show S_6 p 2 = S p 2 from by rw [hgS_6 p (by omega)]), qfst htA_7, qopen_cong (fun k hk => (qpass_cong (fun k hk => hf1A_7 k (by omega)) (fun k hk => hc1A_7 k (by omega)) ka1).1 k hk)] at er_9
      refine lv_if_eq (tgt := 36) hx hb dX10_open_29 (by decide) (fun c_29 => ?_) (fun c_29 => ?_)
      · skip
        refine lv_iconst (v := 0) hx hb dX10_open_36 (by decide) ?_
        exact q_iret C hM dX10_open_37 (by exact ⟨rfl, by rw [qir_in hloka1 hhika1 (by omega)]; dsimp only [Option.elim]; rw [← er_9]; exact c_29.symm, hfA_7, hgS_6⟩)
      · skip
        refine lv_iconst (v := 1) hx hb dX10_open_32 (by decide) ?_
        refine lv_goto (tgt := 37) hx hb dX10_open_33 (by decide) ?_
        exact q_iret C hM dX10_open_37 (by exact ⟨rfl, by rw [qir_in hloka1 hhika1 (by omega)]; dsimp only [Option.elim]; rw [← er_9]; exact (by rw [er_9] at c_29 ⊢; exact ((q01_01 _).resolve_left c_29).symm), hfA_7, hgS_6⟩)
    · skip
      have c_7 : 1 = 0 := (nI_eq (a := 1) (b := 0) (by omega) (by omega)).mp c_7
      exact absurd c_7 (by decide)
  · skip
    rw [hzr_1] at er_1
    subst er_1
    refine lv_if_ne (tgt := 13) hx hb dX10_open_7 (by decide) (fun c_7 => ?_) (fun c_7 => ?_)
    · skip
      have c_7 : ¬ (0 = 0) := fun z => c_7 ((nI_eq (a := 0) (b := 0) (by omega) (by omega)).mpr z)
      exact absurd rfl c_7
    · skip
      have c_7 : 0 = 0 := (nI_eq (a := 0) (b := 0) (by omega) (by omega)).mp c_7
      refine lv_ldc (v := (-1000000002)) hx hb C.2.2.2.1 hL2 dX10_open_10 ?_
      exact q_iret C hM dX10_open_12 (by exact ⟨rfl, by rw [qir_out hir_1] <;> rfl, fun _ _ => rfl, fun _ _ => rfl⟩)

set_option maxHeartbeats 4000000 in
set_option maxRecDepth 100000 in
theorem c_X10_fewest (E : qE) (ad : Nat → Nat) (l : Launch) (S A : qA2) (b : qB) (p : Nat) (hp : qpl p) (hbp : b.1 = p) (a1 : Int32) (nC : Nat) (hC : S p 0 = nI nC) (hCb : nC ≤ 12) (nP : Nat) (hPo : S p 4 = nI nP) (hPb : nP ≤ 6) (nW : Nat) (hWi : S p 6 = nI nW) (hWb : nW ≤ 10) (nH : Nat) (hH : S 3 6 = nI nH) (hHb : nH ≤ 90000) : MI E ad l yX10_fewest wsX10_fewest { frames := 5, cells := 0, slots := 0, locals := 130 } [.ref (ad 0), .int a1] S A b (fun r S' A' b' => b = b' ∧ ((qir a1 1 40 = none ∧ r = (-1000000002)) ∨ (∃ n, qir a1 1 40 = some n ∧ ((r = -1 ∧ ∀ m2, m2 < 2 ^ nP → ¬ qstay nC nP nW (S p 1) (S p 2) (S p 3) (A 5) (A (p + 5)) (A (p + 6)) (nI m2) (A 4, qall nP, S 3 6) n) ∨ (∃ k, k < 2 ^ nP ∧ r = nI k ∧ qstay nC nP nW (S p 1) (S p 2) (S p 3) (A 5) (A (p + 5)) (A (p + 6)) (nI k) (A 4, qall nP, S 3 6) n ∧ ∀ m2, m2 < 2 ^ nP → qstay nC nP nW (S p 1) (S p 2) (S p 3) (A 5) (A (p + 5)) (A (p + 6)) (nI m2) (A 4, qall nP, S 3 6) n → qbcn k < qbcn m2 ∨ (qbcn k = qbcn m2 ∧ k ≤ m2))))) ∧ (∀ i, (i ≤ 156 ∨ 161 < i) → A' i = A i) ∧ (∀ i, i ≠ 156 → S' i = S i)) := by
  obtain ⟨⟨kp, kp1, kp2, kp3, kp4, kp5, kp6⟩, ⟨lp1, lp2, lp3, lp4, lp5, lp6⟩, bp, bp7⟩ := qpl_all hp
  refine MI.of (cc := cX10_fewest) (maxL := 2) (ret := some .int) RX10 rfl (by decide) rfl ?_
  intro pg e s m below meth cd C hM
  have hx := C.1
  have hb := C.2.1
  have hts := C.2.2.2.2.1
  have hA : ∀ q, s.heap.size ≤ q → qAr ad s.heap.size q := fun _ h => Or.inr h
  have hi10 : ∀ w ∈ u_ws RX10 TX10 11, w ∈ wsX10_fewest := by decide +kernel
  have hL0 := hts (.fieldLink RX10 50 "CrowFences" "letting" "LCrowFences$Letting;") (by decide +kernel)
  have hL1 := hts (.fieldLink RX10 71 "CrowFences" "plan" "LCrowFences$Plan;") (by decide +kernel)
  have hL2 := hts (.fieldLink RX10 19 "CrowFences" "now" "LCrowFences$Winter;") (by decide +kernel)
  have hL3 := hts (.constant RX10 86 (-1000000002)) (by decide +kernel)
  have hl := lv_entry ([.ref (ad 0), .int a1]) (n := 2) (Nat.le_of_ble_eq_true rfl)
  rw [lg_entry_eq]
  generalize (lg_sl ([.ref (ad 0), .int a1]) ++ List.replicate (2 - (lg_sl ([.ref (ad 0), .int a1])).length) Slot.unset).toArray = ls at hl ⊢
  have hl : lv_has ls 2 [(0, .ref (ad 0)), (1, .int a1)] := hl
  refine lv_iload_n hx hb dX10_fewest_0 rfl (lv_at hl 1 rfl) ?_
  refine lv_iconst (v := 1) hx hb dX10_fewest_1 (by decide) ?_
  refine lv_bipush (v := 40) hx hb dX10_fewest_2 (by decide) ?_
  refine q_callSI (n := 3) (As := [.int a1, .int 1, .int 40]) (rest := []) C hM hA (c_X10_within E ad l S A b a1 1 40) gX10_fewest_X10_within rfl rfl rfl (by decide +kernel) ⟨Nat.le_of_ble_eq_true rfl, Nat.le_of_ble_eq_true rfl⟩ rfl hl.1 rfl (Nat.le_of_ble_eq_true rfl) ⟨Nat.zero_le _, Nat.zero_le _⟩ dX10_fewest_4 (fun r_1 S_2 A_3 b_4 H locs qr_1 hM => ?_)
  obtain ⟨⟨e1, e2, e3⟩, er_1⟩ := qr_1
  subst e1; subst e2; subst e3
  rcases q01_cases (1 ≤ a1 ∧ a1 ≤ 40) with ⟨hzr_1, hir_1⟩ | ⟨hzr_1, hir_1⟩
  · skip
    rw [hzr_1] at er_1
    subst er_1
    obtain ⟨ka1, hloka1, hhika1, eka1⟩ := qin_of (l := 1) (h := 40) rfl rfl (by omega) (by omega) hir_1
    subst eka1
    refine lv_if_ne (tgt := 13) hx hb dX10_fewest_7 (by decide) (fun c_7 => ?_) (fun c_7 => ?_)
    · skip
      have c_7 : ¬ (1 = 0) := fun z => c_7 ((nI_eq (a := 1) (b := 0) (by omega) (by omega)).mpr z)
      refine lv_aload_n hx hb dX10_fewest_13 rfl (lv_at hl 0 rfl) ?_
      refine q_get (o := 0) (ci := 10) (k := 6) (T := TX10) (v := .ref (ad 153)) C hM (qmem_10 E ad S A b (show qk 0 = 10 from by decide +kernel)) (by decide) rfl hi10 (by decide) hL0 rfl rfl dX10_fewest_14 ?_
      refine lv_aload_n hx hb dX10_fewest_17 rfl (lv_at hl 0 rfl) ?_
      refine q_get (o := 0) (ci := 10) (k := 9) (T := TX10) (v := .ref (ad p)) C hM (qmem_10 E ad S A b (show qk 0 = 10 from by decide +kernel)) (by decide) rfl hi10 (by decide) hL1 rfl (by rw [← hbp]; rfl) dX10_fewest_18 ?_
      refine lv_aload_n hx hb dX10_fewest_21 rfl (lv_at hl 0 rfl) ?_
      refine q_get (o := 0) (ci := 10) (k := 1) (T := TX10) (v := .ref (ad 3)) C hM (qmem_10 E ad S A b (show qk 0 = 10 from by decide +kernel)) (by decide) rfl hi10 (by decide) hL2 rfl rfl dX10_fewest_22 ?_
      refine lv_iload_n hx hb dX10_fewest_25 rfl (lv_at hl 1 rfl) ?_
      refine q_callVI (n := 3) (o := 153) (As := [.ref (ad p), .ref (ad 3), .int (nI ka1)]) (rest := []) C hM hA (c_X3_fewestPosts E ad l S A b p hp ka1 (by omega) nC hC (by omega) nP hPo (by omega) nW hWi (by omega) nH hH (by omega)) (qmem_3 E ad S A b (show qk 153 = 3 from by decide +kernel)) (by decide) rfl gX10_fewest_X3_fewestPosts rfl rfl rfl (by decide +kernel) ⟨Nat.le_of_ble_eq_true rfl, Nat.le_of_ble_eq_true rfl⟩ rfl hl.1 rfl (Nat.le_of_ble_eq_true rfl) ⟨Nat.zero_le _, Nat.zero_le _⟩ dX10_fewest_26 (fun r_5 S_6 A_7 b_8 H locs qr_5 hM => ?_)
      obtain ⟨e3, hr_5, hfA_7, hgS_6⟩ := qr_5
      subst e3
      exact q_iret C hM dX10_fewest_29 (by exact ⟨rfl, Or.inr ⟨ka1, qir_in hloka1 hhika1 (by omega), hr_5⟩, hfA_7, hgS_6⟩)
    · skip
      have c_7 : 1 = 0 := (nI_eq (a := 1) (b := 0) (by omega) (by omega)).mp c_7
      exact absurd c_7 (by decide)
  · skip
    rw [hzr_1] at er_1
    subst er_1
    refine lv_if_ne (tgt := 13) hx hb dX10_fewest_7 (by decide) (fun c_7 => ?_) (fun c_7 => ?_)
    · skip
      have c_7 : ¬ (0 = 0) := fun z => c_7 ((nI_eq (a := 0) (b := 0) (by omega) (by omega)).mpr z)
      exact absurd rfl c_7
    · skip
      have c_7 : 0 = 0 := (nI_eq (a := 0) (b := 0) (by omega) (by omega)).mp c_7
      refine lv_ldc (v := (-1000000002)) hx hb C.2.2.2.1 hL3 dX10_fewest_10 ?_
      exact q_iret C hM dX10_fewest_12 (by exact ⟨rfl, Or.inl ⟨qir_out hir_1, rfl⟩, fun _ _ => rfl, fun _ _ => rfl⟩)

set_option maxHeartbeats 4000000 in
set_option maxRecDepth 100000 in
theorem c_X10_lets (E : qE) (ad : Nat → Nat) (l : Launch) (S A : qA2) (b : qB) (p : Nat) (hp : qpl p) (hbp : b.1 = p) (a1 a2 : Int32) (nC : Nat) (hC : S p 0 = nI nC) (hCb : nC ≤ 12) (nP : Nat) (hPo : S p 4 = nI nP) (hPb : nP ≤ 6) (nW : Nat) (hWi : S p 6 = nI nW) (hWb : nW ≤ 10) (nH : Nat) (hH : S 3 6 = nI nH) (hHb : nH ≤ 90000) (nK : Nat) (hK : S p 5 = nI nK) (hKb : nK ≤ 5) : MI E ad l yX10_lets wsX10_lets { frames := 6, cells := 0, slots := 0, locals := 154 } [.ref (ad 0), .int a1, .int a2] S A b (fun r S' A' b' => b = b' ∧ ((r = (-1000000001) ∧ ¬ a2 = -1 ∧ qix a2 nP = none) ∨ ((a2 = -1 ∨ ∃ k, qix a2 nP = some k) ∧ r = (qir a1 1 40).elim (-1000000002) (fun n => if a2 = -1 then (qfm nP nK (fun m2 => qstay nC nP nW (S p 1) (S p 2) (S p 3) (A 5) (A (p + 5)) (A (p + 6)) (nI m2) (A 4, qall nP, S 3 6) n) (fun way => qspoons way (A 7) (A (p + 4)) (A (p + 2)) nP) 5000 (qsettle nK nP 0 0 (A 163, 0, 0)) (-1, qmap (fun _ _ => -1) (A 154) 6)).1 else (qfm nP nK (fun m2 => qstay nC nP nW (S p 1) (S p 2) (S p 3) (A 5) (A (p + 5)) (A (p + 6)) (nI m2) (A 4, qall nP, S 3 6) n) (fun way => qspoons way (A 7) (A (p + 4)) (A (p + 2)) nP) 5000 (qsettle nK nP 0 0 (A 163, 0, 0)) (-1, qmap (fun _ _ => -1) (A 154) 6)).2 a2.toNatClampNeg))) ∧ (∀ i, (i < 154 ∨ i = 156 ∨ i = 162 ∨ 163 < i) → A' i = A i) ∧ (∀ i, (i ≠ 153 ∧ i ≠ 156 ∧ i ≠ 162) → S' i = S i)) := by
  obtain ⟨⟨kp, kp1, kp2, kp3, kp4, kp5, kp6⟩, ⟨lp1, lp2, lp3, lp4, lp5, lp6⟩, bp, bp7⟩ := qpl_all hp
  refine MI.of (cc := cX10_lets) (maxL := 3) (ret := some .int) RX10 rfl (by decide) rfl ?_
  intro pg e s m below meth cd C hM
  have hx := C.1
  have hb := C.2.1
  have hts := C.2.2.2.2.1
  have hA : ∀ q, s.heap.size ≤ q → qAr ad s.heap.size q := fun _ h => Or.inr h
  have hi3 : ∀ w ∈ u_ws RX3 TX3 5, w ∈ wsX10_lets := by decide +kernel
  have hi10 : ∀ w ∈ u_ws RX10 TX10 11, w ∈ wsX10_lets := by decide +kernel
  have hL0 := hts (.fieldLink RX10 50 "CrowFences" "letting" "LCrowFences$Letting;") (by decide +kernel)
  have hL1 := hts (.fieldLink RX10 71 "CrowFences" "plan" "LCrowFences$Plan;") (by decide +kernel)
  have hL2 := hts (.fieldLink RX10 19 "CrowFences" "now" "LCrowFences$Winter;") (by decide +kernel)
  have hL3 := hts (.fieldLink RX10 243 "CrowFences$Letting" "mostSpoons" "I") (by decide +kernel)
  have hL4 := hts (.constant RX10 86 (-1000000002)) (by decide +kernel)
  have hL5 := hts (.fieldLink RX10 246 "CrowFences$Letting" "crowOn" "[I") (by decide +kernel)
  have hL6 := hts (.constant RX10 160 (-1000000001)) (by decide +kernel)
  have hl := lv_entry ([.ref (ad 0), .int a1, .int a2]) (n := 3) (Nat.le_of_ble_eq_true rfl)
  rw [lg_entry_eq]
  generalize (lg_sl ([.ref (ad 0), .int a1, .int a2]) ++ List.replicate (3 - (lg_sl ([.ref (ad 0), .int a1, .int a2])).length) Slot.unset).toArray = ls at hl ⊢
  have hl : lv_has ls 3 [(0, .ref (ad 0)), (1, .int a1), (2, .int a2)] := hl
  refine lv_iload_n hx hb dX10_lets_0 rfl (lv_at hl 2 rfl) ?_
  refine lv_iconst (v := (-1)) hx hb dX10_lets_1 (by decide) ?_
  refine lv_icmp_eq (tgt := 16) hx hb dX10_lets_2 (by decide) (fun c_2 => ?_) (fun c_2 => ?_)
  · skip
    refine lv_iload_n hx hb dX10_lets_16 rfl (lv_at hl 1 rfl) ?_
    refine lv_iconst (v := 1) hx hb dX10_lets_17 (by decide) ?_
    refine lv_bipush (v := 40) hx hb dX10_lets_18 (by decide) ?_
    refine q_callSI (n := 3) (As := [.int a1, .int 1, .int 40]) (rest := []) C hM hA (c_X10_within E ad l S A b a1 1 40) gX10_lets_X10_within rfl rfl rfl (by decide +kernel) ⟨Nat.le_of_ble_eq_true rfl, Nat.le_of_ble_eq_true rfl⟩ rfl hl.1 rfl (Nat.le_of_ble_eq_true rfl) ⟨Nat.zero_le _, Nat.zero_le _⟩ dX10_lets_20 (fun r_1 S_2 A_3 b_4 H locs qr_1 hM => ?_)
    obtain ⟨⟨e1, e2, e3⟩, er_1⟩ := qr_1
    subst e1; subst e2; subst e3
    rcases q01_cases (1 ≤ a1 ∧ a1 ≤ 40) with ⟨hzr_1, hir_1⟩ | ⟨hzr_1, hir_1⟩
    · skip
      rw [hzr_1] at er_1
      subst er_1
      obtain ⟨ka1, hloka1, hhika1, eka1⟩ := qin_of (l := 1) (h := 40) rfl rfl (by omega) (by omega) hir_1
      subst eka1
      refine lv_if_ne (tgt := 29) hx hb dX10_lets_23 (by decide) (fun c_23 => ?_) (fun c_23 => ?_)
      · skip
        have c_23 : ¬ (1 = 0) := fun z => c_23 ((nI_eq (a := 1) (b := 0) (by omega) (by omega)).mpr z)
        refine lv_aload_n hx hb dX10_lets_29 rfl (lv_at hl 0 rfl) ?_
        refine q_get (o := 0) (ci := 10) (k := 6) (T := TX10) (v := .ref (ad 153)) C hM (qmem_10 E ad S A b (show qk 0 = 10 from by decide +kernel)) (by decide) rfl hi10 (by decide) hL0 rfl rfl dX10_lets_30 ?_
        refine lv_aload_n hx hb dX10_lets_33 rfl (lv_at hl 0 rfl) ?_
        refine q_get (o := 0) (ci := 10) (k := 9) (T := TX10) (v := .ref (ad p)) C hM (qmem_10 E ad S A b (show qk 0 = 10 from by decide +kernel)) (by decide) rfl hi10 (by decide) hL1 rfl (by rw [← hbp]; rfl) dX10_lets_34 ?_
        refine lv_aload_n hx hb dX10_lets_37 rfl (lv_at hl 0 rfl) ?_
        refine q_get (o := 0) (ci := 10) (k := 1) (T := TX10) (v := .ref (ad 3)) C hM (qmem_10 E ad S A b (show qk 0 = 10 from by decide +kernel)) (by decide) rfl hi10 (by decide) hL2 rfl rfl dX10_lets_38 ?_
        refine lv_iload_n hx hb dX10_lets_41 rfl (lv_at hl 1 rfl) ?_
        refine q_callVV (n := 3) (o := 153) (As := [.ref (ad p), .ref (ad 3), .int (nI ka1)]) (rest := []) C hM hA (c_X3_findMost E ad l S A b p hp ka1 (by omega) nC hC (by omega) nP hPo (by omega) nW hWi (by omega) nH hH (by omega) nK hK (by omega)) (qmem_3 E ad S A b (show qk 153 = 3 from by decide +kernel)) (by decide) rfl gX10_lets_X3_findMost rfl rfl rfl (by decide +kernel) ⟨Nat.le_of_ble_eq_true rfl, Nat.le_of_ble_eq_true rfl⟩ rfl hl.1 rfl (Nat.le_of_ble_eq_true rfl) ⟨Nat.zero_le _, Nat.zero_le _⟩ dX10_lets_42 (fun S_6 A_7 b_8 H locs qr_5 hM => ?_)
        obtain ⟨e3, hmA_7, hfA_7, hgS_6⟩ := qr_5
        subst e3
        refine lv_iload_n hx hb dX10_lets_45 rfl (lv_at hl 2 rfl) ?_
        refine lv_iconst (v := (-1)) hx hb dX10_lets_46 (by decide) ?_
        refine lv_icmp_ne (tgt := 60) hx hb dX10_lets_47 (by decide) (fun c_47 => ?_) (fun c_47 => ?_)
        · skip
          exact absurd c_2 c_47
        · skip
          refine lv_aload_n hx hb dX10_lets_50 rfl (lv_at hl 0 rfl) ?_
          refine q_get (o := 0) (ci := 10) (k := 6) (T := TX10) (v := .ref (ad 153)) C hM (qmem_10 E ad S_6 A_7 b (show qk 0 = 10 from by decide +kernel)) (by decide) rfl hi10 (by decide) hL0 rfl rfl dX10_lets_51 ?_
          refine q_get (o := 153) (ci := 3) (k := 1) (T := TX3) (v := .int (S_6 153 1)) C hM (qmem_3 E ad S_6 A_7 b (show qk 153 = 3 from by decide +kernel)) (by decide) rfl hi3 (by decide) hL3 rfl rfl dX10_lets_54 ?_
          refine lv_goto (tgt := 69) hx hb dX10_lets_57 (by decide) ?_
          exact q_iret C hM dX10_lets_69 (by exact ⟨rfl, Or.inr ⟨Or.inl c_2, by rw [qir_in hloka1 hhika1 (by omega)]; dsimp only [Option.elim]; rw [if_pos c_2]; exact congrArg Prod.fst hmA_7⟩, hfA_7, hgS_6⟩)
      · skip
        have c_23 : 1 = 0 := (nI_eq (a := 1) (b := 0) (by omega) (by omega)).mp c_23
        exact absurd c_23 (by decide)
    · skip
      rw [hzr_1] at er_1
      subst er_1
      refine lv_if_ne (tgt := 29) hx hb dX10_lets_23 (by decide) (fun c_23 => ?_) (fun c_23 => ?_)
      · skip
        have c_23 : ¬ (0 = 0) := fun z => c_23 ((nI_eq (a := 0) (b := 0) (by omega) (by omega)).mpr z)
        exact absurd rfl c_23
      · skip
        have c_23 : 0 = 0 := (nI_eq (a := 0) (b := 0) (by omega) (by omega)).mp c_23
        refine lv_ldc (v := (-1000000002)) hx hb C.2.2.2.1 hL4 dX10_lets_26 ?_
        exact q_iret C hM dX10_lets_28 (by exact ⟨rfl, Or.inr ⟨Or.inl c_2, by rw [qir_out hir_1] <;> rfl⟩, fun _ _ => rfl, fun _ _ => rfl⟩)
  · skip
    refine lv_aload_n hx hb dX10_lets_5 rfl (lv_at hl 0 rfl) ?_
    refine lv_iload_n hx hb dX10_lets_6 rfl (lv_at hl 2 rfl) ?_
    refine q_callVI (n := 1) (o := 0) (As := [.int a2]) (rest := []) C hM hA (c_X10_isPost E ad l S A b p hp hbp a2 nP hPo (by omega)) (qmem_10 E ad S A b (show qk 0 = 10 from by decide +kernel)) (by decide) rfl gX10_lets_X10_isPost rfl rfl rfl (by decide +kernel) ⟨Nat.le_of_ble_eq_true rfl, Nat.le_of_ble_eq_true rfl⟩ rfl hl.1 rfl (Nat.le_of_ble_eq_true rfl) ⟨Nat.zero_le _, Nat.zero_le _⟩ dX10_lets_7 (fun r_9 S_10 A_11 b_12 H locs qr_9 hM => ?_)
    obtain ⟨⟨e1, e2, e3⟩, hDr_9⟩ := qr_9
    subst e1; subst e2; subst e3
    rcases hDr_9 with ⟨er_9, ka2, hka2, eka2⟩ | ⟨er_9, hnoa2⟩
    · skip
      subst er_9
      subst eka2
      refine lv_if_ne (tgt := 16) hx hb dX10_lets_10 (by decide) (fun c_10 => ?_) (fun c_10 => ?_)
      · skip
        have c_10 : ¬ (1 = 0) := fun z => c_10 ((nI_eq (a := 1) (b := 0) (by omega) (by omega)).mpr z)
        refine lv_iload_n hx hb dX10_lets_16 rfl (lv_at hl 1 rfl) ?_
        refine lv_iconst (v := 1) hx hb dX10_lets_17 (by decide) ?_
        refine lv_bipush (v := 40) hx hb dX10_lets_18 (by decide) ?_
        refine q_callSI (n := 3) (As := [.int a1, .int 1, .int 40]) (rest := []) C hM hA (c_X10_within E ad l S A b a1 1 40) gX10_lets_X10_within rfl rfl rfl (by decide +kernel) ⟨Nat.le_of_ble_eq_true rfl, Nat.le_of_ble_eq_true rfl⟩ rfl hl.1 rfl (Nat.le_of_ble_eq_true rfl) ⟨Nat.zero_le _, Nat.zero_le _⟩ dX10_lets_20 (fun r_13 S_14 A_15 b_16 H locs qr_13 hM => ?_)
        obtain ⟨⟨e1, e2, e3⟩, er_13⟩ := qr_13
        subst e1; subst e2; subst e3
        rcases q01_cases (1 ≤ a1 ∧ a1 ≤ 40) with ⟨hzr_13, hir_13⟩ | ⟨hzr_13, hir_13⟩
        · skip
          rw [hzr_13] at er_13
          subst er_13
          obtain ⟨ka1, hloka1, hhika1, eka1⟩ := qin_of (l := 1) (h := 40) rfl rfl (by omega) (by omega) hir_13
          subst eka1
          refine lv_if_ne (tgt := 29) hx hb dX10_lets_23 (by decide) (fun c_23 => ?_) (fun c_23 => ?_)
          · skip
            have c_23 : ¬ (1 = 0) := fun z => c_23 ((nI_eq (a := 1) (b := 0) (by omega) (by omega)).mpr z)
            refine lv_aload_n hx hb dX10_lets_29 rfl (lv_at hl 0 rfl) ?_
            refine q_get (o := 0) (ci := 10) (k := 6) (T := TX10) (v := .ref (ad 153)) C hM (qmem_10 E ad S A b (show qk 0 = 10 from by decide +kernel)) (by decide) rfl hi10 (by decide) hL0 rfl rfl dX10_lets_30 ?_
            refine lv_aload_n hx hb dX10_lets_33 rfl (lv_at hl 0 rfl) ?_
            refine q_get (o := 0) (ci := 10) (k := 9) (T := TX10) (v := .ref (ad p)) C hM (qmem_10 E ad S A b (show qk 0 = 10 from by decide +kernel)) (by decide) rfl hi10 (by decide) hL1 rfl (by rw [← hbp]; rfl) dX10_lets_34 ?_
            refine lv_aload_n hx hb dX10_lets_37 rfl (lv_at hl 0 rfl) ?_
            refine q_get (o := 0) (ci := 10) (k := 1) (T := TX10) (v := .ref (ad 3)) C hM (qmem_10 E ad S A b (show qk 0 = 10 from by decide +kernel)) (by decide) rfl hi10 (by decide) hL2 rfl rfl dX10_lets_38 ?_
            refine lv_iload_n hx hb dX10_lets_41 rfl (lv_at hl 1 rfl) ?_
            refine q_callVV (n := 3) (o := 153) (As := [.ref (ad p), .ref (ad 3), .int (nI ka1)]) (rest := []) C hM hA (c_X3_findMost E ad l S A b p hp ka1 (by omega) nC hC (by omega) nP hPo (by omega) nW hWi (by omega) nH hH (by omega) nK hK (by omega)) (qmem_3 E ad S A b (show qk 153 = 3 from by decide +kernel)) (by decide) rfl gX10_lets_X3_findMost rfl rfl rfl (by decide +kernel) ⟨Nat.le_of_ble_eq_true rfl, Nat.le_of_ble_eq_true rfl⟩ rfl hl.1 rfl (Nat.le_of_ble_eq_true rfl) ⟨Nat.zero_le _, Nat.zero_le _⟩ dX10_lets_42 (fun S_18 A_19 b_20 H locs qr_17 hM => ?_)
            obtain ⟨e3, hmA_19, hfA_19, hgS_18⟩ := qr_17
            subst e3
            refine lv_iload_n hx hb dX10_lets_45 rfl (lv_at hl 2 rfl) ?_
            refine lv_iconst (v := (-1)) hx hb dX10_lets_46 (by decide) ?_
            refine lv_icmp_ne (tgt := 60) hx hb dX10_lets_47 (by decide) (fun c_47 => ?_) (fun c_47 => ?_)
            · skip
              refine lv_aload_n hx hb dX10_lets_60 rfl (lv_at hl 0 rfl) ?_
              refine q_get (o := 0) (ci := 10) (k := 6) (T := TX10) (v := .ref (ad 153)) C hM (qmem_10 E ad S_18 A_19 b (show qk 0 = 10 from by decide +kernel)) (by decide) rfl hi10 (by decide) hL0 rfl rfl dX10_lets_61 ?_
              refine q_get (o := 153) (ci := 3) (k := 0) (T := TX3) (v := .ref (ad 154)) C hM (qmem_3 E ad S_18 A_19 b (show qk 153 = 3 from by decide +kernel)) (by decide) rfl hi3 (by decide) hL5 rfl rfl dX10_lets_64 ?_
              refine lv_iload_n hx hb dX10_lets_67 rfl (lv_at hl 2 rfl) ?_
              refine q_iald (v := A_19 154 ka2) C hM (show qk 154 = 12 from by decide +kernel) (by rw [(show ql 154 = 6 from by decide +kernel)]; exact vp_nI (by omega) (by omega)) (by rw [nIc (by omega)]) dX10_lets_68 ?_
              exact q_iret C hM dX10_lets_69 (by exact ⟨rfl, Or.inr ⟨Or.inr ⟨ka2, qix_in hka2 (by omega)⟩, by rw [qir_in hloka1 hhika1 (by omega)]; dsimp only [Option.elim]; rw [if_neg c_2, nIc (by omega)]; exact congrFun (congrArg Prod.snd hmA_19) ka2⟩, hfA_19, hgS_18⟩)
            · skip
              exact absurd c_47 c_2
          · skip
            have c_23 : 1 = 0 := (nI_eq (a := 1) (b := 0) (by omega) (by omega)).mp c_23
            exact absurd c_23 (by decide)
        · skip
          rw [hzr_13] at er_13
          subst er_13
          refine lv_if_ne (tgt := 29) hx hb dX10_lets_23 (by decide) (fun c_23 => ?_) (fun c_23 => ?_)
          · skip
            have c_23 : ¬ (0 = 0) := fun z => c_23 ((nI_eq (a := 0) (b := 0) (by omega) (by omega)).mpr z)
            exact absurd rfl c_23
          · skip
            have c_23 : 0 = 0 := (nI_eq (a := 0) (b := 0) (by omega) (by omega)).mp c_23
            refine lv_ldc (v := (-1000000002)) hx hb C.2.2.2.1 hL4 dX10_lets_26 ?_
            exact q_iret C hM dX10_lets_28 (by exact ⟨rfl, Or.inr ⟨Or.inr ⟨ka2, qix_in hka2 (by omega)⟩, by rw [qir_out hir_13] <;> rfl⟩, fun _ _ => rfl, fun _ _ => rfl⟩)
      · skip
        have c_10 : 1 = 0 := (nI_eq (a := 1) (b := 0) (by omega) (by omega)).mp c_10
        exact absurd c_10 (by decide)
    · skip
      subst er_9
      refine lv_if_ne (tgt := 16) hx hb dX10_lets_10 (by decide) (fun c_10 => ?_) (fun c_10 => ?_)
      · skip
        have c_10 : ¬ (0 = 0) := fun z => c_10 ((nI_eq (a := 0) (b := 0) (by omega) (by omega)).mpr z)
        exact absurd rfl c_10
      · skip
        have c_10 : 0 = 0 := (nI_eq (a := 0) (b := 0) (by omega) (by omega)).mp c_10
        refine lv_ldc (v := (-1000000001)) hx hb C.2.2.2.1 hL6 dX10_lets_13 ?_
        exact q_iret C hM dX10_lets_15 (by exact ⟨rfl, Or.inl ⟨rfl, c_2, qix_out (by omega) hnoa2⟩, fun _ _ => rfl, fun _ _ => rfl⟩)

set_option maxHeartbeats 4000000 in
set_option maxRecDepth 100000 in
theorem c_X10_sublets (E : qE) (ad : Nat → Nat) (l : Launch) (S A : qA2) (b : qB) (a1 : Int32) (nS : Nat) (hS : S 164 0 = nI nS) (hSb : nS ≤ 6) (sp : Nat → Nat) (hsp : ∀ k, k < nS → A 166 k = nI (sp k) ∧ sp k < 6) : MI E ad l yX10_sublets wsX10_sublets { frames := 2, cells := 0, slots := 0, locals := 45 } [.ref (ad 0), .int a1] S A b (fun r S' A' b' => b = b' ∧ r = (if a1 = 0 then qsubl (A 6) (fun p => qsat (A 165) sp p nS) 6 else if a1 = 1 then qgst (A 6) (A 165) sp nS else (-1000000002)) ∧ (∀ i, i ≠ 167 → A' i = A i) ∧ (∀ i j, (i ≠ 164 ∨ j ≠ 6) → S' i j = S i j)) := by
  refine MI.of (cc := cX10_sublets) (maxL := 2) (ret := some .int) RX10 rfl (by decide) rfl ?_
  intro pg e s m below meth cd C hM
  have hx := C.1
  have hb := C.2.1
  have hts := C.2.2.2.2.1
  have hA : ∀ q, s.heap.size ≤ q → qAr ad s.heap.size q := fun _ h => Or.inr h
  have hi10 : ∀ w ∈ u_ws RX10 TX10 11, w ∈ wsX10_sublets := by decide +kernel
  have hL0 := hts (.fieldLink RX10 57 "CrowFences" "sits" "LCrowFences$Sits;") (by decide +kernel)
  have hL1 := hts (.fieldLink RX10 19 "CrowFences" "now" "LCrowFences$Winter;") (by decide +kernel)
  have hL2 := hts (.constant RX10 86 (-1000000002)) (by decide +kernel)
  have hl := lv_entry ([.ref (ad 0), .int a1]) (n := 2) (Nat.le_of_ble_eq_true rfl)
  rw [lg_entry_eq]
  generalize (lg_sl ([.ref (ad 0), .int a1]) ++ List.replicate (2 - (lg_sl ([.ref (ad 0), .int a1])).length) Slot.unset).toArray = ls at hl ⊢
  have hl : lv_has ls 2 [(0, .ref (ad 0)), (1, .int a1)] := hl
  refine lv_iload_n hx hb dX10_sublets_0 rfl (lv_at hl 1 rfl) ?_
  by_cases c_1 : a1 = 0
  · refine lv_lookup (off := 27) (tgt := 28) hx hb dX10_sublets_1 (by decide) (by rw [c_1]; rfl) (by decide) ?_
    refine lv_aload_n hx hb dX10_sublets_28 rfl (lv_at hl 0 rfl) ?_
    refine q_get (o := 0) (ci := 10) (k := 7) (T := TX10) (v := .ref (ad 164)) C hM (qmem_10 E ad S A b (show qk 0 = 10 from by decide +kernel)) (by decide) rfl hi10 (by decide) hL0 rfl rfl dX10_sublets_29 ?_
    refine lv_aload_n hx hb dX10_sublets_32 rfl (lv_at hl 0 rfl) ?_
    refine q_get (o := 0) (ci := 10) (k := 1) (T := TX10) (v := .ref (ad 3)) C hM (qmem_10 E ad S A b (show qk 0 = 10 from by decide +kernel)) (by decide) rfl hi10 (by decide) hL1 rfl rfl dX10_sublets_33 ?_
    refine q_callVI (n := 1) (o := 164) (As := [.ref (ad 3)]) (rest := []) C hM hA (c_X6_subletters E ad l S A b nS hS (by omega) sp hsp) (qmem_6 E ad S A b (show qk 164 = 6 from by decide +kernel)) (by decide) rfl gX10_sublets_X6_subletters rfl rfl rfl (by decide +kernel) ⟨Nat.le_of_ble_eq_true rfl, Nat.le_of_ble_eq_true rfl⟩ rfl hl.1 rfl (Nat.le_of_ble_eq_true rfl) ⟨Nat.zero_le _, Nat.zero_le _⟩ dX10_sublets_36 (fun r_1 S_2 A_3 b_4 H locs qr_1 hM => ?_)
    obtain ⟨e3, er_1, eS_2, hfA_3⟩ := qr_1
    subst e3
    exact q_iret C hM dX10_sublets_39 (by exact ⟨rfl, by rw [if_pos c_1, er_1], hfA_3, fun i j hij => by rw [eS_2]; by_cases hz : i = 164; exact q2_k _ _ (by omega); exact q2_o _ _ hz⟩)
  have n_1_0 := c_1
  by_cases c_1 : a1 = 1
  · refine lv_lookup (off := 39) (tgt := 40) hx hb dX10_sublets_1 (by decide) (by rw [c_1]; rfl) (by decide) ?_
    refine lv_aload_n hx hb dX10_sublets_40 rfl (lv_at hl 0 rfl) ?_
    refine q_get (o := 0) (ci := 10) (k := 7) (T := TX10) (v := .ref (ad 164)) C hM (qmem_10 E ad S A b (show qk 0 = 10 from by decide +kernel)) (by decide) rfl hi10 (by decide) hL0 rfl rfl dX10_sublets_41 ?_
    refine lv_aload_n hx hb dX10_sublets_44 rfl (lv_at hl 0 rfl) ?_
    refine q_get (o := 0) (ci := 10) (k := 1) (T := TX10) (v := .ref (ad 3)) C hM (qmem_10 E ad S A b (show qk 0 = 10 from by decide +kernel)) (by decide) rfl hi10 (by decide) hL1 rfl rfl dX10_sublets_45 ?_
    refine q_callVI (n := 1) (o := 164) (As := [.ref (ad 3)]) (rest := []) C hM hA (c_X6_guests E ad l S A b nS hS (by omega) sp hsp) (qmem_6 E ad S A b (show qk 164 = 6 from by decide +kernel)) (by decide) rfl gX10_sublets_X6_guests rfl rfl rfl (by decide +kernel) ⟨Nat.le_of_ble_eq_true rfl, Nat.le_of_ble_eq_true rfl⟩ rfl hl.1 rfl (Nat.le_of_ble_eq_true rfl) ⟨Nat.zero_le _, Nat.zero_le _⟩ dX10_sublets_48 (fun r_5 S_6 A_7 b_8 H locs qr_5 hM => ?_)
    obtain ⟨⟨e1, e2, e3⟩, er_5⟩ := qr_5
    subst e1; subst e2; subst e3
    exact q_iret C hM dX10_sublets_51 (by exact ⟨rfl, by rw [if_neg n_1_0, if_pos c_1, er_5], fun _ _ => rfl, fun _ _ _ => rfl⟩)
  have n_1_1 := c_1
  have m_1_0 := q_neJ (i := 0) (by decide) n_1_0
  have m_1_1 := q_neJ (i := 1) (by decide) n_1_1
  refine lv_lookup (off := 51) (tgt := 52) hx hb dX10_sublets_1 (by decide) (by simp [Op.lookupswitch.offset, m_1_0, m_1_1]) (by decide) ?_
  refine lv_ldc (v := (-1000000002)) hx hb C.2.2.2.1 hL2 dX10_sublets_52 ?_
  exact q_iret C hM dX10_sublets_54 (by exact ⟨rfl, by rw [if_neg n_1_0, if_neg n_1_1], fun _ _ => rfl, fun _ _ _ => rfl⟩)

set_option maxHeartbeats 4000000 in
set_option maxRecDepth 100000 in
theorem c_X10_fit (E : qE) (ad : Nat → Nat) (l : Launch) (S A : qA2) (b : qB) (p : Nat) (hp : qpl p) (hbp : b.1 = p) (a1 : Int32) (nP : Nat) (hPo : S p 4 = nI nP) (hPb : nP ≤ 6) (nK : Nat) (hK : S p 5 = nI nK) (hKb : nK ≤ 5) (nS : Nat) (hS : S 164 0 = nI nS) (hSb : nS ≤ 6) (sp : Nat → Nat) (hsp : ∀ k, k < nS → A 166 k = nI (sp k) ∧ sp k < 6) : MI E ad l yX10_fit wsX10_fit { frames := 4, cells := 0, slots := 0, locals := 90 } [.ref (ad 0), .int a1] S A b (fun r S' A' b' => b = b' ∧ r = (qir a1 0 1).elim (-1000000002) (fun w => if w = 0 then (qfw nP nK (fun way => qfits nP (fun p => qsat (A 165) sp p nS) (qsall (A 165) nS) way) 5000 (qsettle nK nP 0 0 (A 170, 0, 0)) (0, qmap (fun _ _ => 0) (A 168) 6)).1 else (qlook (fun k => qbc ((qfw nP nK (fun way => qfits nP (fun p => qsat (A 165) sp p nS) (qsall (A 165) nS) way) 5000 (qsettle nK nP 0 0 (A 170, 0, 0)) (0, qmap (fun _ _ => 0) (A 168) 6)).2 k)) nP).1) ∧ (∀ i, (i ≠ 167 ∧ i ≠ 168 ∧ i ≠ 170) → A' i = A i) ∧ (∀ i, (i ≠ 164 ∧ i ≠ 169) → S' i = S i) ∧ S' 164 0 = S 164 0) := by
  obtain ⟨⟨kp, kp1, kp2, kp3, kp4, kp5, kp6⟩, ⟨lp1, lp2, lp3, lp4, lp5, lp6⟩, bp, bp7⟩ := qpl_all hp
  refine MI.of (cc := cX10_fit) (maxL := 2) (ret := some .int) RX10 rfl (by decide) rfl ?_
  intro pg e s m below meth cd C hM
  have hx := C.1
  have hb := C.2.1
  have hts := C.2.2.2.2.1
  have hA : ∀ q, s.heap.size ≤ q → qAr ad s.heap.size q := fun _ h => Or.inr h
  have hi5 : ∀ w ∈ u_ws RX5 TX5 13, w ∈ wsX10_fit := by decide +kernel
  have hi6 : ∀ w ∈ u_ws RX6 TX6 8, w ∈ wsX10_fit := by decide +kernel
  have hi10 : ∀ w ∈ u_ws RX10 TX10 11, w ∈ wsX10_fit := by decide +kernel
  have hL0 := hts (.fieldLink RX10 57 "CrowFences" "sits" "LCrowFences$Sits;") (by decide +kernel)
  have hL1 := hts (.fieldLink RX10 71 "CrowFences" "plan" "LCrowFences$Plan;") (by decide +kernel)
  have hL2 := hts (.fieldLink RX10 119 "CrowFences$Plan" "posts" "I") (by decide +kernel)
  have hL3 := hts (.fieldLink RX10 271 "CrowFences$Sits" "waysThatFit" "I") (by decide +kernel)
  have hL4 := hts (.constant RX10 86 (-1000000002)) (by decide +kernel)
  have hl := lv_entry ([.ref (ad 0), .int a1]) (n := 2) (Nat.le_of_ble_eq_true rfl)
  rw [lg_entry_eq]
  generalize (lg_sl ([.ref (ad 0), .int a1]) ++ List.replicate (2 - (lg_sl ([.ref (ad 0), .int a1])).length) Slot.unset).toArray = ls at hl ⊢
  have hl : lv_has ls 2 [(0, .ref (ad 0)), (1, .int a1)] := hl
  refine lv_iload_n hx hb dX10_fit_0 rfl (lv_at hl 1 rfl) ?_
  refine lv_iconst (v := 0) hx hb dX10_fit_1 (by decide) ?_
  refine lv_iconst (v := 1) hx hb dX10_fit_2 (by decide) ?_
  refine q_callSI (n := 3) (As := [.int a1, .int 0, .int 1]) (rest := []) C hM hA (c_X10_within E ad l S A b a1 0 1) gX10_fit_X10_within rfl rfl rfl (by decide +kernel) ⟨Nat.le_of_ble_eq_true rfl, Nat.le_of_ble_eq_true rfl⟩ rfl hl.1 rfl (Nat.le_of_ble_eq_true rfl) ⟨Nat.zero_le _, Nat.zero_le _⟩ dX10_fit_3 (fun r_1 S_2 A_3 b_4 H locs qr_1 hM => ?_)
  obtain ⟨⟨e1, e2, e3⟩, er_1⟩ := qr_1
  subst e1; subst e2; subst e3
  rcases q01_cases (0 ≤ a1 ∧ a1 ≤ 1) with ⟨hzr_1, hir_1⟩ | ⟨hzr_1, hir_1⟩
  · skip
    rw [hzr_1] at er_1
    subst er_1
    obtain ⟨ka1, hloka1, hhika1, eka1⟩ := qin_of (l := 0) (h := 1) rfl rfl (by omega) (by omega) hir_1
    subst eka1
    refine lv_if_ne (tgt := 12) hx hb dX10_fit_6 (by decide) (fun c_6 => ?_) (fun c_6 => ?_)
    · skip
      have c_6 : ¬ (1 = 0) := fun z => c_6 ((nI_eq (a := 1) (b := 0) (by omega) (by omega)).mpr z)
      refine lv_aload_n hx hb dX10_fit_12 rfl (lv_at hl 0 rfl) ?_
      refine q_get (o := 0) (ci := 10) (k := 7) (T := TX10) (v := .ref (ad 164)) C hM (qmem_10 E ad S A b (show qk 0 = 10 from by decide +kernel)) (by decide) rfl hi10 (by decide) hL0 rfl rfl dX10_fit_13 ?_
      refine lv_aload_n hx hb dX10_fit_16 rfl (lv_at hl 0 rfl) ?_
      refine q_get (o := 0) (ci := 10) (k := 9) (T := TX10) (v := .ref (ad p)) C hM (qmem_10 E ad S A b (show qk 0 = 10 from by decide +kernel)) (by decide) rfl hi10 (by decide) hL1 rfl (by rw [← hbp]; rfl) dX10_fit_17 ?_
      refine q_callVV (n := 1) (o := 164) (As := [.ref (ad p)]) (rest := []) C hM hA (c_X6_findWays E ad l S A b p hp nP hPo (by omega) nK hK (by omega) nS hS (by omega) sp hsp) (qmem_6 E ad S A b (show qk 164 = 6 from by decide +kernel)) (by decide) rfl gX10_fit_X6_findWays rfl rfl rfl (by decide +kernel) ⟨Nat.le_of_ble_eq_true rfl, Nat.le_of_ble_eq_true rfl⟩ rfl hl.1 rfl (Nat.le_of_ble_eq_true rfl) ⟨Nat.zero_le _, Nat.zero_le _⟩ dX10_fit_20 (fun S_6 A_7 b_8 H locs qr_5 hM => ?_)
      obtain ⟨e3, hmA_7, hfA_7, hgS_6, h0S_6⟩ := qr_5
      subst e3
      refine lv_iload_n hx hb dX10_fit_23 rfl (lv_at hl 1 rfl) ?_
      refine lv_if_ne (tgt := 37) hx hb dX10_fit_24 (by decide) (fun c_24 => ?_) (fun c_24 => ?_)
      · skip
        have c_24 : ¬ (ka1 = 0) := fun z => c_24 ((nI_eq (a := ka1) (b := 0) (by omega) (by omega)).mpr z)
        refine lv_aload_n hx hb dX10_fit_37 rfl (lv_at hl 0 rfl) ?_
        refine q_get (o := 0) (ci := 10) (k := 7) (T := TX10) (v := .ref (ad 164)) C hM (qmem_10 E ad S_6 A_7 b (show qk 0 = 10 from by decide +kernel)) (by decide) rfl hi10 (by decide) hL0 rfl rfl dX10_fit_38 ?_
        refine lv_aload_n hx hb dX10_fit_41 rfl (lv_at hl 0 rfl) ?_
        refine q_get (o := 0) (ci := 10) (k := 9) (T := TX10) (v := .ref (ad p)) C hM (qmem_10 E ad S_6 A_7 b (show qk 0 = 10 from by decide +kernel)) (by decide) rfl hi10 (by decide) hL1 rfl (by rw [← hbp]; rfl) dX10_fit_42 ?_
        refine q_get (o := p) (ci := 5) (k := 4) (T := TX5) (v := .int (S p 4)) C hM (qmem_5 E ad S_6 A_7 b kp) (by omega) rfl hi5 (by decide) hL2 rfl (congrArg (fun z => some (Value.int z)) (show S_6 p 4 = S p 4 from by rw [hgS_6 p (by omega)])) dX10_fit_45 ?_
        refine lv_as (y := nI nP) hPo ?_
        refine q_callVI (n := 1) (o := 164) (As := [.int (nI nP)]) (rest := []) C hM hA (c_X6_postToLookAt E ad l S_6 A_7 b nP (by omega)) (qmem_6 E ad S_6 A_7 b (show qk 164 = 6 from by decide +kernel)) (by decide) rfl gX10_fit_X6_postToLookAt rfl rfl rfl (by decide +kernel) ⟨Nat.le_of_ble_eq_true rfl, Nat.le_of_ble_eq_true rfl⟩ rfl hl.1 rfl (Nat.le_of_ble_eq_true rfl) ⟨Nat.zero_le _, Nat.zero_le _⟩ dX10_fit_48 (fun r_9 S_10 A_11 b_12 H locs qr_9 hM => ?_)
        obtain ⟨⟨e1, e2, e3⟩, er_9⟩ := qr_9
        subst e1; subst e2; subst e3
        exact q_iret C hM dX10_fit_51 (by exact ⟨rfl, by rw [qir_in hloka1 hhika1 (by omega)]; dsimp only [Option.elim]; rw [if_neg c_24, er_9, show A_7 168 = (qfw nP nK (fun way => qfits nP (fun p => qsat (A 165) sp p nS) (qsall (A 165) nS) way) 5000 (qsettle nK nP 0 0 (A 170, 0, 0)) (0, qmap (fun _ _ => 0) (A 168) 6)).2 from congrArg Prod.snd hmA_7], hfA_7, hgS_6, h0S_6⟩)
      · skip
        have c_24 : ka1 = 0 := (nI_eq (a := ka1) (b := 0) (by omega) (by omega)).mp c_24
        refine lv_aload_n hx hb dX10_fit_27 rfl (lv_at hl 0 rfl) ?_
        refine q_get (o := 0) (ci := 10) (k := 7) (T := TX10) (v := .ref (ad 164)) C hM (qmem_10 E ad S_6 A_7 b (show qk 0 = 10 from by decide +kernel)) (by decide) rfl hi10 (by decide) hL0 rfl rfl dX10_fit_28 ?_
        refine q_get (o := 164) (ci := 6) (k := 1) (T := TX6) (v := .int (S_6 164 1)) C hM (qmem_6 E ad S_6 A_7 b (show qk 164 = 6 from by decide +kernel)) (by decide) rfl hi6 (by decide) hL3 rfl rfl dX10_fit_31 ?_
        refine lv_goto (tgt := 51) hx hb dX10_fit_34 (by decide) ?_
        exact q_iret C hM dX10_fit_51 (by exact ⟨rfl, by rw [qir_in hloka1 hhika1 (by omega)]; dsimp only [Option.elim]; rw [if_pos c_24]; exact congrArg Prod.fst hmA_7, hfA_7, hgS_6, h0S_6⟩)
    · skip
      have c_6 : 1 = 0 := (nI_eq (a := 1) (b := 0) (by omega) (by omega)).mp c_6
      exact absurd c_6 (by decide)
  · skip
    rw [hzr_1] at er_1
    subst er_1
    refine lv_if_ne (tgt := 12) hx hb dX10_fit_6 (by decide) (fun c_6 => ?_) (fun c_6 => ?_)
    · skip
      have c_6 : ¬ (0 = 0) := fun z => c_6 ((nI_eq (a := 0) (b := 0) (by omega) (by omega)).mpr z)
      exact absurd rfl c_6
    · skip
      have c_6 : 0 = 0 := (nI_eq (a := 0) (b := 0) (by omega) (by omega)).mp c_6
      refine lv_ldc (v := (-1000000002)) hx hb C.2.2.2.1 hL4 dX10_fit_9 ?_
      exact q_iret C hM dX10_fit_11 (by exact ⟨rfl, by rw [qir_out hir_1] <;> rfl, fun _ _ => rfl, fun _ _ => rfl, rfl⟩)

set_option maxHeartbeats 4000000 in
set_option maxRecDepth 100000 in
theorem c_X10_yard (E : qE) (ad : Nat → Nat) (l : Launch) (S A : qA2) (b : qB) (p : Nat) (hp : qpl p) (hbp : b.1 = p) (a1 a2 a3 : Int32) (nC : Nat) (hC : S p 0 = nI nC) (hCb : nC ≤ 12) (nP : Nat) (hPo : S p 4 = nI nP) (hPb : nP ≤ 6) (nW : Nat) (hWi : S p 6 = nI nW) (hWb : nW ≤ 10) (nH : Nat) (hH : S 3 6 = nI nH) (hHb : nH ≤ 90000) : MI E ad l yX10_yard wsX10_yard { frames := 4, cells := 0, slots := 0, locals := 100 } [.ref (ad 0), .int a1, .int a2, .int a3] S A b (fun r S' A' b' => b = b' ∧ r = (qix a1 nP).elim (-1000000001) (fun k => (qix a2 nC).elim (-1000000001) (fun c => (qir a3 0 40).elim (-1000000002) (fun n => if qfree (A 5) nC nP (A 5 k + 1) = -1 then -1 else (qpass nC nP nW (S p 1) (upd (A 5) k (qfree (A 5) nC nP (A 5 k + 1))) (A (p + 5)) (A (p + 6)) (qlets (A 6) 6) (A 4, S 3 5, S 3 6) n).1 c - (qpass nC nP nW (S p 1) (A 5) (A (p + 5)) (A (p + 6)) (qlets (A 6) 6) (A 4, S 3 5, S 3 6) n).1 c + 10000))) ∧ (∀ i, (i ≤ 9 ∨ 14 < i) → A' i = A i) ∧ (∀ i, i ≠ 9 → S' i = S i)) := by
  obtain ⟨⟨kp, kp1, kp2, kp3, kp4, kp5, kp6⟩, ⟨lp1, lp2, lp3, lp4, lp5, lp6⟩, bp, bp7⟩ := qpl_all hp
  refine MI.of (cc := cX10_yard) (maxL := 6) (ret := some .int) RX10 rfl (by decide) rfl ?_
  intro pg e s m below meth cd C hM
  have hx := C.1
  have hb := C.2.1
  have hts := C.2.2.2.2.1
  have hA : ∀ q, s.heap.size ≤ q → qAr ad s.heap.size q := fun _ h => Or.inr h
  have hi9 : ∀ w ∈ u_ws RX9 TX9 8, w ∈ wsX10_yard := by decide +kernel
  have hi10 : ∀ w ∈ u_ws RX10 TX10 11, w ∈ wsX10_yard := by decide +kernel
  have hL0 := hts (.fieldLink RX10 19 "CrowFences" "now" "LCrowFences$Winter;") (by decide +kernel)
  have hL1 := hts (.fieldLink RX10 71 "CrowFences" "plan" "LCrowFences$Plan;") (by decide +kernel)
  have hL2 := hts (.fieldLink RX10 23 "CrowFences" "trial" "LCrowFences$Winter;") (by decide +kernel)
  have hL3 := hts (.fieldLink RX10 156 "CrowFences$Winter" "snow" "[I") (by decide +kernel)
  have hL4 := hts (.fieldLink RX10 164 "CrowFences$Winter" "cellOf" "[I") (by decide +kernel)
  have hL5 := hts (.constant RX10 86 (-1000000002)) (by decide +kernel)
  have hL6 := hts (.constant RX10 160 (-1000000001)) (by decide +kernel)
  have hl := lv_entry ([.ref (ad 0), .int a1, .int a2, .int a3]) (n := 6) (Nat.le_of_ble_eq_true rfl)
  rw [lg_entry_eq]
  generalize (lg_sl ([.ref (ad 0), .int a1, .int a2, .int a3]) ++ List.replicate (6 - (lg_sl ([.ref (ad 0), .int a1, .int a2, .int a3])).length) Slot.unset).toArray = ls at hl ⊢
  have hl : lv_has ls 6 [(0, .ref (ad 0)), (1, .int a1), (2, .int a2), (3, .int a3)] := hl
  refine lv_aload_n hx hb dX10_yard_0 rfl (lv_at hl 0 rfl) ?_
  refine lv_iload_n hx hb dX10_yard_1 rfl (lv_at hl 1 rfl) ?_
  refine q_callVI (n := 1) (o := 0) (As := [.int a1]) (rest := []) C hM hA (c_X10_isPost E ad l S A b p hp hbp a1 nP hPo (by omega)) (qmem_10 E ad S A b (show qk 0 = 10 from by decide +kernel)) (by decide) rfl gX10_yard_X10_isPost rfl rfl rfl (by decide +kernel) ⟨Nat.le_of_ble_eq_true rfl, Nat.le_of_ble_eq_true rfl⟩ rfl hl.1 rfl (Nat.le_of_ble_eq_true rfl) ⟨Nat.zero_le _, Nat.zero_le _⟩ dX10_yard_2 (fun r_1 S_2 A_3 b_4 H locs qr_1 hM => ?_)
  obtain ⟨⟨e1, e2, e3⟩, hDr_1⟩ := qr_1
  subst e1; subst e2; subst e3
  rcases hDr_1 with ⟨er_1, ka1, hka1, eka1⟩ | ⟨er_1, hnoa1⟩
  · skip
    subst er_1
    subst eka1
    refine lv_if_eq (tgt := 16) hx hb dX10_yard_5 (by decide) (fun c_5 => ?_) (fun c_5 => ?_)
    · skip
      have c_5 : 1 = 0 := (nI_eq (a := 1) (b := 0) (by omega) (by omega)).mp c_5
      exact absurd c_5 (by decide)
    · skip
      have c_5 : ¬ (1 = 0) := fun z => c_5 ((nI_eq (a := 1) (b := 0) (by omega) (by omega)).mpr z)
      refine lv_aload_n hx hb dX10_yard_8 rfl (lv_at hl 0 rfl) ?_
      refine lv_iload_n hx hb dX10_yard_9 rfl (lv_at hl 2 rfl) ?_
      refine q_callVI (n := 1) (o := 0) (As := [.int a2]) (rest := []) C hM hA (c_X10_isCell E ad l S A b p hp hbp a2 nC hC (by omega)) (qmem_10 E ad S A b (show qk 0 = 10 from by decide +kernel)) (by decide) rfl gX10_yard_X10_isCell rfl rfl rfl (by decide +kernel) ⟨Nat.le_of_ble_eq_true rfl, Nat.le_of_ble_eq_true rfl⟩ rfl hl.1 rfl (Nat.le_of_ble_eq_true rfl) ⟨Nat.zero_le _, Nat.zero_le _⟩ dX10_yard_10 (fun r_5 S_6 A_7 b_8 H locs qr_5 hM => ?_)
      obtain ⟨⟨e1, e2, e3⟩, hDr_5⟩ := qr_5
      subst e1; subst e2; subst e3
      rcases hDr_5 with ⟨er_5, ka2, hka2, eka2⟩ | ⟨er_5, hnoa2⟩
      · skip
        subst er_5
        subst eka2
        refine lv_if_ne (tgt := 19) hx hb dX10_yard_13 (by decide) (fun c_13 => ?_) (fun c_13 => ?_)
        · skip
          have c_13 : ¬ (1 = 0) := fun z => c_13 ((nI_eq (a := 1) (b := 0) (by omega) (by omega)).mpr z)
          refine lv_iload_n hx hb dX10_yard_19 rfl (lv_at hl 3 rfl) ?_
          refine lv_iconst (v := 0) hx hb dX10_yard_20 (by decide) ?_
          refine lv_bipush (v := 40) hx hb dX10_yard_21 (by decide) ?_
          refine q_callSI (n := 3) (As := [.int a3, .int 0, .int 40]) (rest := []) C hM hA (c_X10_within E ad l S A b a3 0 40) gX10_yard_X10_within rfl rfl rfl (by decide +kernel) ⟨Nat.le_of_ble_eq_true rfl, Nat.le_of_ble_eq_true rfl⟩ rfl hl.1 rfl (Nat.le_of_ble_eq_true rfl) ⟨Nat.zero_le _, Nat.zero_le _⟩ dX10_yard_23 (fun r_9 S_10 A_11 b_12 H locs qr_9 hM => ?_)
          obtain ⟨⟨e1, e2, e3⟩, er_9⟩ := qr_9
          subst e1; subst e2; subst e3
          rcases q01_cases (0 ≤ a3 ∧ a3 ≤ 40) with ⟨hzr_9, hir_9⟩ | ⟨hzr_9, hir_9⟩
          · skip
            rw [hzr_9] at er_9
            subst er_9
            obtain ⟨ka3, hloka3, hhika3, eka3⟩ := qin_of (l := 0) (h := 40) rfl rfl (by omega) (by omega) hir_9
            subst eka3
            refine lv_if_ne (tgt := 32) hx hb dX10_yard_26 (by decide) (fun c_26 => ?_) (fun c_26 => ?_)
            · skip
              have c_26 : ¬ (1 = 0) := fun z => c_26 ((nI_eq (a := 1) (b := 0) (by omega) (by omega)).mpr z)
              refine lv_aload_n hx hb dX10_yard_32 rfl (lv_at hl 0 rfl) ?_
              refine q_get (o := 0) (ci := 10) (k := 1) (T := TX10) (v := .ref (ad 3)) C hM (qmem_10 E ad S A b (show qk 0 = 10 from by decide +kernel)) (by decide) rfl hi10 (by decide) hL0 rfl rfl dX10_yard_33 ?_
              refine lv_aload_n hx hb dX10_yard_36 rfl (lv_at hl 0 rfl) ?_
              refine q_get (o := 0) (ci := 10) (k := 9) (T := TX10) (v := .ref (ad p)) C hM (qmem_10 E ad S A b (show qk 0 = 10 from by decide +kernel)) (by decide) rfl hi10 (by decide) hL1 rfl (by rw [← hbp]; rfl) dX10_yard_37 ?_
              refine lv_iload_n hx hb dX10_yard_40 rfl (lv_at hl 1 rfl) ?_
              refine lv_iconst (v := 1) hx hb dX10_yard_41 (by decide) ?_
              refine q_callVI (n := 3) (o := 3) (As := [.ref (ad p), .int (nI ka1), .int 1]) (rest := []) C hM hA (c_X9_freeCellBeside E ad l S A b 3 (show 3 ∈ qwL from by decide +kernel) p hp ka1 (by omega) 1 nC hC (by omega) nP hPo (by omega)) (qmem_9 E ad S A b (show qk 3 = 9 from by decide +kernel)) (by decide) rfl gX10_yard_X9_freeCellBeside rfl rfl rfl (by decide +kernel) ⟨Nat.le_of_ble_eq_true rfl, Nat.le_of_ble_eq_true rfl⟩ rfl hl.1 rfl (Nat.le_of_ble_eq_true rfl) ⟨Nat.zero_le _, Nat.zero_le _⟩ dX10_yard_42 (fun r_13 S_14 A_15 b_16 H locs qr_13 hM => ?_)
              obtain ⟨⟨e1, e2, e3⟩, er_13⟩ := qr_13
              subst e1; subst e2; subst e3
              rw [if_neg (by decide)] at er_13
              refine lv_istore (lv' := [(4, .int r_13), (0, .ref (ad 0)), (1, .int (nI ka1)), (2, .int (nI ka2)), (3, .int (nI ka3))]) hx hb dX10_yard_45 hl (by decide) rfl (fun ls hl => ?_)
              refine lv_iload hx hb dX10_yard_47 (lv_at hl 0 rfl) ?_
              refine lv_iconst (v := (-1)) hx hb dX10_yard_49 (by decide) ?_
              refine lv_icmp_ne (tgt := 55) hx hb dX10_yard_50 (by decide) (fun c_50 => ?_) (fun c_50 => ?_)
              · skip
                refine lv_aload_n hx hb dX10_yard_55 rfl (lv_at hl 1 rfl) ?_
                refine lv_iload_n hx hb dX10_yard_56 rfl (lv_at hl 4 rfl) ?_
                refine q_callVV (n := 1) (o := 0) (As := [.int (nI ka3)]) (rest := []) C hM hA (c_X10_tryHours E ad l S A b p hp hbp ka3 (by omega) nC hC (by omega) nP hPo (by omega) nW hWi (by omega) nH hH (by omega)) (qmem_10 E ad S A b (show qk 0 = 10 from by decide +kernel)) (by decide) rfl gX10_yard_X10_tryHours rfl rfl rfl (by decide +kernel) ⟨Nat.le_of_ble_eq_true rfl, Nat.le_of_ble_eq_true rfl⟩ rfl hl.1 rfl (Nat.le_of_ble_eq_true rfl) ⟨Nat.zero_le _, Nat.zero_le _⟩ dX10_yard_57 (fun S_18 A_19 b_20 H locs qr_17 hM => ?_)
                obtain ⟨e3, ⟨fA_19, cA_19, hf1A_19, hc1A_19, htA_19⟩, hfA_19, hgS_18⟩ := qr_17
                subst e3
                refine lv_aload_n hx hb dX10_yard_60 rfl (lv_at hl 1 rfl) ?_
                refine q_get (o := 0) (ci := 10) (k := 2) (T := TX10) (v := .ref (ad 9)) C hM (qmem_10 E ad S_18 A_19 b (show qk 0 = 10 from by decide +kernel)) (by decide) rfl hi10 (by decide) hL2 rfl rfl dX10_yard_61 ?_
                refine q_get (o := 9) (ci := 9) (k := 0) (T := TX9) (v := .ref (ad 10)) C hM (qmem_9 E ad S_18 A_19 b (show qk 9 = 9 from by decide +kernel)) (by decide) rfl hi9 (by decide) hL3 rfl rfl dX10_yard_64 ?_
                refine lv_iload_n hx hb dX10_yard_67 rfl (lv_at hl 3 rfl) ?_
                refine q_iald (v := A_19 10 ka2) C hM (show qk 10 = 12 from by decide +kernel) (by rw [(show ql 10 = 12 from by decide +kernel)]; exact vp_nI (by omega) (by omega)) (by rw [nIc (by omega)]) dX10_yard_68 ?_
                refine lv_istore (lv' := [(5, .int (A_19 10 ka2)), (4, .int r_13), (0, .ref (ad 0)), (1, .int (nI ka1)), (2, .int (nI ka2)), (3, .int (nI ka3))]) hx hb dX10_yard_69 hl (by decide) rfl (fun ls hl => ?_)
                refine lv_aload_n hx hb dX10_yard_71 rfl (lv_at hl 2 rfl) ?_
                refine q_get (o := 0) (ci := 10) (k := 2) (T := TX10) (v := .ref (ad 9)) C hM (qmem_10 E ad S_18 A_19 b (show qk 0 = 10 from by decide +kernel)) (by decide) rfl hi10 (by decide) hL2 rfl rfl dX10_yard_72 ?_
                refine lv_aload_n hx hb dX10_yard_75 rfl (lv_at hl 2 rfl) ?_
                refine q_get (o := 0) (ci := 10) (k := 1) (T := TX10) (v := .ref (ad 3)) C hM (qmem_10 E ad S_18 A_19 b (show qk 0 = 10 from by decide +kernel)) (by decide) rfl hi10 (by decide) hL0 rfl rfl dX10_yard_76 ?_
                refine q_callVV (n := 1) (o := 9) (As := [.ref (ad 3)]) (rest := []) C hM hA (c_X9_copyFrom E ad l S_18 A_19 b 9 (show 9 ∈ qwL from by decide +kernel) 3 (show 3 ∈ qwL from by decide +kernel) (by omega)) (qmem_9 E ad S_18 A_19 b (show qk 9 = 9 from by decide +kernel)) (by decide) rfl gX10_yard_X9_copyFrom rfl rfl rfl (by decide +kernel) ⟨Nat.le_of_ble_eq_true rfl, Nat.le_of_ble_eq_true rfl⟩ rfl hl.1 rfl (Nat.le_of_ble_eq_true rfl) ⟨Nat.zero_le _, Nat.zero_le _⟩ dX10_yard_79 (fun S_22 A_23 b_24 H locs qr_21 hM => ?_)
                obtain ⟨e3, hwA_23, hfA_23, hsS_22, hgS_22⟩ := qr_21
                subst e3
                simp only [Nat.add_assoc, Nat.reduceAdd] at hwA_23 hfA_23
                refine lv_aload_n hx hb dX10_yard_82 rfl (lv_at hl 2 rfl) ?_
                refine q_get (o := 0) (ci := 10) (k := 2) (T := TX10) (v := .ref (ad 9)) C hM (qmem_10 E ad S_22 A_23 b (show qk 0 = 10 from by decide +kernel)) (by decide) rfl hi10 (by decide) hL2 rfl rfl dX10_yard_83 ?_
                refine q_get (o := 9) (ci := 9) (k := 1) (T := TX9) (v := .ref (ad 11)) C hM (qmem_9 E ad S_22 A_23 b (show qk 9 = 9 from by decide +kernel)) (by decide) rfl hi9 (by decide) hL4 rfl rfl dX10_yard_86 ?_
                refine lv_iload_n hx hb dX10_yard_89 rfl (lv_at hl 3 rfl) ?_
                refine lv_iload hx hb dX10_yard_90 (lv_at hl 1 rfl) ?_
                refine q_iast C hM (show qk 11 = 12 from by decide +kernel) (by rw [(show ql 11 = 6 from by decide +kernel)]; exact vp_nI (by omega) (by omega)) dX10_yard_92 (fun H locs hM => ?_)
                rw [nIc (by omega)] at hM
                obtain ⟨A_25, eA_25⟩ : ∃ zz, zz = q2 A_23 11 ka1 r_13 := ⟨_, rfl⟩
                rw [← eA_25] at hM
                refine lv_aload_n hx hb dX10_yard_93 rfl (lv_at hl 2 rfl) ?_
                refine q_get (o := 0) (ci := 10) (k := 2) (T := TX10) (v := .ref (ad 9)) C hM (qmem_10 E ad S_22 A_25 b (show qk 0 = 10 from by decide +kernel)) (by decide) rfl hi10 (by decide) hL2 rfl rfl dX10_yard_94 ?_
                refine lv_aload_n hx hb dX10_yard_97 rfl (lv_at hl 2 rfl) ?_
                refine q_get (o := 0) (ci := 10) (k := 9) (T := TX10) (v := .ref (ad p)) C hM (qmem_10 E ad S_22 A_25 b (show qk 0 = 10 from by decide +kernel)) (by decide) rfl hi10 (by decide) hL1 rfl (by rw [← hbp]; rfl) dX10_yard_98 ?_
                refine lv_iload_n hx hb dX10_yard_101 rfl (lv_at hl 5 rfl) ?_
                refine lv_aload_n hx hb dX10_yard_102 rfl (lv_at hl 2 rfl) ?_
                refine q_get (o := 0) (ci := 10) (k := 1) (T := TX10) (v := .ref (ad 3)) C hM (qmem_10 E ad S_22 A_25 b (show qk 0 = 10 from by decide +kernel)) (by decide) rfl hi10 (by decide) hL0 rfl rfl dX10_yard_103 ?_
                refine q_callVI (n := 0) (o := 3) (As := []) (rest := [.int (nI ka3), .ref (ad p), .ref (ad 9)]) C hM hA (c_X9_letPosts E ad l S_22 A_25 b 3 (show 3 ∈ qwL from by decide +kernel)) (qmem_9 E ad S_22 A_25 b (show qk 3 = 9 from by decide +kernel)) (by decide) rfl gX10_yard_X9_letPosts rfl rfl rfl (by decide +kernel) ⟨Nat.le_of_ble_eq_true rfl, Nat.le_of_ble_eq_true rfl⟩ rfl hl.1 rfl (Nat.le_of_ble_eq_true rfl) ⟨Nat.zero_le _, Nat.zero_le _⟩ dX10_yard_106 (fun r_26 S_27 A_28 b_29 H locs qr_26 hM => ?_)
                obtain ⟨⟨e1, e2, e3⟩, er_26⟩ := qr_26
                subst e1; subst e2; subst e3
                rw [show A_25 6 = A 6 from by rw [eA_25, q2_or _ _ (by omega), hfA_23 6 (by omega), hfA_19 6 (by omega)]] at er_26
                refine q_callVV (n := 3) (o := 9) (As := [.ref (ad p), .int (nI ka3), .int r_26]) (rest := []) C hM hA (c_X9_passHours E ad l S_22 A_25 b 9 (show 9 ∈ qwL from by decide +kernel) p hp ka3 r_26 nC ((show S_22 p 0 = S p 0 from by rw [hgS_22 p (by omega)]; rw [hgS_18 p (by omega)]).trans hC) (by omega) nP ((show S_22 p 4 = S p 4 from by rw [hgS_22 p (by omega)]; rw [hgS_18 p (by omega)]).trans hPo) (by omega) nW ((show S_22 p 6 = S p 6 from by rw [hgS_22 p (by omega)]; rw [hgS_18 p (by omega)]).trans hWi) (by omega) nH (hsS_22.2.1.trans (by rw [hgS_18 3 (by omega)]; exact hH)) (by omega) (by omega)) (qmem_9 E ad S_22 A_25 b (show qk 9 = 9 from by decide +kernel)) (by decide) rfl gX10_yard_X9_passHours rfl rfl rfl (by decide +kernel) ⟨Nat.le_of_ble_eq_true rfl, Nat.le_of_ble_eq_true rfl⟩ rfl hl.1 rfl (Nat.le_of_ble_eq_true rfl) ⟨Nat.zero_le _, Nat.zero_le _⟩ dX10_yard_109 (fun S_31 A_32 b_33 H locs qr_30 hM => ?_)
                obtain ⟨e3, htA_32, hfA_32, hgS_31⟩ := qr_30
                subst e3
                refine lv_aload_n hx hb dX10_yard_112 rfl (lv_at hl 2 rfl) ?_
                refine q_get (o := 0) (ci := 10) (k := 2) (T := TX10) (v := .ref (ad 9)) C hM (qmem_10 E ad S_31 A_32 b (show qk 0 = 10 from by decide +kernel)) (by decide) rfl hi10 (by decide) hL2 rfl rfl dX10_yard_113 ?_
                refine q_get (o := 9) (ci := 9) (k := 0) (T := TX9) (v := .ref (ad 10)) C hM (qmem_9 E ad S_31 A_32 b (show qk 9 = 9 from by decide +kernel)) (by decide) rfl hi9 (by decide) hL3 rfl rfl dX10_yard_116 ?_
                refine lv_iload_n hx hb dX10_yard_119 rfl (lv_at hl 4 rfl) ?_
                refine q_iald (v := A_32 10 ka2) C hM (show qk 10 = 12 from by decide +kernel) (by rw [(show ql 10 = 12 from by decide +kernel)]; exact vp_nI (by omega) (by omega)) (by rw [nIc (by omega)]) dX10_yard_120 ?_
                refine lv_iload hx hb dX10_yard_121 (lv_at hl 0 rfl) ?_
                refine lv_isub hx hb dX10_yard_123 ?_
                refine lv_sipush (v := 10000) hx hb dX10_yard_124 (by decide) ?_
                refine lv_iadd hx hb dX10_yard_127 ?_
                exact q_iret C hM dX10_yard_128 (by have hz := htA_32; simp only [Nat.reduceAdd] at hz; rw [show A_25 (p + 5) = A (p + 5) from by rw [eA_25, q2_or _ _ (by omega), hfA_23 (p + 5) (by omega), hfA_19 (p + 5) (by omega)], show A_25 (p + 6) = A (p + 6) from by rw [eA_25, q2_or _ _ (by omega), hfA_23 (p + 6) (by omega), hfA_19 (p + 6) (by omega)], er_26, show S_22 9 5 = S 3 5 from hsS_22.1.trans (by rw [hgS_18 3 (by omega)]), show S_22 9 6 = S 3 6 from hsS_22.2.1.trans (by rw [hgS_18 3 (by omega)]), show S_22 p 1 = S p 1 from by rw [hgS_22 p (by omega), hgS_18 p (by omega)]] at hz; exact ⟨rfl, by rw [qix_in hka1 (by omega)]; dsimp only [Option.elim]; rw [qix_in hka2 (by omega)]; dsimp only [Option.elim]; rw [qir_in hloka3 hhika3 (by omega)]; dsimp only [Option.elim]; rw [← er_13, if_neg c_50, qfst hz, (qpass_cong (f := A_25 10) (g := A 4) (c := A_25 11) (d := upd (A 5) ka1 r_13) (fun k hk => by rw [eA_25, q2_or _ _ (by omega), hwA_23.1 k (by omega), hfA_19 4 (by omega)]) (fun k hk => by rw [eA_25, q2_row]; by_cases hz2 : k = ka1; (simp [upd, hz2]); (simp only [upd, if_neg hz2]; rw [hwA_23.2.1 k (by omega), hfA_19 5 (by omega)])) ka3).1 ka2 hka2, qfst htA_19, (qpass_cong (fun k hk => hf1A_19 k (by omega)) (fun k hk => hc1A_19 k (by omega)) ka3).1 ka2 hka2], fun i hi => by rw [hfA_32 i (by omega), eA_25, q2_or _ _ (by omega), hfA_23 i (by omega), hfA_19 i (by omega)], fun i hi => by funext j; rw [hgS_31 i j (Or.inl hi), hgS_22 i hi, hgS_18 i hi]⟩)
              · skip
                refine lv_iconst (v := (-1)) hx hb dX10_yard_53 (by decide) ?_
                exact q_iret C hM dX10_yard_54 (by exact ⟨rfl, by rw [qix_in hka1 (by omega)]; dsimp only [Option.elim]; rw [qix_in hka2 (by omega)]; dsimp only [Option.elim]; rw [qir_in hloka3 hhika3 (by omega)]; dsimp only [Option.elim]; rw [← er_13, if_pos c_50], fun _ _ => rfl, fun _ _ => rfl⟩)
            · skip
              have c_26 : 1 = 0 := (nI_eq (a := 1) (b := 0) (by omega) (by omega)).mp c_26
              exact absurd c_26 (by decide)
          · skip
            rw [hzr_9] at er_9
            subst er_9
            refine lv_if_ne (tgt := 32) hx hb dX10_yard_26 (by decide) (fun c_26 => ?_) (fun c_26 => ?_)
            · skip
              have c_26 : ¬ (0 = 0) := fun z => c_26 ((nI_eq (a := 0) (b := 0) (by omega) (by omega)).mpr z)
              exact absurd rfl c_26
            · skip
              have c_26 : 0 = 0 := (nI_eq (a := 0) (b := 0) (by omega) (by omega)).mp c_26
              refine lv_ldc (v := (-1000000002)) hx hb C.2.2.2.1 hL5 dX10_yard_29 ?_
              exact q_iret C hM dX10_yard_31 (by exact ⟨rfl, by rw [qix_in hka1 (by omega)]; dsimp only [Option.elim]; rw [qix_in hka2 (by omega)]; dsimp only [Option.elim]; rw [qir_out hir_9] <;> rfl, fun _ _ => rfl, fun _ _ => rfl⟩)
        · skip
          have c_13 : 1 = 0 := (nI_eq (a := 1) (b := 0) (by omega) (by omega)).mp c_13
          exact absurd c_13 (by decide)
      · skip
        subst er_5
        refine lv_if_ne (tgt := 19) hx hb dX10_yard_13 (by decide) (fun c_13 => ?_) (fun c_13 => ?_)
        · skip
          have c_13 : ¬ (0 = 0) := fun z => c_13 ((nI_eq (a := 0) (b := 0) (by omega) (by omega)).mpr z)
          exact absurd rfl c_13
        · skip
          have c_13 : 0 = 0 := (nI_eq (a := 0) (b := 0) (by omega) (by omega)).mp c_13
          refine lv_ldc (v := (-1000000001)) hx hb C.2.2.2.1 hL6 dX10_yard_16 ?_
          exact q_iret C hM dX10_yard_18 (by exact ⟨rfl, by rw [qix_in hka1 (by omega)]; dsimp only [Option.elim]; rw [qix_out (by omega) hnoa2] <;> rfl, fun _ _ => rfl, fun _ _ => rfl⟩)
  · skip
    subst er_1
    refine lv_if_eq (tgt := 16) hx hb dX10_yard_5 (by decide) (fun c_5 => ?_) (fun c_5 => ?_)
    · skip
      have c_5 : 0 = 0 := (nI_eq (a := 0) (b := 0) (by omega) (by omega)).mp c_5
      refine lv_ldc (v := (-1000000001)) hx hb C.2.2.2.1 hL6 dX10_yard_16 ?_
      exact q_iret C hM dX10_yard_18 (by exact ⟨rfl, by rw [qix_out (by omega) hnoa1] <;> rfl, fun _ _ => rfl, fun _ _ => rfl⟩)
    · skip
      have c_5 : ¬ (0 = 0) := fun z => c_5 ((nI_eq (a := 0) (b := 0) (by omega) (by omega)).mpr z)
      exact absurd rfl c_5
