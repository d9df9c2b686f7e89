set_option maxHeartbeats 4000000 in
set_option maxRecDepth 100000 in
theorem c_X10_within (E : qE) (ad : Nat → Nat) (l : Launch) (S A : qA2) (b : qB) (a0 a1 a2 : Int32) : MI E ad l yX10_within wsX10_within { frames := 0, cells := 0, slots := 0, locals := 0 } [.int a0, .int a1, .int a2] S A b (fun r S' A' b' => (S = S' ∧ A = A' ∧ b = b') ∧ r = q01 (a1 ≤ a0 ∧ a0 ≤ a2)) := by
  refine MI.of (cc := cX10_within) (maxL := 3) (ret := some .boolean) RX10 rfl (by decide) rfl ?_
  intro pg e s m below meth cd C hM
  have hx := C.1
  have hb := C.2.1
  have hts := C.2.2.2.2.1
  have hA : ∀ q, s.heap.size ≤ q → qAr ad s.heap.size q := fun _ h => Or.inr h
  have hl := lv_entry ([.int a0, .int a1, .int a2]) (n := 3) (Nat.le_of_ble_eq_true rfl)
  rw [lg_entry_eq]
  generalize (lg_sl ([.int a0, .int a1, .int a2]) ++ List.replicate (3 - (lg_sl ([.int a0, .int a1, .int a2])).length) Slot.unset).toArray = ls at hl ⊢
  have hl : lv_has ls 3 [(0, .int a0), (1, .int a1), (2, .int a2)] := hl
  refine lv_iload_n hx hb dX10_within_0 rfl (lv_at hl 0 rfl) ?_
  refine lv_iload_n hx hb dX10_within_1 rfl (lv_at hl 1 rfl) ?_
  refine lv_icmp_lt (tgt := 14) hx hb dX10_within_2 (by decide) (fun c_2 => ?_) (fun c_2 => ?_)
  · skip
    refine lv_iconst (v := 0) hx hb dX10_within_14 (by decide) ?_
    exact q_zret C hM dX10_within_15 rfl (by exact ⟨⟨rfl, rfl, rfl⟩, (by rw [q01, if_neg (fun z => Int32.not_le.mpr c_2 z.1)])⟩)
  · skip
    refine lv_iload_n hx hb dX10_within_5 rfl (lv_at hl 0 rfl) ?_
    refine lv_iload_n hx hb dX10_within_6 rfl (lv_at hl 2 rfl) ?_
    refine lv_icmp_gt (tgt := 14) hx hb dX10_within_7 (by decide) (fun c_7 => ?_) (fun c_7 => ?_)
    · skip
      refine lv_iconst (v := 0) hx hb dX10_within_14 (by decide) ?_
      exact q_zret C hM dX10_within_15 rfl (by exact ⟨⟨rfl, rfl, rfl⟩, (by rw [q01, if_neg (fun z => Int32.not_le.mpr c_7 z.2)])⟩)
    · skip
      refine lv_iconst (v := 1) hx hb dX10_within_10 (by decide) ?_
      refine lv_goto (tgt := 15) hx hb dX10_within_11 (by decide) ?_
      exact q_zret C hM dX10_within_15 rfl (by exact ⟨⟨rfl, rfl, rfl⟩, (by rw [q01, if_pos ⟨Int32.not_lt.mp c_2, Int32.not_lt.mp c_7⟩])⟩)

set_option maxHeartbeats 4000000 in
set_option maxRecDepth 100000 in
theorem c_X10_isCell (E : qE) (ad : Nat → Nat) (l : Launch) (S A : qA2) (b : qB) (p : Nat) (hp : qpl p) (hbp : b.1 = p) (a1 : Int32) (nC : Nat) (hC : S p 0 = nI nC) (hCb : nC ≤ 12) : MI E ad l yX10_isCell wsX10_isCell { frames := 1, cells := 0, slots := 0, locals := 22 } [.ref (ad 0), .int a1] S A b (fun r S' A' b' => (S = S' ∧ A = A' ∧ b = b') ∧ ((r = 1 ∧ ∃ k, k < nC ∧ a1 = nI k) ∨ (r = 0 ∧ ∀ k, k < nC → ¬ a1 = nI k))) := by
  obtain ⟨⟨kp, kp1, kp2, kp3, kp4, kp5, kp6⟩, ⟨lp1, lp2, lp3, lp4, lp5, lp6⟩, bp, bp7⟩ := qpl_all hp
  refine MI.of (cc := cX10_isCell) (maxL := 2) (ret := some .boolean) RX10 rfl (by decide) rfl ?_
  intro pg e s m below meth cd C hM
  have hx := C.1
  have hb := C.2.1
  have hts := C.2.2.2.2.1
  have hA : ∀ q, s.heap.size ≤ q → qAr ad s.heap.size q := fun _ h => Or.inr h
  have hi5 : ∀ w ∈ u_ws RX5 TX5 13, w ∈ wsX10_isCell := by decide +kernel
  have hi10 : ∀ w ∈ u_ws RX10 TX10 11, w ∈ wsX10_isCell := by decide +kernel
  have hL0 := hts (.fieldLink RX10 71 "CrowFences" "plan" "LCrowFences$Plan;") (by decide +kernel)
  have hL1 := hts (.fieldLink RX10 113 "CrowFences$Plan" "cells" "I") (by decide +kernel)
  have hl := lv_entry ([.ref (ad 0), .int a1]) (n := 2) (Nat.le_of_ble_eq_true rfl)
  rw [lg_entry_eq]
  generalize (lg_sl ([.ref (ad 0), .int a1]) ++ List.replicate (2 - (lg_sl ([.ref (ad 0), .int a1])).length) Slot.unset).toArray = ls at hl ⊢
  have hl : lv_has ls 2 [(0, .ref (ad 0)), (1, .int a1)] := hl
  refine lv_iload_n hx hb dX10_isCell_0 rfl (lv_at hl 1 rfl) ?_
  refine lv_iconst (v := 0) hx hb dX10_isCell_1 (by decide) ?_
  refine lv_aload_n hx hb dX10_isCell_2 rfl (lv_at hl 0 rfl) ?_
  refine q_get (o := 0) (ci := 10) (k := 9) (T := TX10) (v := .ref (ad p)) C hM (qmem_10 E ad S A b (show qk 0 = 10 from by decide +kernel)) (by decide) rfl hi10 (by decide) hL0 rfl (by rw [← hbp]; rfl) dX10_isCell_3 ?_
  refine q_get (o := p) (ci := 5) (k := 0) (T := TX5) (v := .int (S p 0)) C hM (qmem_5 E ad S A b kp) (by omega) rfl hi5 (by decide) hL1 rfl rfl dX10_isCell_6 ?_
  refine lv_as (y := nI nC) hC ?_
  refine lv_iconst (v := 1) hx hb dX10_isCell_9 (by decide) ?_
  refine lv_isub hx hb dX10_isCell_10 ?_
  refine q_callSI (n := 3) (As := [.int a1, .int 0, .int ((nI nC) - 1)]) (rest := []) C hM hA (c_X10_within E ad l S A b a1 0 ((nI nC) - 1)) gX10_isCell_X10_within rfl rfl rfl (by decide +kernel) ⟨Nat.le_of_ble_eq_true rfl, Nat.le_of_ble_eq_true rfl⟩ rfl hl.1 rfl (Nat.le_of_ble_eq_true rfl) ⟨Nat.zero_le _, Nat.zero_le _⟩ dX10_isCell_11 (fun r_1 S_2 A_3 b_4 H locs qr_1 hM => ?_)
  obtain ⟨⟨e1, e2, e3⟩, er_1⟩ := qr_1
  subst e1; subst e2; subst e3
  · skip
    exact q_zret C hM dX10_isCell_14 (by rw [er_1]; exact q01_nar _) (by rcases q01_cases (0 ≤ a1 ∧ a1 ≤ nI nC - 1) with ⟨hz, hi⟩ | ⟨hz, hi⟩; (exact ⟨⟨rfl, rfl, rfl⟩, Or.inl ⟨er_1.trans hz, qin_lt (by omega) hi⟩⟩); (exact ⟨⟨rfl, rfl, rfl⟩, Or.inr ⟨er_1.trans hz, fun k hk e => hi (by rw [e]; exact qin_lt' (by omega) hk)⟩⟩))

set_option maxHeartbeats 4000000 in
set_option maxRecDepth 100000 in
theorem c_X10_isPost (E : qE) (ad : Nat → Nat) (l : Launch) (S A : qA2) (b : qB) (p : Nat) (hp : qpl p) (hbp : b.1 = p) (a1 : Int32) (nP : Nat) (hPo : S p 4 = nI nP) (hPb : nP ≤ 6) : MI E ad l yX10_isPost wsX10_isPost { frames := 1, cells := 0, slots := 0, locals := 22 } [.ref (ad 0), .int a1] S A b (fun r S' A' b' => (S = S' ∧ A = A' ∧ b = b') ∧ ((r = 1 ∧ ∃ k, k < nP ∧ a1 = nI k) ∨ (r = 0 ∧ ∀ k, k < nP → ¬ a1 = nI k))) := by
  obtain ⟨⟨kp, kp1, kp2, kp3, kp4, kp5, kp6⟩, ⟨lp1, lp2, lp3, lp4, lp5, lp6⟩, bp, bp7⟩ := qpl_all hp
  refine MI.of (cc := cX10_isPost) (maxL := 2) (ret := some .boolean) RX10 rfl (by decide) rfl ?_
  intro pg e s m below meth cd C hM
  have hx := C.1
  have hb := C.2.1
  have hts := C.2.2.2.2.1
  have hA : ∀ q, s.heap.size ≤ q → qAr ad s.heap.size q := fun _ h => Or.inr h
  have hi5 : ∀ w ∈ u_ws RX5 TX5 13, w ∈ wsX10_isPost := by decide +kernel
  have hi10 : ∀ w ∈ u_ws RX10 TX10 11, w ∈ wsX10_isPost := by decide +kernel
  have hL0 := hts (.fieldLink RX10 71 "CrowFences" "plan" "LCrowFences$Plan;") (by decide +kernel)
  have hL1 := hts (.fieldLink RX10 119 "CrowFences$Plan" "posts" "I") (by decide +kernel)
  have hl := lv_entry ([.ref (ad 0), .int a1]) (n := 2) (Nat.le_of_ble_eq_true rfl)
  rw [lg_entry_eq]
  generalize (lg_sl ([.ref (ad 0), .int a1]) ++ List.replicate (2 - (lg_sl ([.ref (ad 0), .int a1])).length) Slot.unset).toArray = ls at hl ⊢
  have hl : lv_has ls 2 [(0, .ref (ad 0)), (1, .int a1)] := hl
  refine lv_iload_n hx hb dX10_isPost_0 rfl (lv_at hl 1 rfl) ?_
  refine lv_iconst (v := 0) hx hb dX10_isPost_1 (by decide) ?_
  refine lv_aload_n hx hb dX10_isPost_2 rfl (lv_at hl 0 rfl) ?_
  refine q_get (o := 0) (ci := 10) (k := 9) (T := TX10) (v := .ref (ad p)) C hM (qmem_10 E ad S A b (show qk 0 = 10 from by decide +kernel)) (by decide) rfl hi10 (by decide) hL0 rfl (by rw [← hbp]; rfl) dX10_isPost_3 ?_
  refine q_get (o := p) (ci := 5) (k := 4) (T := TX5) (v := .int (S p 4)) C hM (qmem_5 E ad S A b kp) (by omega) rfl hi5 (by decide) hL1 rfl rfl dX10_isPost_6 ?_
  refine lv_as (y := nI nP) hPo ?_
  refine lv_iconst (v := 1) hx hb dX10_isPost_9 (by decide) ?_
  refine lv_isub hx hb dX10_isPost_10 ?_
  refine q_callSI (n := 3) (As := [.int a1, .int 0, .int ((nI nP) - 1)]) (rest := []) C hM hA (c_X10_within E ad l S A b a1 0 ((nI nP) - 1)) gX10_isPost_X10_within rfl rfl rfl (by decide +kernel) ⟨Nat.le_of_ble_eq_true rfl, Nat.le_of_ble_eq_true rfl⟩ rfl hl.1 rfl (Nat.le_of_ble_eq_true rfl) ⟨Nat.zero_le _, Nat.zero_le _⟩ dX10_isPost_11 (fun r_1 S_2 A_3 b_4 H locs qr_1 hM => ?_)
  obtain ⟨⟨e1, e2, e3⟩, er_1⟩ := qr_1
  subst e1; subst e2; subst e3
  · skip
    exact q_zret C hM dX10_isPost_14 (by rw [er_1]; exact q01_nar _) (by rcases q01_cases (0 ≤ a1 ∧ a1 ≤ nI nP - 1) with ⟨hz, hi⟩ | ⟨hz, hi⟩; (exact ⟨⟨rfl, rfl, rfl⟩, Or.inl ⟨er_1.trans hz, qin_lt (by omega) hi⟩⟩); (exact ⟨⟨rfl, rfl, rfl⟩, Or.inr ⟨er_1.trans hz, fun k hk e => hi (by rw [e]; exact qin_lt' (by omega) hk)⟩⟩))

set_option maxHeartbeats 4000000 in
set_option maxRecDepth 100000 in
theorem c_X10_isCrow (E : qE) (ad : Nat → Nat) (l : Launch) (S A : qA2) (b : qB) (p : Nat) (hp : qpl p) (hbp : b.1 = p) (a1 : Int32) (nK : Nat) (hK : S p 5 = nI nK) (hKb : nK ≤ 5) : MI E ad l yX10_isCrow wsX10_isCrow { frames := 1, cells := 0, slots := 0, locals := 22 } [.ref (ad 0), .int a1] S A b (fun r S' A' b' => (S = S' ∧ A = A' ∧ b = b') ∧ ((r = 1 ∧ ∃ k, k < nK ∧ a1 = nI k) ∨ (r = 0 ∧ ∀ k, k < nK → ¬ a1 = nI k))) := by
  obtain ⟨⟨kp, kp1, kp2, kp3, kp4, kp5, kp6⟩, ⟨lp1, lp2, lp3, lp4, lp5, lp6⟩, bp, bp7⟩ := qpl_all hp
  refine MI.of (cc := cX10_isCrow) (maxL := 2) (ret := some .boolean) RX10 rfl (by decide) rfl ?_
  intro pg e s m below meth cd C hM
  have hx := C.1
  have hb := C.2.1
  have hts := C.2.2.2.2.1
  have hA : ∀ q, s.heap.size ≤ q → qAr ad s.heap.size q := fun _ h => Or.inr h
  have hi5 : ∀ w ∈ u_ws RX5 TX5 13, w ∈ wsX10_isCrow := by decide +kernel
  have hi10 : ∀ w ∈ u_ws RX10 TX10 11, w ∈ wsX10_isCrow := by decide +kernel
  have hL0 := hts (.fieldLink RX10 71 "CrowFences" "plan" "LCrowFences$Plan;") (by decide +kernel)
  have hL1 := hts (.fieldLink RX10 122 "CrowFences$Plan" "crows" "I") (by decide +kernel)
  have hl := lv_entry ([.ref (ad 0), .int a1]) (n := 2) (Nat.le_of_ble_eq_true rfl)
  rw [lg_entry_eq]
  generalize (lg_sl ([.ref (ad 0), .int a1]) ++ List.replicate (2 - (lg_sl ([.ref (ad 0), .int a1])).length) Slot.unset).toArray = ls at hl ⊢
  have hl : lv_has ls 2 [(0, .ref (ad 0)), (1, .int a1)] := hl
  refine lv_iload_n hx hb dX10_isCrow_0 rfl (lv_at hl 1 rfl) ?_
  refine lv_iconst (v := 0) hx hb dX10_isCrow_1 (by decide) ?_
  refine lv_aload_n hx hb dX10_isCrow_2 rfl (lv_at hl 0 rfl) ?_
  refine q_get (o := 0) (ci := 10) (k := 9) (T := TX10) (v := .ref (ad p)) C hM (qmem_10 E ad S A b (show qk 0 = 10 from by decide +kernel)) (by decide) rfl hi10 (by decide) hL0 rfl (by rw [← hbp]; rfl) dX10_isCrow_3 ?_
  refine q_get (o := p) (ci := 5) (k := 5) (T := TX5) (v := .int (S p 5)) C hM (qmem_5 E ad S A b kp) (by omega) rfl hi5 (by decide) hL1 rfl rfl dX10_isCrow_6 ?_
  refine lv_as (y := nI nK) hK ?_
  refine lv_iconst (v := 1) hx hb dX10_isCrow_9 (by decide) ?_
  refine lv_isub hx hb dX10_isCrow_10 ?_
  refine q_callSI (n := 3) (As := [.int a1, .int 0, .int ((nI nK) - 1)]) (rest := []) C hM hA (c_X10_within E ad l S A b a1 0 ((nI nK) - 1)) gX10_isCrow_X10_within rfl rfl rfl (by decide +kernel) ⟨Nat.le_of_ble_eq_true rfl, Nat.le_of_ble_eq_true rfl⟩ rfl hl.1 rfl (Nat.le_of_ble_eq_true rfl) ⟨Nat.zero_le _, Nat.zero_le _⟩ dX10_isCrow_11 (fun r_1 S_2 A_3 b_4 H locs qr_1 hM => ?_)
  obtain ⟨⟨e1, e2, e3⟩, er_1⟩ := qr_1
  subst e1; subst e2; subst e3
  · skip
    exact q_zret C hM dX10_isCrow_14 (by rw [er_1]; exact q01_nar _) (by rcases q01_cases (0 ≤ a1 ∧ a1 ≤ nI nK - 1) with ⟨hz, hi⟩ | ⟨hz, hi⟩; (exact ⟨⟨rfl, rfl, rfl⟩, Or.inl ⟨er_1.trans hz, qin_lt (by omega) hi⟩⟩); (exact ⟨⟨rfl, rfl, rfl⟩, Or.inr ⟨er_1.trans hz, fun k hk e => hi (by rw [e]; exact qin_lt' (by omega) hk)⟩⟩))

set_option maxHeartbeats 4000000 in
set_option maxRecDepth 100000 in
theorem c_X10_refusalOfHours (E : qE) (ad : Nat → Nat) (l : Launch) (S A : qA2) (b : qB) (p : Nat) (hp : qpl p) (hbp : b.1 = p) (a1 : Int32) (nC : Nat) (hC : S p 0 = nI nC) (hCb : nC ≤ 12) : MI E ad l yX10_refusalOfHours wsX10_refusalOfHours { frames := 1, cells := 0, slots := 0, locals := 22 } [.ref (ad 0), .int a1] S A b (fun r S' A' b' => (S = S' ∧ A = A' ∧ b = b') ∧ r = qrefh a1 nC (S 3 6)) := by
  obtain ⟨⟨kp, kp1, kp2, kp3, kp4, kp5, kp6⟩, ⟨lp1, lp2, lp3, lp4, lp5, lp6⟩, bp, bp7⟩ := qpl_all hp
  refine MI.of (cc := cX10_refusalOfHours) (maxL := 2) (ret := some .int) RX10 rfl (by decide) rfl ?_
  intro pg e s m below meth cd C hM
  have hx := C.1
  have hb := C.2.1
  have hts := C.2.2.2.2.1
  have hA : ∀ q, s.heap.size ≤ q → qAr ad s.heap.size q := fun _ h => Or.inr h
  have hi5 : ∀ w ∈ u_ws RX5 TX5 13, w ∈ wsX10_refusalOfHours := by decide +kernel
  have hi9 : ∀ w ∈ u_ws RX9 TX9 8, w ∈ wsX10_refusalOfHours := by decide +kernel
  have hi10 : ∀ w ∈ u_ws RX10 TX10 11, w ∈ wsX10_refusalOfHours := by decide +kernel
  have hL0 := hts (.fieldLink RX10 71 "CrowFences" "plan" "LCrowFences$Plan;") (by decide +kernel)
  have hL1 := hts (.fieldLink RX10 113 "CrowFences$Plan" "cells" "I") (by decide +kernel)
  have hL2 := hts (.fieldLink RX10 19 "CrowFences" "now" "LCrowFences$Winter;") (by decide +kernel)
  have hL3 := hts (.fieldLink RX10 128 "CrowFences$Winter" "hours" "I") (by decide +kernel)
  have hL4 := hts (.constant RX10 91 (-1000000004)) (by decide +kernel)
  have hL5 := hts (.constant RX10 200 (-1000000003)) (by decide +kernel)
  have hL6 := hts (.constant RX10 86 (-1000000002)) (by decide +kernel)
  have hl := lv_entry ([.ref (ad 0), .int a1]) (n := 2) (Nat.le_of_ble_eq_true rfl)
  rw [lg_entry_eq]
  generalize (lg_sl ([.ref (ad 0), .int a1]) ++ List.replicate (2 - (lg_sl ([.ref (ad 0), .int a1])).length) Slot.unset).toArray = ls at hl ⊢
  have hl : lv_has ls 2 [(0, .ref (ad 0)), (1, .int a1)] := hl
  refine lv_iload_n hx hb dX10_refusalOfHours_0 rfl (lv_at hl 1 rfl) ?_
  refine lv_iconst (v := 1) hx hb dX10_refusalOfHours_1 (by decide) ?_
  refine lv_bipush (v := 60) hx hb dX10_refusalOfHours_2 (by decide) ?_
  refine q_callSI (n := 3) (As := [.int a1, .int 1, .int 60]) (rest := []) C hM hA (c_X10_within E ad l S A b a1 1 60) gX10_refusalOfHours_X10_within rfl rfl rfl (by decide +kernel) ⟨Nat.le_of_ble_eq_true rfl, Nat.le_of_ble_eq_true rfl⟩ rfl hl.1 rfl (Nat.le_of_ble_eq_true rfl) ⟨Nat.zero_le _, Nat.zero_le _⟩ dX10_refusalOfHours_4 (fun r_1 S_2 A_3 b_4 H locs qr_1 hM => ?_)
  obtain ⟨⟨e1, e2, e3⟩, er_1⟩ := qr_1
  subst e1; subst e2; subst e3
  rcases q01_cases (1 ≤ a1 ∧ a1 ≤ 60) with ⟨hzr_1, hir_1⟩ | ⟨hzr_1, hir_1⟩
  · skip
    rw [hzr_1] at er_1
    subst er_1
    obtain ⟨ka1, hloka1, hhika1, eka1⟩ := qin_of (l := 1) (h := 60) rfl rfl (by omega) (by omega) hir_1
    subst eka1
    refine lv_if_ne (tgt := 13) hx hb dX10_refusalOfHours_7 (by decide) (fun c_7 => ?_) (fun c_7 => ?_)
    · skip
      have c_7 : ¬ (1 = 0) := fun z => c_7 ((nI_eq (a := 1) (b := 0) (by omega) (by omega)).mpr z)
      refine lv_aload_n hx hb dX10_refusalOfHours_13 rfl (lv_at hl 0 rfl) ?_
      refine q_get (o := 0) (ci := 10) (k := 9) (T := TX10) (v := .ref (ad p)) C hM (qmem_10 E ad S A b (show qk 0 = 10 from by decide +kernel)) (by decide) rfl hi10 (by decide) hL0 rfl (by rw [← hbp]; rfl) dX10_refusalOfHours_14 ?_
      refine q_get (o := p) (ci := 5) (k := 0) (T := TX5) (v := .int (S p 0)) C hM (qmem_5 E ad S A b kp) (by omega) rfl hi5 (by decide) hL1 rfl rfl dX10_refusalOfHours_17 ?_
      refine lv_as (y := nI nC) hC ?_
      refine lv_if_ne (tgt := 26) hx hb dX10_refusalOfHours_20 (by decide) (fun c_20 => ?_) (fun c_20 => ?_)
      · skip
        have c_20 : ¬ (nC = 0) := fun z => c_20 ((nI_eq (a := nC) (b := 0) (by omega) (by omega)).mpr z)
        refine lv_aload_n hx hb dX10_refusalOfHours_26 rfl (lv_at hl 0 rfl) ?_
        refine q_get (o := 0) (ci := 10) (k := 1) (T := TX10) (v := .ref (ad 3)) C hM (qmem_10 E ad S A b (show qk 0 = 10 from by decide +kernel)) (by decide) rfl hi10 (by decide) hL2 rfl rfl dX10_refusalOfHours_27 ?_
        refine q_get (o := 3) (ci := 9) (k := 6) (T := TX9) (v := .int (S 3 6)) C hM (qmem_9 E ad S A b (show qk 3 = 9 from by decide +kernel)) (by decide) rfl hi9 (by decide) hL3 rfl rfl dX10_refusalOfHours_30 ?_
        refine lv_sipush (v := 9000) hx hb dX10_refusalOfHours_33 (by decide) ?_
        refine lv_icmp_le (tgt := 44) hx hb dX10_refusalOfHours_36 (by decide) (fun c_36 => ?_) (fun c_36 => ?_)
        · skip
          refine lv_iconst (v := 0) hx hb dX10_refusalOfHours_44 (by decide) ?_
          exact q_iret C hM dX10_refusalOfHours_45 (by exact ⟨⟨rfl, rfl, rfl⟩, (by unfold qrefh; rw [if_pos hir_1, if_neg c_20, if_pos c_36])⟩)
        · skip
          refine lv_ldc (v := (-1000000004)) hx hb C.2.2.2.1 hL4 dX10_refusalOfHours_39 ?_
          refine lv_goto (tgt := 45) hx hb dX10_refusalOfHours_41 (by decide) ?_
          exact q_iret C hM dX10_refusalOfHours_45 (by exact ⟨⟨rfl, rfl, rfl⟩, (by unfold qrefh; rw [if_pos hir_1, if_neg c_20, if_neg c_36])⟩)
      · skip
        have c_20 : nC = 0 := (nI_eq (a := nC) (b := 0) (by omega) (by omega)).mp c_20
        refine lv_ldc (v := (-1000000003)) hx hb C.2.2.2.1 hL5 dX10_refusalOfHours_23 ?_
        exact q_iret C hM dX10_refusalOfHours_25 (by exact ⟨⟨rfl, rfl, rfl⟩, (by unfold qrefh; rw [if_pos hir_1, if_pos c_20])⟩)
    · skip
      have c_7 : 1 = 0 := (nI_eq (a := 1) (b := 0) (by omega) (by omega)).mp c_7
      exact absurd c_7 (by decide)
  · skip
    rw [hzr_1] at er_1
    subst er_1
    refine lv_if_ne (tgt := 13) hx hb dX10_refusalOfHours_7 (by decide) (fun c_7 => ?_) (fun c_7 => ?_)
    · skip
      have c_7 : ¬ (0 = 0) := fun z => c_7 ((nI_eq (a := 0) (b := 0) (by omega) (by omega)).mpr z)
      exact absurd rfl c_7
    · skip
      have c_7 : 0 = 0 := (nI_eq (a := 0) (b := 0) (by omega) (by omega)).mp c_7
      refine lv_ldc (v := (-1000000002)) hx hb C.2.2.2.1 hL6 dX10_refusalOfHours_10 ?_
      exact q_iret C hM dX10_refusalOfHours_12 (by exact ⟨⟨rfl, rfl, rfl⟩, (by unfold qrefh; rw [if_neg hir_1])⟩)

set_option maxHeartbeats 4000000 in
set_option maxRecDepth 100000 in
theorem c_X10_tryHours (E : qE) (ad : Nat → Nat) (l : Launch) (S A : qA2) (b : qB) (p : Nat) (hp : qpl p) (hbp : b.1 = p) (n : Nat) (hn60 : n ≤ 100) (nC : Nat) (hC : S p 0 = nI nC) (hCb : nC ≤ 12) (nP : Nat) (hPo : S p 4 = nI nP) (hPb : nP ≤ 6) (nW : Nat) (hWi : S p 6 = nI nW) (hWb : nW ≤ 10) (nH : Nat) (hH : S 3 6 = nI nH) (hHb : nH ≤ 90000) : MV E ad l yX10_tryHours wsX10_tryHours { frames := 3, cells := 0, slots := 0, locals := 79 } [.ref (ad 0), .int (nI n)] S A b (fun S' A' b' => b = b' ∧ (∃ f c : Nat → Int32, (∀ k, k < 12 → f k = A 4 k) ∧ (∀ k, k < 6 → c k = A 5 k) ∧ (A' 10, S' 9 5, S' 9 6) = qpass nC nP nW (S p 1) c (A (p + 5)) (A (p + 6)) (qlets (A 6) 6) (f, S 3 5, S 3 6) n) ∧ (∀ i, (i ≤ 9 ∨ 14 < i) → A' i = A i) ∧ (∀ i, i ≠ 9 → S' i = S i)) := by
  obtain ⟨⟨kp, kp1, kp2, kp3, kp4, kp5, kp6⟩, ⟨lp1, lp2, lp3, lp4, lp5, lp6⟩, bp, bp7⟩ := qpl_all hp
  refine MV.of (cc := cX10_tryHours) (maxL := 2) (ret := none) RX10 rfl (by decide) rfl ?_
  intro pg e s m below meth cd C hM
  have hx := C.1
  have hb := C.2.1
  have hts := C.2.2.2.2.1
  have hA : ∀ q, s.heap.size ≤ q → qAr ad s.heap.size q := fun _ h => Or.inr h
  have hi10 : ∀ w ∈ u_ws RX10 TX10 11, w ∈ wsX10_tryHours := by decide +kernel
  have hL0 := hts (.fieldLink RX10 23 "CrowFences" "trial" "LCrowFences$Winter;") (by decide +kernel)
  have hL1 := hts (.fieldLink RX10 19 "CrowFences" "now" "LCrowFences$Winter;") (by decide +kernel)
  have hL2 := hts (.fieldLink RX10 71 "CrowFences" "plan" "LCrowFences$Plan;") (by decide +kernel)
  have hl := lv_entry ([.ref (ad 0), .int (nI n)]) (n := 2) (Nat.le_of_ble_eq_true rfl)
  rw [lg_entry_eq]
  generalize (lg_sl ([.ref (ad 0), .int (nI n)]) ++ List.replicate (2 - (lg_sl ([.ref (ad 0), .int (nI n)])).length) Slot.unset).toArray = ls at hl ⊢
  have hl : lv_has ls 2 [(0, .ref (ad 0)), (1, .int (nI n))] := hl
  refine lv_aload_n hx hb dX10_tryHours_0 rfl (lv_at hl 0 rfl) ?_
  refine q_get (o := 0) (ci := 10) (k := 2) (T := TX10) (v := .ref (ad 9)) C hM (qmem_10 E ad S A b (show qk 0 = 10 from by decide +kernel)) (by decide) rfl hi10 (by decide) hL0 rfl rfl dX10_tryHours_1 ?_
  refine lv_aload_n hx hb dX10_tryHours_4 rfl (lv_at hl 0 rfl) ?_
  refine q_get (o := 0) (ci := 10) (k := 1) (T := TX10) (v := .ref (ad 3)) C hM (qmem_10 E ad S A b (show qk 0 = 10 from by decide +kernel)) (by decide) rfl hi10 (by decide) hL1 rfl rfl dX10_tryHours_5 ?_
  refine q_callVV (n := 1) (o := 9) (As := [.ref (ad 3)]) (rest := []) C hM hA (c_X9_copyFrom E ad l S A b 9 (show 9 ∈ qwL from by decide +kernel) 3 (show 3 ∈ qwL from by decide +kernel) (by omega)) (qmem_9 E ad S A b (show qk 9 = 9 from by decide +kernel)) (by decide) rfl gX10_tryHours_X9_copyFrom rfl rfl rfl (by decide +kernel) ⟨Nat.le_of_ble_eq_true rfl, Nat.le_of_ble_eq_true rfl⟩ rfl hl.1 rfl (Nat.le_of_ble_eq_true rfl) ⟨Nat.zero_le _, Nat.zero_le _⟩ dX10_tryHours_8 (fun S_2 A_3 b_4 H locs qr_1 hM => ?_)
  obtain ⟨e3, hwA_3, hfA_3, hsS_2, hgS_2⟩ := qr_1
  subst e3
  simp only [Nat.add_assoc, Nat.reduceAdd] at hwA_3 hfA_3
  refine lv_aload_n hx hb dX10_tryHours_11 rfl (lv_at hl 0 rfl) ?_
  refine q_get (o := 0) (ci := 10) (k := 2) (T := TX10) (v := .ref (ad 9)) C hM (qmem_10 E ad S_2 A_3 b (show qk 0 = 10 from by decide +kernel)) (by decide) rfl hi10 (by decide) hL0 rfl rfl dX10_tryHours_12 ?_
  refine lv_aload_n hx hb dX10_tryHours_15 rfl (lv_at hl 0 rfl) ?_
  refine q_get (o := 0) (ci := 10) (k := 9) (T := TX10) (v := .ref (ad p)) C hM (qmem_10 E ad S_2 A_3 b (show qk 0 = 10 from by decide +kernel)) (by decide) rfl hi10 (by decide) hL2 rfl (by rw [← hbp]; rfl) dX10_tryHours_16 ?_
  refine lv_iload_n hx hb dX10_tryHours_19 rfl (lv_at hl 1 rfl) ?_
  refine lv_aload_n hx hb dX10_tryHours_20 rfl (lv_at hl 0 rfl) ?_
  refine q_get (o := 0) (ci := 10) (k := 1) (T := TX10) (v := .ref (ad 3)) C hM (qmem_10 E ad S_2 A_3 b (show qk 0 = 10 from by decide +kernel)) (by decide) rfl hi10 (by decide) hL1 rfl rfl dX10_tryHours_21 ?_
  refine q_callVI (n := 0) (o := 3) (As := []) (rest := [.int (nI n), .ref (ad p), .ref (ad 9)]) C hM hA (c_X9_letPosts E ad l S_2 A_3 b 3 (show 3 ∈ qwL from by decide +kernel)) (qmem_9 E ad S_2 A_3 b (show qk 3 = 9 from by decide +kernel)) (by decide) rfl gX10_tryHours_X9_letPosts rfl rfl rfl (by decide +kernel) ⟨Nat.le_of_ble_eq_true rfl, Nat.le_of_ble_eq_true rfl⟩ rfl hl.1 rfl (Nat.le_of_ble_eq_true rfl) ⟨Nat.zero_le _, Nat.zero_le _⟩ dX10_tryHours_24 (fun r_5 S_6 A_7 b_8 H locs qr_5 hM => ?_)
  obtain ⟨⟨e1, e2, e3⟩, er_5⟩ := qr_5
  subst e1; subst e2; subst e3
  rw [show A_3 6 = A 6 from by rw [hfA_3 6 (by omega)]] at er_5
  refine q_callVV (n := 3) (o := 9) (As := [.ref (ad p), .int (nI n), .int r_5]) (rest := []) C hM hA (c_X9_passHours E ad l S_2 A_3 b 9 (show 9 ∈ qwL from by decide +kernel) p hp n r_5 nC ((show S_2 p 0 = S p 0 from by rw [hgS_2 p (by omega)]).trans hC) (by omega) nP ((show S_2 p 4 = S p 4 from by rw [hgS_2 p (by omega)]).trans hPo) (by omega) nW ((show S_2 p 6 = S p 6 from by rw [hgS_2 p (by omega)]).trans hWi) (by omega) nH (hsS_2.2.1.trans hH) (by omega) (by omega)) (qmem_9 E ad S_2 A_3 b (show qk 9 = 9 from by decide +kernel)) (by decide) rfl gX10_tryHours_X9_passHours rfl rfl rfl (by decide +kernel) ⟨Nat.le_of_ble_eq_true rfl, Nat.le_of_ble_eq_true rfl⟩ rfl hl.1 rfl (Nat.le_of_ble_eq_true rfl) ⟨Nat.zero_le _, Nat.zero_le _⟩ dX10_tryHours_27 (fun S_10 A_11 b_12 H locs qr_9 hM => ?_)
  obtain ⟨e3, htA_11, hfA_11, hgS_10⟩ := qr_9
  subst e3
  exact q_vret C hM dX10_tryHours_30 (by have hz := htA_11; simp only [Nat.reduceAdd] at hz; rw [hsS_2.1, hsS_2.2.1, er_5, hgS_2 p (by omega), hfA_3 (p + 5) (by omega), hfA_3 (p + 6) (by omega)] at hz; exact ⟨rfl, ⟨A_3 10, A_3 11, hwA_3.1, hwA_3.2.1, hz⟩, fun i hi => by rw [hfA_11 i (by omega), hfA_3 i (by omega)], fun i hi => by funext j; rw [hgS_10 i j (Or.inl hi), hgS_2 i hi]⟩)
