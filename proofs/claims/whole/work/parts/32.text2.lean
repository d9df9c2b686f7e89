set_option maxHeartbeats 4000000 in
set_option maxRecDepth 100000 in
theorem c_X7_readWidth (E : qE) (ad : Nat → Nat) (l : Launch) (S A : qA2) (b : qB) (p : Nat) (hp : qpl p) (n a : Nat) (hln : S 1 1 = nI n) (hnb : n ≤ 240) (hat : S 1 4 = nI a) (hab : a ≤ 245) (hk0 : S 1 2 = 0) (han : a < n) (nC : Nat) (hC : S p 0 = nI nC) (hCb : nC ≤ 12) : MV E ad l yX7_readWidth wsX7_readWidth { frames := 2, cells := 0, slots := 0, locals := 46 } [.ref (ad 1), .ref (ad p)] S A b (fun S' A' b' => b = b' ∧ (∀ i, i ≠ 1 → i ≠ p → S' i = S i) ∧ S' 1 1 = nI n ∧ (∀ i, (i ≤ p ∨ p + 6 < i) → A' i = A i) ∧ ((∃ kd pl, (if nC = 0 then qbW qstX (A 2) n a (S p, fun j => A (p + j)) else .inl (3, a)) = .inl (kd, pl) ∧ (1 ≤ kd ∧ kd ≤ 4) ∧ S' 1 2 = nI kd ∧ S' 1 3 = nI pl ∧ ∃ a', a' ≤ n + 1 ∧ S' 1 4 = nI a') ∨ (∃ e P', (if nC = 0 then qbW qstX (A 2) n a (S p, fun j => A (p + j)) else .inl (3, a)) = .inr (e, P') ∧ e ≤ n ∧ S' 1 2 = 0 ∧ S' 1 3 = S 1 3 ∧ S' 1 4 = nI e ∧ (S' p, fun j => A' (p + j)) = P'))) := by
  obtain ⟨⟨kp, kp1, kp2, kp3, kp4, kp5, kp6⟩, ⟨lp1, lp2, lp3, lp4, lp5, lp6⟩, bp, bp7⟩ := qpl_all hp
  refine MV.of (cc := cX7_readWidth) (maxL := 2) (ret := none) RX7 rfl (by decide) rfl ?_
  intro pg e s m below meth cd C hM
  have hx := C.1
  have hb := C.2.1
  have hts := C.2.2.2.2.1
  have hA : ∀ q, s.heap.size ≤ q → qAr ad s.heap.size q := fun _ h => Or.inr h
  have hi5 : ∀ w ∈ u_ws RX5 TX5 13, w ∈ wsX7_readWidth := by decide +kernel
  have hL0 := hts (.fieldLink RX7 40 "CrowFences$Plan" "cells" "I") (by decide +kernel)
  have hL1 := hts (.fieldLink RX7 73 "CrowFences$Plan" "strongestHarmless" "I") (by decide +kernel)
  have hL2 := hts (.fieldLink RX7 76 "CrowFences$Plan" "deepestOpen" "I") (by decide +kernel)
  have hl := lv_entry ([.ref (ad 1), .ref (ad p)]) (n := 2) (Nat.le_of_ble_eq_true rfl)
  rw [lg_entry_eq]
  generalize (lg_sl ([.ref (ad 1), .ref (ad p)]) ++ List.replicate (2 - (lg_sl ([.ref (ad 1), .ref (ad p)])).length) Slot.unset).toArray = ls at hl ⊢
  have hl : lv_has ls 2 [(0, .ref (ad 1)), (1, .ref (ad p))] := hl
  refine lv_aload_n hx hb dX7_readWidth_0 rfl (lv_at hl 0 rfl) ?_
  refine lv_aload_n hx hb dX7_readWidth_1 rfl (lv_at hl 1 rfl) ?_
  refine q_get (o := p) (ci := 5) (k := 0) (T := TX5) (v := .int (S p 0)) C hM (qmem_5 E ad S A b kp) (by omega) rfl hi5 (by decide) hL0 rfl rfl dX7_readWidth_2 ?_
  refine lv_as (y := nI nC) hC ?_
  refine lv_if_ne (tgt := 12) hx hb dX7_readWidth_5 (by decide) (fun c_5 => ?_) (fun c_5 => ?_)
  · skip
    have c_5 : ¬ (nC = 0) := fun z => c_5 ((nI_eq (a := nC) (b := 0) (by omega) (by omega)).mpr z)
    refine lv_iconst (v := 0) hx hb dX7_readWidth_12 (by decide) ?_
    refine q_callVV (n := 1) (o := 1) (As := [.int 0]) (rest := []) C hM hA (c_X7_readWord E ad l S A b 0 n a hln (by omega) hat (by omega) hk0) (qmem_7 E ad S A b (show qk 1 = 7 from by decide +kernel)) (by decide) rfl gX7_readWidth_X7_readWord rfl rfl rfl (by decide +kernel) ⟨Nat.le_of_ble_eq_true rfl, Nat.le_of_ble_eq_true rfl⟩ rfl hl.1 rfl (Nat.le_of_ble_eq_true rfl) ⟨Nat.zero_le _, Nat.zero_le _⟩ dX7_readWidth_13 (fun S_2 A_3 b_4 H locs qr_1 hM => ?_)
    obtain ⟨eS_2, e2, e3⟩ := qr_1
    subst e2; subst e3
    rw [if_pos rfl] at eS_2
    obtain ⟨S_5, eS_5⟩ : ∃ zz, zz = q2 S 1 2 3 := ⟨_, rfl⟩
    rw [← eS_5] at eS_2
    obtain ⟨S_6, eS_6⟩ : ∃ zz, zz = q2 S_5 1 3 (nI a) := ⟨_, rfl⟩
    rw [← eS_6] at eS_2
    refine lv_aload_n hx hb dX7_readWidth_16 rfl (lv_at hl 1 rfl) ?_
    refine lv_aload_n hx hb dX7_readWidth_17 rfl (lv_at hl 0 rfl) ?_
    refine lv_iconst (v := 1) hx hb dX7_readWidth_18 (by decide) ?_
    refine lv_bipush (v := 12) hx hb dX7_readWidth_19 (by decide) ?_
    refine q_callVI (n := 2) (o := 1) (As := [.int 1, .int 12]) (rest := [.ref (ad p)]) C hM hA (c_X7_readNumber_k E ad l S_2 A b 1 12 (by rw [(show S_2 1 2 = 3 from by rw [eS_2, q2_k _ _ (by omega)]; rw [eS_6, q2_k _ _ (by omega)]; rw [eS_5]; exact q2_s _ _ _ _)]; exact (by decide))) (qmem_7 E ad S_2 A b (show qk 1 = 7 from by decide +kernel)) (by decide) rfl gX7_readWidth_X7_readNumber rfl rfl rfl (by decide +kernel) ⟨Nat.le_of_ble_eq_true rfl, Nat.le_of_ble_eq_true rfl⟩ rfl hl.1 rfl (Nat.le_of_ble_eq_true rfl) ⟨Nat.zero_le _, Nat.zero_le _⟩ dX7_readWidth_21 (fun r_7 S_8 A_9 b_10 H locs qr_7 hM => ?_)
    obtain ⟨⟨e1, e2, e3⟩, er_7⟩ := qr_7
    subst e1; subst e2; subst e3
    subst er_7
    · skip
      refine q_put (o := p) (ci := 5) (k := 0) (T := TX5) (ty := .int) (v := 0) C hM (qmem_5 E ad S_2 A b kp) (by omega) rfl hi5 tyX5 tyX5_ok nmX5 (by decide) hL0 rfl rfl (by decide +kernel) rfl rfl (Nat.le_of_ble_eq_true rfl) (qs_5_0 E ad S_2 A b kp 0) dX7_readWidth_24 (fun H locs hM => ?_)
      obtain ⟨S_11, eS_11⟩ : ∃ zz, zz = q2 S_2 p 0 0 := ⟨_, rfl⟩
      rw [← eS_11] at hM
      refine lv_aload_n hx hb dX7_readWidth_27 rfl (lv_at hl 1 rfl) ?_
      refine lv_aload_n hx hb dX7_readWidth_28 rfl (lv_at hl 0 rfl) ?_
      refine lv_iconst (v := 0) hx hb dX7_readWidth_29 (by decide) ?_
      refine lv_bipush (v := 9) hx hb dX7_readWidth_30 (by decide) ?_
      refine q_callVI (n := 2) (o := 1) (As := [.int 0, .int 9]) (rest := [.ref (ad p)]) C hM hA (c_X7_readNumber_k E ad l S_11 A b 0 9 (by rw [(show S_11 1 2 = 3 from by rw [eS_11, q2_o _ _ (by omega)]; rw [eS_2, q2_k _ _ (by omega)]; rw [eS_6, q2_k _ _ (by omega)]; rw [eS_5]; exact q2_s _ _ _ _)]; exact (by decide))) (qmem_7 E ad S_11 A b (show qk 1 = 7 from by decide +kernel)) (by decide) rfl gX7_readWidth_X7_readNumber rfl rfl rfl (by decide +kernel) ⟨Nat.le_of_ble_eq_true rfl, Nat.le_of_ble_eq_true rfl⟩ rfl hl.1 rfl (Nat.le_of_ble_eq_true rfl) ⟨Nat.zero_le _, Nat.zero_le _⟩ dX7_readWidth_32 (fun r_12 S_13 A_14 b_15 H locs qr_12 hM => ?_)
      obtain ⟨⟨e1, e2, e3⟩, er_12⟩ := qr_12
      subst e1; subst e2; subst e3
      subst er_12
      · skip
        refine q_put (o := p) (ci := 5) (k := 1) (T := TX5) (ty := .int) (v := 0) C hM (qmem_5 E ad S_11 A b kp) (by omega) rfl hi5 tyX5 tyX5_ok nmX5 (by decide) hL1 rfl rfl (by decide +kernel) rfl rfl (Nat.le_of_ble_eq_true rfl) (qs_5_1 E ad S_11 A b kp 0) dX7_readWidth_35 (fun H locs hM => ?_)
        obtain ⟨S_16, eS_16⟩ : ∃ zz, zz = q2 S_11 p 1 0 := ⟨_, rfl⟩
        rw [← eS_16] at hM
        refine lv_aload_n hx hb dX7_readWidth_38 rfl (lv_at hl 1 rfl) ?_
        refine lv_aload_n hx hb dX7_readWidth_39 rfl (lv_at hl 0 rfl) ?_
        refine lv_iconst (v := 0) hx hb dX7_readWidth_40 (by decide) ?_
        refine lv_bipush (v := 99) hx hb dX7_readWidth_41 (by decide) ?_
        refine q_callVI (n := 2) (o := 1) (As := [.int 0, .int 99]) (rest := [.ref (ad p)]) C hM hA (c_X7_readNumber_k E ad l S_16 A b 0 99 (by rw [(show S_16 1 2 = 3 from by rw [eS_16, q2_o _ _ (by omega)]; rw [eS_11, q2_o _ _ (by omega)]; rw [eS_2, q2_k _ _ (by omega)]; rw [eS_6, q2_k _ _ (by omega)]; rw [eS_5]; exact q2_s _ _ _ _)]; exact (by decide))) (qmem_7 E ad S_16 A b (show qk 1 = 7 from by decide +kernel)) (by decide) rfl gX7_readWidth_X7_readNumber rfl rfl rfl (by decide +kernel) ⟨Nat.le_of_ble_eq_true rfl, Nat.le_of_ble_eq_true rfl⟩ rfl hl.1 rfl (Nat.le_of_ble_eq_true rfl) ⟨Nat.zero_le _, Nat.zero_le _⟩ dX7_readWidth_43 (fun r_17 S_18 A_19 b_20 H locs qr_17 hM => ?_)
        obtain ⟨⟨e1, e2, e3⟩, er_17⟩ := qr_17
        subst e1; subst e2; subst e3
        subst er_17
        · skip
          refine q_put (o := p) (ci := 5) (k := 2) (T := TX5) (ty := .int) (v := 0) C hM (qmem_5 E ad S_16 A b kp) (by omega) rfl hi5 tyX5 tyX5_ok nmX5 (by decide) hL2 rfl rfl (by decide +kernel) rfl rfl (Nat.le_of_ble_eq_true rfl) (qs_5_2 E ad S_16 A b kp 0) dX7_readWidth_46 (fun H locs hM => ?_)
          obtain ⟨S_21, eS_21⟩ : ∃ zz, zz = q2 S_16 p 2 0 := ⟨_, rfl⟩
          rw [← eS_21] at hM
          exact q_vret C hM dX7_readWidth_49 (by exact ⟨rfl, (fun i h1 h2 => by rw [eS_21, q2_or _ _ h2, eS_16, q2_or _ _ h2, eS_11, q2_or _ _ h2, eS_2, q2_or _ _ h1, eS_6, q2_or _ _ h1, eS_5, q2_or _ _ h1]), ((show S_21 1 1 = S 1 1 from by rw [eS_21, q2_o _ _ (by omega)]; rw [eS_16, q2_o _ _ (by omega)]; rw [eS_11, q2_o _ _ (by omega)]; rw [eS_2, q2_k _ _ (by omega)]; rw [eS_6, q2_k _ _ (by omega)]; rw [eS_5, q2_k _ _ (by omega)]).trans hln), (fun _ _ => rfl), Or.inl ⟨3, a, by rw [if_neg c_5], by omega, (show S_21 1 2 = 3 from by rw [eS_21, q2_o _ _ (by omega)]; rw [eS_16, q2_o _ _ (by omega)]; rw [eS_11, q2_o _ _ (by omega)]; rw [eS_2, q2_k _ _ (by omega)]; rw [eS_6, q2_k _ _ (by omega)]; rw [eS_5]; exact q2_s _ _ _ _), (show S_21 1 3 = nI a from by rw [eS_21, q2_o _ _ (by omega)]; rw [eS_16, q2_o _ _ (by omega)]; rw [eS_11, q2_o _ _ (by omega)]; rw [eS_2, q2_k _ _ (by omega)]; rw [eS_6]; exact q2_s _ _ _ _), a + 1, by omega, (show S_21 1 4 = nI (a + 1) from by rw [eS_21, q2_o _ _ (by omega)]; rw [eS_16, q2_o _ _ (by omega)]; rw [eS_11, q2_o _ _ (by omega)]; rw [eS_2]; exact q2_s _ _ _ _)⟩⟩)
  · skip
    have c_5 : nC = 0 := (nI_eq (a := nC) (b := 0) (by omega) (by omega)).mp c_5
    refine lv_iconst (v := 1) hx hb dX7_readWidth_8 (by decide) ?_
    refine lv_goto (tgt := 13) hx hb dX7_readWidth_9 (by decide) ?_
    refine q_callVV (n := 1) (o := 1) (As := [.int 1]) (rest := []) C hM hA (c_X7_readWord E ad l S A b 1 n a hln (by omega) hat (by omega) hk0) (qmem_7 E ad S A b (show qk 1 = 7 from by decide +kernel)) (by decide) rfl gX7_readWidth_X7_readWord rfl rfl rfl (by decide +kernel) ⟨Nat.le_of_ble_eq_true rfl, Nat.le_of_ble_eq_true rfl⟩ rfl hl.1 rfl (Nat.le_of_ble_eq_true rfl) ⟨Nat.zero_le _, Nat.zero_le _⟩ dX7_readWidth_13 (fun S_23 A_24 b_25 H locs qr_22 hM => ?_)
    obtain ⟨eS_23, e2, e3⟩ := qr_22
    subst e2; subst e3
    rw [if_neg (by decide)] at eS_23
    refine lv_aload_n hx hb dX7_readWidth_16 rfl (lv_at hl 1 rfl) ?_
    refine lv_aload_n hx hb dX7_readWidth_17 rfl (lv_at hl 0 rfl) ?_
    refine lv_iconst (v := 1) hx hb dX7_readWidth_18 (by decide) ?_
    refine lv_bipush (v := 12) hx hb dX7_readWidth_19 (by decide) ?_
    refine q_callVI (n := 2) (o := 1) (As := [.int 1, .int 12]) (rest := [.ref (ad p)]) C hM hA (c_X7_readNumber E ad l S_23 A b 1 12 n (a + 1) ((show S_23 1 1 = S 1 1 from by rw [eS_23, q2_k _ _ (by omega)]).trans hln) (by omega) (show S_23 1 4 = nI (a + 1) from by rw [eS_23]; exact q2_s _ _ _ _) (by omega) ((show S_23 1 2 = S 1 2 from by rw [eS_23, q2_k _ _ (by omega)]).trans hk0) (by omega) (by omega)) (qmem_7 E ad S_23 A b (show qk 1 = 7 from by decide +kernel)) (by decide) rfl gX7_readWidth_X7_readNumber rfl rfl rfl (by decide +kernel) ⟨Nat.le_of_ble_eq_true rfl, Nat.le_of_ble_eq_true rfl⟩ rfl hl.1 rfl (Nat.le_of_ble_eq_true rfl) ⟨Nat.zero_le _, Nat.zero_le _⟩ dX7_readWidth_21 (fun r_26 S_27 A_28 b_29 H locs qr_26 hM => ?_)
    obtain ⟨⟨e2, e3⟩, hgS_27, h1S_27, hD⟩ := qr_26
    subst e2; subst e3
    rcases hD with ⟨kd30, pl30, hn30, hk30, er_26, h230, h330, ax30, hax30, h430⟩ | ⟨v30, en30, st30, hn30, hlo30, hhi30, hen30, er_26, h230, h330, h430, h530⟩
    · skip
      subst er_26
      refine q_put (o := p) (ci := 5) (k := 0) (T := TX5) (ty := .int) (v := 0) C hM (qmem_5 E ad S_27 A b kp) (by omega) rfl hi5 tyX5 tyX5_ok nmX5 (by decide) hL0 rfl rfl (by decide +kernel) rfl rfl (Nat.le_of_ble_eq_true rfl) (qs_5_0 E ad S_27 A b kp 0) dX7_readWidth_24 (fun H locs hM => ?_)
      obtain ⟨S_31, eS_31⟩ : ∃ zz, zz = q2 S_27 p 0 0 := ⟨_, rfl⟩
      rw [← eS_31] at hM
      refine lv_aload_n hx hb dX7_readWidth_27 rfl (lv_at hl 1 rfl) ?_
      refine lv_aload_n hx hb dX7_readWidth_28 rfl (lv_at hl 0 rfl) ?_
      refine lv_iconst (v := 0) hx hb dX7_readWidth_29 (by decide) ?_
      refine lv_bipush (v := 9) hx hb dX7_readWidth_30 (by decide) ?_
      refine q_callVI (n := 2) (o := 1) (As := [.int 0, .int 9]) (rest := [.ref (ad p)]) C hM hA (c_X7_readNumber_k E ad l S_31 A b 0 9 (by rw [(show S_31 1 2 = nI kd30 from by rw [eS_31, q2_o _ _ (by omega)]; exact h230)]; exact nI_ne0 (by omega) (by omega))) (qmem_7 E ad S_31 A b (show qk 1 = 7 from by decide +kernel)) (by decide) rfl gX7_readWidth_X7_readNumber rfl rfl rfl (by decide +kernel) ⟨Nat.le_of_ble_eq_true rfl, Nat.le_of_ble_eq_true rfl⟩ rfl hl.1 rfl (Nat.le_of_ble_eq_true rfl) ⟨Nat.zero_le _, Nat.zero_le _⟩ dX7_readWidth_32 (fun r_32 S_33 A_34 b_35 H locs qr_32 hM => ?_)
      obtain ⟨⟨e1, e2, e3⟩, er_32⟩ := qr_32
      subst e1; subst e2; subst e3
      subst er_32
      · skip
        refine q_put (o := p) (ci := 5) (k := 1) (T := TX5) (ty := .int) (v := 0) C hM (qmem_5 E ad S_31 A b kp) (by omega) rfl hi5 tyX5 tyX5_ok nmX5 (by decide) hL1 rfl rfl (by decide +kernel) rfl rfl (Nat.le_of_ble_eq_true rfl) (qs_5_1 E ad S_31 A b kp 0) dX7_readWidth_35 (fun H locs hM => ?_)
        obtain ⟨S_36, eS_36⟩ : ∃ zz, zz = q2 S_31 p 1 0 := ⟨_, rfl⟩
        rw [← eS_36] at hM
        refine lv_aload_n hx hb dX7_readWidth_38 rfl (lv_at hl 1 rfl) ?_
        refine lv_aload_n hx hb dX7_readWidth_39 rfl (lv_at hl 0 rfl) ?_
        refine lv_iconst (v := 0) hx hb dX7_readWidth_40 (by decide) ?_
        refine lv_bipush (v := 99) hx hb dX7_readWidth_41 (by decide) ?_
        refine q_callVI (n := 2) (o := 1) (As := [.int 0, .int 99]) (rest := [.ref (ad p)]) C hM hA (c_X7_readNumber_k E ad l S_36 A b 0 99 (by rw [(show S_36 1 2 = nI kd30 from by rw [eS_36, q2_o _ _ (by omega)]; rw [eS_31, q2_o _ _ (by omega)]; exact h230)]; exact nI_ne0 (by omega) (by omega))) (qmem_7 E ad S_36 A b (show qk 1 = 7 from by decide +kernel)) (by decide) rfl gX7_readWidth_X7_readNumber rfl rfl rfl (by decide +kernel) ⟨Nat.le_of_ble_eq_true rfl, Nat.le_of_ble_eq_true rfl⟩ rfl hl.1 rfl (Nat.le_of_ble_eq_true rfl) ⟨Nat.zero_le _, Nat.zero_le _⟩ dX7_readWidth_43 (fun r_37 S_38 A_39 b_40 H locs qr_37 hM => ?_)
        obtain ⟨⟨e1, e2, e3⟩, er_37⟩ := qr_37
        subst e1; subst e2; subst e3
        subst er_37
        · skip
          refine q_put (o := p) (ci := 5) (k := 2) (T := TX5) (ty := .int) (v := 0) C hM (qmem_5 E ad S_36 A b kp) (by omega) rfl hi5 tyX5 tyX5_ok nmX5 (by decide) hL2 rfl rfl (by decide +kernel) rfl rfl (Nat.le_of_ble_eq_true rfl) (qs_5_2 E ad S_36 A b kp 0) dX7_readWidth_46 (fun H locs hM => ?_)
          obtain ⟨S_41, eS_41⟩ : ∃ zz, zz = q2 S_36 p 2 0 := ⟨_, rfl⟩
          rw [← eS_41] at hM
          exact q_vret C hM dX7_readWidth_49 (by exact ⟨rfl, (fun i h1 h2 => by rw [eS_41, q2_or _ _ h2, eS_36, q2_or _ _ h2, eS_31, q2_or _ _ h2, hgS_27 i h1, eS_23, q2_or _ _ h1]), (show S_41 1 1 = nI n from by rw [eS_41, q2_o _ _ (by omega)]; rw [eS_36, q2_o _ _ (by omega)]; rw [eS_31, q2_o _ _ (by omega)]; exact h1S_27), (fun _ _ => rfl), Or.inl ⟨kd30, pl30, by rw [if_pos c_5]; simp only [qbW, qbind, hn30], by omega, (show S_41 1 2 = nI kd30 from by rw [eS_41, q2_o _ _ (by omega)]; rw [eS_36, q2_o _ _ (by omega)]; rw [eS_31, q2_o _ _ (by omega)]; exact h230), (show S_41 1 3 = nI pl30 from by rw [eS_41, q2_o _ _ (by omega)]; rw [eS_36, q2_o _ _ (by omega)]; rw [eS_31, q2_o _ _ (by omega)]; exact h330), ax30, by omega, (show S_41 1 4 = nI ax30 from by rw [eS_41, q2_o _ _ (by omega)]; rw [eS_36, q2_o _ _ (by omega)]; rw [eS_31, q2_o _ _ (by omega)]; exact h430)⟩⟩)
    · skip
      subst er_26
      refine q_put (o := p) (ci := 5) (k := 0) (T := TX5) (ty := .int) (v := nI v30) C hM (qmem_5 E ad S_27 A b kp) (by omega) rfl hi5 tyX5 tyX5_ok nmX5 (by decide) hL0 rfl rfl (by decide +kernel) rfl rfl (Nat.le_of_ble_eq_true rfl) (qs_5_0 E ad S_27 A b kp (nI v30)) dX7_readWidth_24 (fun H locs hM => ?_)
      obtain ⟨S_42, eS_42⟩ : ∃ zz, zz = q2 S_27 p 0 (nI v30) := ⟨_, rfl⟩
      rw [← eS_42] at hM
      refine lv_aload_n hx hb dX7_readWidth_27 rfl (lv_at hl 1 rfl) ?_
      refine lv_aload_n hx hb dX7_readWidth_28 rfl (lv_at hl 0 rfl) ?_
      refine lv_iconst (v := 0) hx hb dX7_readWidth_29 (by decide) ?_
      refine lv_bipush (v := 9) hx hb dX7_readWidth_30 (by decide) ?_
      refine q_callVI (n := 2) (o := 1) (As := [.int 0, .int 9]) (rest := [.ref (ad p)]) C hM hA (c_X7_readNumber E ad l S_42 A b 0 9 n en30 (show S_42 1 1 = nI n from by rw [eS_42, q2_o _ _ (by omega)]; exact h1S_27) (by omega) (show S_42 1 4 = nI en30 from by rw [eS_42, q2_o _ _ (by omega)]; exact h430) (by omega) (show S_42 1 2 = 0 from by rw [eS_42, q2_o _ _ (by omega)]; exact h230) (by omega) (by omega)) (qmem_7 E ad S_42 A b (show qk 1 = 7 from by decide +kernel)) (by decide) rfl gX7_readWidth_X7_readNumber rfl rfl rfl (by decide +kernel) ⟨Nat.le_of_ble_eq_true rfl, Nat.le_of_ble_eq_true rfl⟩ rfl hl.1 rfl (Nat.le_of_ble_eq_true rfl) ⟨Nat.zero_le _, Nat.zero_le _⟩ dX7_readWidth_32 (fun r_43 S_44 A_45 b_46 H locs qr_43 hM => ?_)
      obtain ⟨⟨e2, e3⟩, hgS_44, h1S_44, hD⟩ := qr_43
      subst e2; subst e3
      rcases hD with ⟨kd47, pl47, hn47, hk47, er_43, h247, h347, ax47, hax47, h447⟩ | ⟨v47, en47, st47, hn47, hlo47, hhi47, hen47, er_43, h247, h347, h447, h547⟩
      · skip
        subst er_43
        refine q_put (o := p) (ci := 5) (k := 1) (T := TX5) (ty := .int) (v := 0) C hM (qmem_5 E ad S_44 A b kp) (by omega) rfl hi5 tyX5 tyX5_ok nmX5 (by decide) hL1 rfl rfl (by decide +kernel) rfl rfl (Nat.le_of_ble_eq_true rfl) (qs_5_1 E ad S_44 A b kp 0) dX7_readWidth_35 (fun H locs hM => ?_)
        obtain ⟨S_48, eS_48⟩ : ∃ zz, zz = q2 S_44 p 1 0 := ⟨_, rfl⟩
        rw [← eS_48] at hM
        refine lv_aload_n hx hb dX7_readWidth_38 rfl (lv_at hl 1 rfl) ?_
        refine lv_aload_n hx hb dX7_readWidth_39 rfl (lv_at hl 0 rfl) ?_
        refine lv_iconst (v := 0) hx hb dX7_readWidth_40 (by decide) ?_
        refine lv_bipush (v := 99) hx hb dX7_readWidth_41 (by decide) ?_
        refine q_callVI (n := 2) (o := 1) (As := [.int 0, .int 99]) (rest := [.ref (ad p)]) C hM hA (c_X7_readNumber_k E ad l S_48 A b 0 99 (by rw [(show S_48 1 2 = nI kd47 from by rw [eS_48, q2_o _ _ (by omega)]; exact h247)]; exact nI_ne0 (by omega) (by omega))) (qmem_7 E ad S_48 A b (show qk 1 = 7 from by decide +kernel)) (by decide) rfl gX7_readWidth_X7_readNumber rfl rfl rfl (by decide +kernel) ⟨Nat.le_of_ble_eq_true rfl, Nat.le_of_ble_eq_true rfl⟩ rfl hl.1 rfl (Nat.le_of_ble_eq_true rfl) ⟨Nat.zero_le _, Nat.zero_le _⟩ dX7_readWidth_43 (fun r_49 S_50 A_51 b_52 H locs qr_49 hM => ?_)
        obtain ⟨⟨e1, e2, e3⟩, er_49⟩ := qr_49
        subst e1; subst e2; subst e3
        subst er_49
        · skip
          refine q_put (o := p) (ci := 5) (k := 2) (T := TX5) (ty := .int) (v := 0) C hM (qmem_5 E ad S_48 A b kp) (by omega) rfl hi5 tyX5 tyX5_ok nmX5 (by decide) hL2 rfl rfl (by decide +kernel) rfl rfl (Nat.le_of_ble_eq_true rfl) (qs_5_2 E ad S_48 A b kp 0) dX7_readWidth_46 (fun H locs hM => ?_)
          obtain ⟨S_53, eS_53⟩ : ∃ zz, zz = q2 S_48 p 2 0 := ⟨_, rfl⟩
          rw [← eS_53] at hM
          exact q_vret C hM dX7_readWidth_49 (by exact ⟨rfl, (fun i h1 h2 => by rw [eS_53, q2_or _ _ h2, eS_48, q2_or _ _ h2, hgS_44 i h1, eS_42, q2_or _ _ h2, hgS_27 i h1, eS_23, q2_or _ _ h1]), (show S_53 1 1 = nI n from by rw [eS_53, q2_o _ _ (by omega)]; rw [eS_48, q2_o _ _ (by omega)]; exact h1S_44), (fun _ _ => rfl), Or.inl ⟨kd47, pl47, by rw [if_pos c_5]; simp only [qbW, qbind, hn30, hn47], by omega, (show S_53 1 2 = nI kd47 from by rw [eS_53, q2_o _ _ (by omega)]; rw [eS_48, q2_o _ _ (by omega)]; exact h247), (show S_53 1 3 = nI pl47 from by rw [eS_53, q2_o _ _ (by omega)]; rw [eS_48, q2_o _ _ (by omega)]; exact h347), ax47, by omega, (show S_53 1 4 = nI ax47 from by rw [eS_53, q2_o _ _ (by omega)]; rw [eS_48, q2_o _ _ (by omega)]; exact h447)⟩⟩)
      · skip
        subst er_43
        refine q_put (o := p) (ci := 5) (k := 1) (T := TX5) (ty := .int) (v := nI v47) C hM (qmem_5 E ad S_44 A b kp) (by omega) rfl hi5 tyX5 tyX5_ok nmX5 (by decide) hL1 rfl rfl (by decide +kernel) rfl rfl (Nat.le_of_ble_eq_true rfl) (qs_5_1 E ad S_44 A b kp (nI v47)) dX7_readWidth_35 (fun H locs hM => ?_)
        obtain ⟨S_54, eS_54⟩ : ∃ zz, zz = q2 S_44 p 1 (nI v47) := ⟨_, rfl⟩
        rw [← eS_54] at hM
        refine lv_aload_n hx hb dX7_readWidth_38 rfl (lv_at hl 1 rfl) ?_
        refine lv_aload_n hx hb dX7_readWidth_39 rfl (lv_at hl 0 rfl) ?_
        refine lv_iconst (v := 0) hx hb dX7_readWidth_40 (by decide) ?_
        refine lv_bipush (v := 99) hx hb dX7_readWidth_41 (by decide) ?_
        refine q_callVI (n := 2) (o := 1) (As := [.int 0, .int 99]) (rest := [.ref (ad p)]) C hM hA (c_X7_readNumber E ad l S_54 A b 0 99 n en47 (show S_54 1 1 = nI n from by rw [eS_54, q2_o _ _ (by omega)]; exact h1S_44) (by omega) (show S_54 1 4 = nI en47 from by rw [eS_54, q2_o _ _ (by omega)]; exact h447) (by omega) (show S_54 1 2 = 0 from by rw [eS_54, q2_o _ _ (by omega)]; exact h247) (by omega) (by omega)) (qmem_7 E ad S_54 A b (show qk 1 = 7 from by decide +kernel)) (by decide) rfl gX7_readWidth_X7_readNumber rfl rfl rfl (by decide +kernel) ⟨Nat.le_of_ble_eq_true rfl, Nat.le_of_ble_eq_true rfl⟩ rfl hl.1 rfl (Nat.le_of_ble_eq_true rfl) ⟨Nat.zero_le _, Nat.zero_le _⟩ dX7_readWidth_43 (fun r_55 S_56 A_57 b_58 H locs qr_55 hM => ?_)
        obtain ⟨⟨e2, e3⟩, hgS_56, h1S_56, hD⟩ := qr_55
        subst e2; subst e3
        rcases hD with ⟨kd59, pl59, hn59, hk59, er_55, h259, h359, ax59, hax59, h459⟩ | ⟨v59, en59, st59, hn59, hlo59, hhi59, hen59, er_55, h259, h359, h459, h559⟩
        · skip
          subst er_55
          refine q_put (o := p) (ci := 5) (k := 2) (T := TX5) (ty := .int) (v := 0) C hM (qmem_5 E ad S_56 A b kp) (by omega) rfl hi5 tyX5 tyX5_ok nmX5 (by decide) hL2 rfl rfl (by decide +kernel) rfl rfl (Nat.le_of_ble_eq_true rfl) (qs_5_2 E ad S_56 A b kp 0) dX7_readWidth_46 (fun H locs hM => ?_)
          obtain ⟨S_60, eS_60⟩ : ∃ zz, zz = q2 S_56 p 2 0 := ⟨_, rfl⟩
          rw [← eS_60] at hM
          exact q_vret C hM dX7_readWidth_49 (by exact ⟨rfl, (fun i h1 h2 => by rw [eS_60, q2_or _ _ h2, hgS_56 i h1, eS_54, q2_or _ _ h2, hgS_44 i h1, eS_42, q2_or _ _ h2, hgS_27 i h1, eS_23, q2_or _ _ h1]), (show S_60 1 1 = nI n from by rw [eS_60, q2_o _ _ (by omega)]; exact h1S_56), (fun _ _ => rfl), Or.inl ⟨kd59, pl59, by rw [if_pos c_5]; simp only [qbW, qbind, hn30, hn47, hn59], by omega, (show S_60 1 2 = nI kd59 from by rw [eS_60, q2_o _ _ (by omega)]; exact h259), (show S_60 1 3 = nI pl59 from by rw [eS_60, q2_o _ _ (by omega)]; exact h359), ax59, by omega, (show S_60 1 4 = nI ax59 from by rw [eS_60, q2_o _ _ (by omega)]; exact h459)⟩⟩)
        · skip
          subst er_55
          refine q_put (o := p) (ci := 5) (k := 2) (T := TX5) (ty := .int) (v := nI v59) C hM (qmem_5 E ad S_56 A b kp) (by omega) rfl hi5 tyX5 tyX5_ok nmX5 (by decide) hL2 rfl rfl (by decide +kernel) rfl rfl (Nat.le_of_ble_eq_true rfl) (qs_5_2 E ad S_56 A b kp (nI v59)) dX7_readWidth_46 (fun H locs hM => ?_)
          obtain ⟨S_61, eS_61⟩ : ∃ zz, zz = q2 S_56 p 2 (nI v59) := ⟨_, rfl⟩
          rw [← eS_61] at hM
          exact q_vret C hM dX7_readWidth_49 (by exact ⟨rfl, (fun i h1 h2 => by rw [eS_61, q2_or _ _ h2, hgS_56 i h1, eS_54, q2_or _ _ h2, hgS_44 i h1, eS_42, q2_or _ _ h2, hgS_27 i h1, eS_23, q2_or _ _ h1]), (show S_61 1 1 = nI n from by rw [eS_61, q2_o _ _ (by omega)]; exact h1S_56), (fun _ _ => rfl), Or.inr ⟨en59, _, by rw [if_pos c_5]; simp only [qbW, qbind, hn30, hn47, hn59]; rfl, by omega, (show S_61 1 2 = 0 from by rw [eS_61, q2_o _ _ (by omega)]; exact h259), (show S_61 1 3 = S 1 3 from by rw [eS_61, q2_o _ _ (by omega)]; rw [h359]; rw [eS_54, q2_o _ _ (by omega)]; rw [h347]; rw [eS_42, q2_o _ _ (by omega)]; rw [h330]; rw [eS_23, q2_k _ _ (by omega)]), (show S_61 1 4 = nI en59 from by rw [eS_61, q2_o _ _ (by omega)]; exact h459), by rw [eS_61, q2_row, hgS_56 p (by omega), eS_54, q2_row, hgS_44 p (by omega), eS_42, q2_row, hgS_27 p (by omega), eS_23, q2_or _ _ (by omega)]⟩⟩)

set_option maxHeartbeats 4000000 in
set_option maxRecDepth 100000 in
theorem c_X7_readRoad (E : qE) (ad : Nat → Nat) (l : Launch) (S A : qA2) (b : qB) (p : Nat) (hp : qpl p) (n a : Nat) (hln : S 1 1 = nI n) (hnb : n ≤ 240) (hat : S 1 4 = nI a) (hab : a ≤ 245) (hk0 : S 1 2 = 0) (han : a < n) (nC : Nat) (hC : S p 0 = nI nC) (hCb : nC ≤ 12) (hC1 : 1 ≤ nC) : MV E ad l yX7_readRoad wsX7_readRoad { frames := 2, cells := 0, slots := 0, locals := 46 } [.ref (ad 1), .ref (ad p)] S A b (fun S' A' b' => b = b' ∧ (∀ i, i ≠ 1 → i ≠ p → S' i = S i) ∧ S' 1 1 = nI n ∧ (∀ i, (i ≤ p ∨ p + 6 < i) → A' i = A i) ∧ ((∃ kd pl, qbR qstX (A 2) n a nC (S p, fun j => A (p + j)) = .inl (kd, pl) ∧ (1 ≤ kd ∧ kd ≤ 4) ∧ S' 1 2 = nI kd ∧ S' 1 3 = nI pl ∧ ∃ a', a' ≤ n + 1 ∧ S' 1 4 = nI a') ∨ (∃ e P', qbR qstX (A 2) n a nC (S p, fun j => A (p + j)) = .inr (e, P') ∧ e ≤ n ∧ S' 1 2 = 0 ∧ S' 1 3 = S 1 3 ∧ S' 1 4 = nI e ∧ (S' p, fun j => A' (p + j)) = P'))) := by
  obtain ⟨⟨kp, kp1, kp2, kp3, kp4, kp5, kp6⟩, ⟨lp1, lp2, lp3, lp4, lp5, lp6⟩, bp, bp7⟩ := qpl_all hp
  refine MV.of (cc := cX7_readRoad) (maxL := 3) (ret := none) RX7 rfl (by decide) rfl ?_
  intro pg e s m below meth cd C hM
  have hx := C.1
  have hb := C.2.1
  have hts := C.2.2.2.2.1
  have hA : ∀ q, s.heap.size ≤ q → qAr ad s.heap.size q := fun _ h => Or.inr h
  have hi5 : ∀ w ∈ u_ws RX5 TX5 13, w ∈ wsX7_readRoad := by decide +kernel
  have hi7 : ∀ w ∈ u_ws RX7 TX7 6, w ∈ wsX7_readRoad := by decide +kernel
  have hL0 := hts (.fieldLink RX7 40 "CrowFences$Plan" "cells" "I") (by decide +kernel)
  have hL1 := hts (.fieldLink RX7 27 "CrowFences$Text" "faultKind" "I") (by decide +kernel)
  have hL2 := hts (.fieldLink RX7 86 "CrowFences$Plan" "road" "I") (by decide +kernel)
  have hL3 := hts (.fieldLink RX7 83 "CrowFences$Text" "numberAt" "I") (by decide +kernel)
  have hl := lv_entry ([.ref (ad 1), .ref (ad p)]) (n := 3) (Nat.le_of_ble_eq_true rfl)
  rw [lg_entry_eq]
  generalize (lg_sl ([.ref (ad 1), .ref (ad p)]) ++ List.replicate (3 - (lg_sl ([.ref (ad 1), .ref (ad p)])).length) Slot.unset).toArray = ls at hl ⊢
  have hl : lv_has ls 3 [(0, .ref (ad 1)), (1, .ref (ad p))] := hl
  refine lv_aload_n hx hb dX7_readRoad_0 rfl (lv_at hl 0 rfl) ?_
  refine lv_iconst (v := 1) hx hb dX7_readRoad_1 (by decide) ?_
  refine q_callVV (n := 1) (o := 1) (As := [.int 1]) (rest := []) C hM hA (c_X7_readWord E ad l S A b 1 n a hln (by omega) hat (by omega) hk0) (qmem_7 E ad S A b (show qk 1 = 7 from by decide +kernel)) (by decide) rfl gX7_readRoad_X7_readWord rfl rfl rfl (by decide +kernel) ⟨Nat.le_of_ble_eq_true rfl, Nat.le_of_ble_eq_true rfl⟩ rfl hl.1 rfl (Nat.le_of_ble_eq_true rfl) ⟨Nat.zero_le _, Nat.zero_le _⟩ dX7_readRoad_2 (fun S_2 A_3 b_4 H locs qr_1 hM => ?_)
  obtain ⟨eS_2, e2, e3⟩ := qr_1
  subst e2; subst e3
  rw [if_neg (by decide)] at eS_2
  refine lv_aload_n hx hb dX7_readRoad_5 rfl (lv_at hl 0 rfl) ?_
  refine lv_iconst (v := 0) hx hb dX7_readRoad_6 (by decide) ?_
  refine lv_aload_n hx hb dX7_readRoad_7 rfl (lv_at hl 1 rfl) ?_
  refine q_get (o := p) (ci := 5) (k := 0) (T := TX5) (v := .int (S p 0)) C hM (qmem_5 E ad S_2 A b kp) (by omega) rfl hi5 (by decide) hL0 rfl (congrArg (fun z => some (Value.int z)) (show S_2 p 0 = S p 0 from by rw [eS_2, q2_o _ _ (by omega)])) dX7_readRoad_8 ?_
  refine lv_as (y := nI nC) hC ?_
  refine lv_iconst (v := 1) hx hb dX7_readRoad_11 (by decide) ?_
  refine lv_isub hx hb dX7_readRoad_12 ?_
  refine lv_as (y := nI (nC - 1)) (pk_sub (a := nC) (b := 1) (by omega)) ?_
  refine q_callVI (n := 2) (o := 1) (As := [.int 0, .int (nI (nC - 1))]) (rest := []) C hM hA (c_X7_readNumber E ad l S_2 A b 0 (nC - 1) n (a + 1) ((show S_2 1 1 = S 1 1 from by rw [eS_2, q2_k _ _ (by omega)]).trans hln) (by omega) (show S_2 1 4 = nI (a + 1) from by rw [eS_2]; exact q2_s _ _ _ _) (by omega) ((show S_2 1 2 = S 1 2 from by rw [eS_2, q2_k _ _ (by omega)]).trans hk0) (by omega) (by omega)) (qmem_7 E ad S_2 A b (show qk 1 = 7 from by decide +kernel)) (by decide) rfl gX7_readRoad_X7_readNumber rfl rfl rfl (by decide +kernel) ⟨Nat.le_of_ble_eq_true rfl, Nat.le_of_ble_eq_true rfl⟩ rfl hl.1 rfl (Nat.le_of_ble_eq_true rfl) ⟨Nat.zero_le _, Nat.zero_le _⟩ dX7_readRoad_13 (fun r_5 S_6 A_7 b_8 H locs qr_5 hM => ?_)
  obtain ⟨⟨e2, e3⟩, hgS_6, h1S_6, hD⟩ := qr_5
  subst e2; subst e3
  rcases hD with ⟨kd9, pl9, hn9, hk9, er_5, h29, h39, ax9, hax9, h49⟩ | ⟨v9, en9, st9, hn9, hlo9, hhi9, hen9, er_5, h29, h39, h49, h59⟩
  · skip
    subst er_5
    refine lv_istore_n (lv' := [(2, .int 0), (0, .ref (ad 1)), (1, .ref (ad p))]) hx hb dX7_readRoad_16 rfl hl (by decide) rfl (fun ls hl => ?_)
    refine lv_aload_n hx hb dX7_readRoad_17 rfl (lv_at hl 1 rfl) ?_
    refine q_get (o := 1) (ci := 7) (k := 2) (T := TX7) (v := .int (nI kd9)) C hM (qmem_7 E ad S_6 A b (show qk 1 = 7 from by decide +kernel)) (by decide) rfl hi7 (by decide) hL1 rfl (congrArg (fun z => some (Value.int z)) (show S_6 1 2 = nI kd9 from by exact h29)) dX7_readRoad_18 ?_
    refine lv_if_ne (tgt := 41) hx hb dX7_readRoad_21 (by decide) (fun c_21 => ?_) (fun c_21 => ?_)
    · skip
      have c_21 : ¬ (kd9 = 0) := fun z => c_21 ((nI_eq (a := kd9) (b := 0) (by omega) (by omega)).mpr z)
      refine lv_aload_n hx hb dX7_readRoad_41 rfl (lv_at hl 2 rfl) ?_
      refine lv_dup hx hb dX7_readRoad_42 rfl ?_
      refine q_get (o := p) (ci := 5) (k := 3) (T := TX5) (v := .int (S p 3)) C hM (qmem_5 E ad S_6 A b kp) (by omega) rfl hi5 (by decide) hL2 rfl (congrArg (fun z => some (Value.int z)) (show S_6 p 3 = S p 3 from by rw [hgS_6 p (by omega)]; rw [eS_2, q2_o _ _ (by omega)])) dX7_readRoad_43 ?_
      refine lv_iconst (v := 1) hx hb dX7_readRoad_46 (by decide) ?_
      refine lv_iload_n hx hb dX7_readRoad_47 rfl (lv_at hl 0 rfl) ?_
      refine lv_ishl hx hb dX7_readRoad_48 ?_
      refine lv_ior hx hb dX7_readRoad_49 ?_
      refine lv_topi (fun v_10 ev_10 => ?_)
      refine q_put (o := p) (ci := 5) (k := 3) (T := TX5) (ty := .int) (v := v_10) C hM (qmem_5 E ad S_6 A b kp) (by omega) rfl hi5 tyX5 tyX5_ok nmX5 (by decide) hL2 rfl rfl (by decide +kernel) rfl rfl (Nat.le_of_ble_eq_true rfl) (qs_5_3 E ad S_6 A b kp v_10) dX7_readRoad_50 (fun H locs hM => ?_)
      obtain ⟨S_11, eS_11⟩ : ∃ zz, zz = q2 S_6 p 3 v_10 := ⟨_, rfl⟩
      rw [← eS_11] at hM
      exact q_vret C hM dX7_readRoad_53 (by exact ⟨rfl, (fun i h1 h2 => by rw [eS_11, q2_or _ _ h2, hgS_6 i h1, eS_2, q2_or _ _ h1]), (show S_11 1 1 = nI n from by rw [eS_11, q2_o _ _ (by omega)]; exact h1S_6), (fun _ _ => rfl), Or.inl ⟨kd9, pl9, by simp only [qbR, qbind, hn9], by omega, (show S_11 1 2 = nI kd9 from by rw [eS_11, q2_o _ _ (by omega)]; exact h29), (show S_11 1 3 = nI pl9 from by rw [eS_11, q2_o _ _ (by omega)]; exact h39), ax9, by omega, (show S_11 1 4 = nI ax9 from by rw [eS_11, q2_o _ _ (by omega)]; exact h49)⟩⟩)
    · skip
      have c_21 : kd9 = 0 := (nI_eq (a := kd9) (b := 0) (by omega) (by omega)).mp c_21
      omega
  · skip
    subst er_5
    refine lv_istore_n (lv' := [(2, .int (nI v9)), (0, .ref (ad 1)), (1, .ref (ad p))]) hx hb dX7_readRoad_16 rfl hl (by decide) rfl (fun ls hl => ?_)
    refine lv_aload_n hx hb dX7_readRoad_17 rfl (lv_at hl 1 rfl) ?_
    refine q_get (o := 1) (ci := 7) (k := 2) (T := TX7) (v := .int 0) C hM (qmem_7 E ad S_6 A b (show qk 1 = 7 from by decide +kernel)) (by decide) rfl hi7 (by decide) hL1 rfl (congrArg (fun z => some (Value.int z)) (show S_6 1 2 = 0 from by exact h29)) dX7_readRoad_18 ?_
    refine lv_if_ne (tgt := 41) hx hb dX7_readRoad_21 (by decide) (fun c_21 => ?_) (fun c_21 => ?_)
    · skip
      have c_21 : ¬ (0 = 0) := fun z => c_21 ((nI_eq (a := 0) (b := 0) (by omega) (by omega)).mpr z)
      exact absurd rfl c_21
    · skip
      have c_21 : 0 = 0 := (nI_eq (a := 0) (b := 0) (by omega) (by omega)).mp c_21
      refine lv_aload_n hx hb dX7_readRoad_24 rfl (lv_at hl 2 rfl) ?_
      refine lv_iload_n hx hb dX7_readRoad_25 rfl (lv_at hl 0 rfl) ?_
      refine q_callVI (n := 1) (o := p) (As := [.int (nI v9)]) (rest := []) C hM hA (c_X5_isRoad E ad l S_6 A b p hp (nI v9)) (qmem_5 E ad S_6 A b kp) (by omega) rfl gX7_readRoad_X5_isRoad rfl rfl rfl (by decide +kernel) ⟨Nat.le_of_ble_eq_true rfl, Nat.le_of_ble_eq_true rfl⟩ rfl hl.1 rfl (Nat.le_of_ble_eq_true rfl) ⟨Nat.zero_le _, Nat.zero_le _⟩ dX7_readRoad_26 (fun r_12 S_13 A_14 b_15 H locs qr_12 hM => ?_)
      obtain ⟨⟨e1, e2, e3⟩, er_12⟩ := qr_12
      subst e1; subst e2; subst e3
      rw [show S_6 p 3 = S p 3 from by rw [hgS_6 p (by omega), eS_2, q2_o _ _ (by omega)]] at er_12
      refine lv_if_eq (tgt := 41) hx hb dX7_readRoad_29 (by decide) (fun c_29 => ?_) (fun c_29 => ?_)
      · skip
        refine lv_aload_n hx hb dX7_readRoad_41 rfl (lv_at hl 2 rfl) ?_
        refine lv_dup hx hb dX7_readRoad_42 rfl ?_
        refine q_get (o := p) (ci := 5) (k := 3) (T := TX5) (v := .int (S p 3)) C hM (qmem_5 E ad S_6 A b kp) (by omega) rfl hi5 (by decide) hL2 rfl (congrArg (fun z => some (Value.int z)) (show S_6 p 3 = S p 3 from by rw [hgS_6 p (by omega)]; rw [eS_2, q2_o _ _ (by omega)])) dX7_readRoad_43 ?_
        refine lv_iconst (v := 1) hx hb dX7_readRoad_46 (by decide) ?_
        refine lv_iload_n hx hb dX7_readRoad_47 rfl (lv_at hl 0 rfl) ?_
        refine lv_ishl hx hb dX7_readRoad_48 ?_
        refine lv_ior hx hb dX7_readRoad_49 ?_
        refine lv_topi (fun v_16 ev_16 => ?_)
        refine q_put (o := p) (ci := 5) (k := 3) (T := TX5) (ty := .int) (v := v_16) C hM (qmem_5 E ad S_6 A b kp) (by omega) rfl hi5 tyX5 tyX5_ok nmX5 (by decide) hL2 rfl rfl (by decide +kernel) rfl rfl (Nat.le_of_ble_eq_true rfl) (qs_5_3 E ad S_6 A b kp v_16) dX7_readRoad_50 (fun H locs hM => ?_)
        obtain ⟨S_17, eS_17⟩ : ∃ zz, zz = q2 S_6 p 3 v_16 := ⟨_, rfl⟩
        rw [← eS_17] at hM
        exact q_vret C hM dX7_readRoad_53 (by have hrd : qtb (S p 3) (nI v9) = 0 := (by rw [er_12, q01_eq0] at c_29; exact Classical.not_not.mp c_29); exact ⟨rfl, (fun i h1 h2 => by rw [eS_17, q2_or _ _ h2, hgS_6 i h1, eS_2, q2_or _ _ h1]), (show S_17 1 1 = nI n from by rw [eS_17, q2_o _ _ (by omega)]; exact h1S_6), (fun _ _ => rfl), Or.inr ⟨en9, _, by simp only [qbR, qbind, hn9]; rw [if_pos hrd], by omega, (show S_17 1 2 = 0 from by rw [eS_17, q2_o _ _ (by omega)]; exact h29), (show S_17 1 3 = S 1 3 from by rw [eS_17, q2_o _ _ (by omega)]; rw [h39]; rw [eS_2, q2_k _ _ (by omega)]), (show S_17 1 4 = nI en9 from by rw [eS_17, q2_o _ _ (by omega)]; exact h49), by rw [eS_17, q2_row, hgS_6 p (by omega), eS_2, q2_or _ _ (by omega), ev_16]; rfl⟩⟩)
      · skip
        refine lv_aload_n hx hb dX7_readRoad_32 rfl (lv_at hl 1 rfl) ?_
        refine lv_iconst (v := 4) hx hb dX7_readRoad_33 (by decide) ?_
        refine lv_aload_n hx hb dX7_readRoad_34 rfl (lv_at hl 1 rfl) ?_
        refine q_get (o := 1) (ci := 7) (k := 5) (T := TX7) (v := .int (nI st9)) C hM (qmem_7 E ad S_6 A b (show qk 1 = 7 from by decide +kernel)) (by decide) rfl hi7 (by decide) hL3 rfl (congrArg (fun z => some (Value.int z)) (show S_6 1 5 = nI st9 from by exact h59)) dX7_readRoad_35 ?_
        refine q_callVV (n := 2) (o := 1) (As := [.int 4, .int (nI st9)]) (rest := []) C hM hA (c_X7_refuse E ad l S_6 A b 4 (nI st9) (show S_6 1 2 = 0 from by exact h29)) (qmem_7 E ad S_6 A b (show qk 1 = 7 from by decide +kernel)) (by decide) rfl gX7_readRoad_X7_refuse rfl rfl rfl (by decide +kernel) ⟨Nat.le_of_ble_eq_true rfl, Nat.le_of_ble_eq_true rfl⟩ rfl hl.1 rfl (Nat.le_of_ble_eq_true rfl) ⟨Nat.zero_le _, Nat.zero_le _⟩ dX7_readRoad_38 (fun S_19 A_20 b_21 H locs qr_18 hM => ?_)
        obtain ⟨eS_19, e2, e3⟩ := qr_18
        subst e2; subst e3
        obtain ⟨S_22, eS_22⟩ : ∃ zz, zz = q2 S_6 1 2 4 := ⟨_, rfl⟩
        rw [← eS_22] at eS_19
        refine lv_aload_n hx hb dX7_readRoad_41 rfl (lv_at hl 2 rfl) ?_
        refine lv_dup hx hb dX7_readRoad_42 rfl ?_
        refine q_get (o := p) (ci := 5) (k := 3) (T := TX5) (v := .int (S p 3)) C hM (qmem_5 E ad S_19 A b kp) (by omega) rfl hi5 (by decide) hL2 rfl (congrArg (fun z => some (Value.int z)) (show S_19 p 3 = S p 3 from by rw [eS_19, q2_o _ _ (by omega)]; rw [eS_22, q2_o _ _ (by omega)]; rw [hgS_6 p (by omega)]; rw [eS_2, q2_o _ _ (by omega)])) dX7_readRoad_43 ?_
        refine lv_iconst (v := 1) hx hb dX7_readRoad_46 (by decide) ?_
        refine lv_iload_n hx hb dX7_readRoad_47 rfl (lv_at hl 0 rfl) ?_
        refine lv_ishl hx hb dX7_readRoad_48 ?_
        refine lv_ior hx hb dX7_readRoad_49 ?_
        refine lv_topi (fun v_23 ev_23 => ?_)
        refine q_put (o := p) (ci := 5) (k := 3) (T := TX5) (ty := .int) (v := v_23) C hM (qmem_5 E ad S_19 A b kp) (by omega) rfl hi5 tyX5 tyX5_ok nmX5 (by decide) hL2 rfl rfl (by decide +kernel) rfl rfl (Nat.le_of_ble_eq_true rfl) (qs_5_3 E ad S_19 A b kp v_23) dX7_readRoad_50 (fun H locs hM => ?_)
        obtain ⟨S_24, eS_24⟩ : ∃ zz, zz = q2 S_19 p 3 v_23 := ⟨_, rfl⟩
        rw [← eS_24] at hM
        exact q_vret C hM dX7_readRoad_53 (by have hrd : ¬ qtb (S p 3) (nI v9) = 0 := (by rw [er_12, q01_eq0] at c_29; exact fun z => c_29 (fun q => q z)); exact ⟨rfl, (fun i h1 h2 => by rw [eS_24, q2_or _ _ h2, eS_19, q2_or _ _ h1, eS_22, q2_or _ _ h1, hgS_6 i h1, eS_2, q2_or _ _ h1]), (show S_24 1 1 = nI n from by rw [eS_24, q2_o _ _ (by omega)]; rw [eS_19, q2_k _ _ (by omega)]; rw [eS_22, q2_k _ _ (by omega)]; exact h1S_6), (fun _ _ => rfl), Or.inl ⟨4, st9, by simp only [qbR, qbind, hn9]; rw [if_neg hrd], by omega, (show S_24 1 2 = 4 from by rw [eS_24, q2_o _ _ (by omega)]; rw [eS_19, q2_k _ _ (by omega)]; rw [eS_22]; exact q2_s _ _ _ _), (show S_24 1 3 = nI st9 from by rw [eS_24, q2_o _ _ (by omega)]; rw [eS_19]; exact q2_s _ _ _ _), en9, by omega, (show S_24 1 4 = nI en9 from by rw [eS_24, q2_o _ _ (by omega)]; rw [eS_19, q2_k _ _ (by omega)]; rw [eS_22, q2_k _ _ (by omega)]; exact h49)⟩⟩)

set_option maxHeartbeats 4000000 in
set_option maxRecDepth 100000 in
theorem c_X7_readPost (E : qE) (ad : Nat → Nat) (l : Launch) (S A : qA2) (b : qB) (p : Nat) (hp : qpl p) (n a : Nat) (hln : S 1 1 = nI n) (hnb : n ≤ 240) (hat : S 1 4 = nI a) (hab : a ≤ 245) (hk0 : S 1 2 = 0) (han : a < n) (nC : Nat) (hC : S p 0 = nI nC) (hCb : nC ≤ 12) (hC1 : 1 ≤ nC) (nP : Nat) (hPo : S p 4 = nI nP) (hPb : nP ≤ 6) : MV E ad l yX7_readPost wsX7_readPost { frames := 2, cells := 0, slots := 0, locals := 46 } [.ref (ad 1), .ref (ad p)] S A b (fun S' A' b' => b = b' ∧ (∀ i, i ≠ 1 → i ≠ p → S' i = S i) ∧ S' 1 1 = nI n ∧ (∀ i, (i ≤ p ∨ p + 6 < i) → A' i = A i) ∧ ((∃ kd pl, (if nP < 6 then qbP qstX (A 2) n a nC nP (S p, fun j => A (p + j)) else .inl (3, a)) = .inl (kd, pl) ∧ (1 ≤ kd ∧ kd ≤ 4) ∧ S' 1 2 = nI kd ∧ S' 1 3 = nI pl ∧ ∃ a', a' ≤ n + 1 ∧ S' 1 4 = nI a') ∨ (∃ e P', (if nP < 6 then qbP qstX (A 2) n a nC nP (S p, fun j => A (p + j)) else .inl (3, a)) = .inr (e, P') ∧ e ≤ n ∧ S' 1 2 = 0 ∧ S' 1 3 = S 1 3 ∧ S' 1 4 = nI e ∧ (S' p, fun j => A' (p + j)) = P'))) := by
  obtain ⟨⟨kp, kp1, kp2, kp3, kp4, kp5, kp6⟩, ⟨lp1, lp2, lp3, lp4, lp5, lp6⟩, bp, bp7⟩ := qpl_all hp
  refine MV.of (cc := cX7_readPost) (maxL := 4) (ret := none) RX7 rfl (by decide) rfl ?_
  intro pg e s m below meth cd C hM
  have hx := C.1
  have hb := C.2.1
  have hts := C.2.2.2.2.1
  have hA : ∀ q, s.heap.size ≤ q → qAr ad s.heap.size q := fun _ h => Or.inr h
  have hi5 : ∀ w ∈ u_ws RX5 TX5 13, w ∈ wsX7_readPost := by decide +kernel
  have hi7 : ∀ w ∈ u_ws RX7 TX7 6, w ∈ wsX7_readPost := by decide +kernel
  have hL0 := hts (.fieldLink RX7 89 "CrowFences$Plan" "posts" "I") (by decide +kernel)
  have hL1 := hts (.fieldLink RX7 40 "CrowFences$Plan" "cells" "I") (by decide +kernel)
  have hL2 := hts (.fieldLink RX7 27 "CrowFences$Text" "faultKind" "I") (by decide +kernel)
  have hL3 := hts (.fieldLink RX7 95 "CrowFences$Plan" "cellOf" "[I") (by decide +kernel)
  have hL4 := hts (.fieldLink RX7 98 "CrowFences$Plan" "view" "[I") (by decide +kernel)
  have hL5 := hts (.fieldLink RX7 83 "CrowFences$Text" "numberAt" "I") (by decide +kernel)
  have hl := lv_entry ([.ref (ad 1), .ref (ad p)]) (n := 4) (Nat.le_of_ble_eq_true rfl)
  rw [lg_entry_eq]
  generalize (lg_sl ([.ref (ad 1), .ref (ad p)]) ++ List.replicate (4 - (lg_sl ([.ref (ad 1), .ref (ad p)])).length) Slot.unset).toArray = ls at hl ⊢
  have hl : lv_has ls 4 [(0, .ref (ad 1)), (1, .ref (ad p))] := hl
  refine lv_aload_n hx hb dX7_readPost_0 rfl (lv_at hl 0 rfl) ?_
  refine lv_aload_n hx hb dX7_readPost_1 rfl (lv_at hl 1 rfl) ?_
  refine q_get (o := p) (ci := 5) (k := 4) (T := TX5) (v := .int (S p 4)) C hM (qmem_5 E ad S A b kp) (by omega) rfl hi5 (by decide) hL0 rfl rfl dX7_readPost_2 ?_
  refine lv_as (y := nI nP) hPo ?_
  refine lv_bipush (v := 6) hx hb dX7_readPost_5 (by decide) ?_
  refine lv_icmp_ge (tgt := 14) hx hb dX7_readPost_7 (by decide) (fun c_7 => ?_) (fun c_7 => ?_)
  · skip
    have c_7 : 6 ≤ nP := (nI_leI (a := 6) (b := nP) (by omega) (by omega)).mp c_7
    refine lv_iconst (v := 0) hx hb dX7_readPost_14 (by decide) ?_
    refine q_callVV (n := 1) (o := 1) (As := [.int 0]) (rest := []) C hM hA (c_X7_readWord E ad l S A b 0 n a hln (by omega) hat (by omega) hk0) (qmem_7 E ad S A b (show qk 1 = 7 from by decide +kernel)) (by decide) rfl gX7_readPost_X7_readWord rfl rfl rfl (by decide +kernel) ⟨Nat.le_of_ble_eq_true rfl, Nat.le_of_ble_eq_true rfl⟩ rfl hl.1 rfl (Nat.le_of_ble_eq_true rfl) ⟨Nat.zero_le _, Nat.zero_le _⟩ dX7_readPost_15 (fun S_2 A_3 b_4 H locs qr_1 hM => ?_)
    obtain ⟨eS_2, e2, e3⟩ := qr_1
    subst e2; subst e3
    rw [if_pos rfl] at eS_2
    obtain ⟨S_5, eS_5⟩ : ∃ zz, zz = q2 S 1 2 3 := ⟨_, rfl⟩
    rw [← eS_5] at eS_2
    obtain ⟨S_6, eS_6⟩ : ∃ zz, zz = q2 S_5 1 3 (nI a) := ⟨_, rfl⟩
    rw [← eS_6] at eS_2
    refine lv_aload_n hx hb dX7_readPost_18 rfl (lv_at hl 0 rfl) ?_
    refine lv_iconst (v := 0) hx hb dX7_readPost_19 (by decide) ?_
    refine lv_aload_n hx hb dX7_readPost_20 rfl (lv_at hl 1 rfl) ?_
    refine q_get (o := p) (ci := 5) (k := 0) (T := TX5) (v := .int (S p 0)) C hM (qmem_5 E ad S_2 A b kp) (by omega) rfl hi5 (by decide) hL1 rfl (congrArg (fun z => some (Value.int z)) (show S_2 p 0 = S p 0 from by rw [eS_2, q2_o _ _ (by omega)]; rw [eS_6, q2_o _ _ (by omega)]; rw [eS_5, q2_o _ _ (by omega)])) dX7_readPost_21 ?_
    refine lv_as (y := nI nC) hC ?_
    refine lv_iconst (v := 1) hx hb dX7_readPost_24 (by decide) ?_
    refine lv_isub hx hb dX7_readPost_25 ?_
    refine lv_as (y := nI (nC - 1)) (pk_sub (a := nC) (b := 1) (by omega)) ?_
    refine q_callVI (n := 2) (o := 1) (As := [.int 0, .int (nI (nC - 1))]) (rest := []) C hM hA (c_X7_readNumber_k E ad l S_2 A b 0 (nI (nC - 1)) (by rw [(show S_2 1 2 = 3 from by rw [eS_2, q2_k _ _ (by omega)]; rw [eS_6, q2_k _ _ (by omega)]; rw [eS_5]; exact q2_s _ _ _ _)]; exact (by decide))) (qmem_7 E ad S_2 A b (show qk 1 = 7 from by decide +kernel)) (by decide) rfl gX7_readPost_X7_readNumber rfl rfl rfl (by decide +kernel) ⟨Nat.le_of_ble_eq_true rfl, Nat.le_of_ble_eq_true rfl⟩ rfl hl.1 rfl (Nat.le_of_ble_eq_true rfl) ⟨Nat.zero_le _, Nat.zero_le _⟩ dX7_readPost_26 (fun r_7 S_8 A_9 b_10 H locs qr_7 hM => ?_)
    obtain ⟨⟨e1, e2, e3⟩, er_7⟩ := qr_7
    subst e1; subst e2; subst e3
    subst er_7
    · skip
      refine lv_istore_n (lv' := [(2, .int 0), (0, .ref (ad 1)), (1, .ref (ad p))]) hx hb dX7_readPost_29 rfl hl (by decide) rfl (fun ls hl => ?_)
      refine lv_aload_n hx hb dX7_readPost_30 rfl (lv_at hl 1 rfl) ?_
      refine q_get (o := 1) (ci := 7) (k := 2) (T := TX7) (v := .int 3) C hM (qmem_7 E ad S_2 A b (show qk 1 = 7 from by decide +kernel)) (by decide) rfl hi7 (by decide) hL2 rfl (congrArg (fun z => some (Value.int z)) (show S_2 1 2 = 3 from by rw [eS_2, q2_k _ _ (by omega)]; rw [eS_6, q2_k _ _ (by omega)]; rw [eS_5]; exact q2_s _ _ _ _)) dX7_readPost_31 ?_
      refine lv_if_ne (tgt := 54) hx hb dX7_readPost_34 (by decide) (fun c_34 => ?_) (fun c_34 => ?_)
      · skip
        have c_34 : ¬ (3 = 0) := fun z => c_34 ((nI_eq (a := 3) (b := 0) (by omega) (by omega)).mpr z)
        refine lv_aload_n hx hb dX7_readPost_54 rfl (lv_at hl 1 rfl) ?_
        refine lv_iconst (v := 0) hx hb dX7_readPost_55 (by decide) ?_
        refine lv_bipush (v := 9) hx hb dX7_readPost_56 (by decide) ?_
        refine q_callVI (n := 2) (o := 1) (As := [.int 0, .int 9]) (rest := []) C hM hA (c_X7_readNumber_k E ad l S_2 A b 0 9 (by rw [(show S_2 1 2 = 3 from by rw [eS_2, q2_k _ _ (by omega)]; rw [eS_6, q2_k _ _ (by omega)]; rw [eS_5]; exact q2_s _ _ _ _)]; exact (by decide))) (qmem_7 E ad S_2 A b (show qk 1 = 7 from by decide +kernel)) (by decide) rfl gX7_readPost_X7_readNumber rfl rfl rfl (by decide +kernel) ⟨Nat.le_of_ble_eq_true rfl, Nat.le_of_ble_eq_true rfl⟩ rfl hl.1 rfl (Nat.le_of_ble_eq_true rfl) ⟨Nat.zero_le _, Nat.zero_le _⟩ dX7_readPost_58 (fun r_11 S_12 A_13 b_14 H locs qr_11 hM => ?_)
        obtain ⟨⟨e1, e2, e3⟩, er_11⟩ := qr_11
        subst e1; subst e2; subst e3
        subst er_11
        · skip
          refine lv_istore_n (lv' := [(3, .int 0), (2, .int 0), (0, .ref (ad 1)), (1, .ref (ad p))]) hx hb dX7_readPost_61 rfl hl (by decide) rfl (fun ls hl => ?_)
          refine lv_aload_n hx hb dX7_readPost_62 rfl (lv_at hl 2 rfl) ?_
          refine q_get (o := 1) (ci := 7) (k := 2) (T := TX7) (v := .int 3) C hM (qmem_7 E ad S_2 A b (show qk 1 = 7 from by decide +kernel)) (by decide) rfl hi7 (by decide) hL2 rfl (congrArg (fun z => some (Value.int z)) (show S_2 1 2 = 3 from by rw [eS_2, q2_k _ _ (by omega)]; rw [eS_6, q2_k _ _ (by omega)]; rw [eS_5]; exact q2_s _ _ _ _)) dX7_readPost_63 ?_
          refine lv_if_ne (tgt := 99) hx hb dX7_readPost_66 (by decide) (fun c_66 => ?_) (fun c_66 => ?_)
          · skip
            have c_66 : ¬ (3 = 0) := fun z => c_66 ((nI_eq (a := 3) (b := 0) (by omega) (by omega)).mpr z)
            exact q_vret C hM dX7_readPost_99 (by exact ⟨rfl, (fun i h1 h2 => by rw [eS_2, q2_or _ _ h1, eS_6, q2_or _ _ h1, eS_5, q2_or _ _ h1]), ((show S_2 1 1 = S 1 1 from by rw [eS_2, q2_k _ _ (by omega)]; rw [eS_6, q2_k _ _ (by omega)]; rw [eS_5, q2_k _ _ (by omega)]).trans hln), (fun _ _ => rfl), Or.inl ⟨3, a, by rw [if_neg (show ¬ nP < 6 by omega)], by omega, (show S_2 1 2 = 3 from by rw [eS_2, q2_k _ _ (by omega)]; rw [eS_6, q2_k _ _ (by omega)]; rw [eS_5]; exact q2_s _ _ _ _), (show S_2 1 3 = nI a from by rw [eS_2, q2_k _ _ (by omega)]; rw [eS_6]; exact q2_s _ _ _ _), a + 1, by omega, (show S_2 1 4 = nI (a + 1) from by rw [eS_2]; exact q2_s _ _ _ _)⟩⟩)
          · skip
            have c_66 : 3 = 0 := (nI_eq (a := 3) (b := 0) (by omega) (by omega)).mp c_66
            exact absurd c_66 (by decide)
      · skip
        have c_34 : 3 = 0 := (nI_eq (a := 3) (b := 0) (by omega) (by omega)).mp c_34
        exact absurd c_34 (by decide)
  · skip
    have c_7 : ¬ (6 ≤ nP) := fun z => c_7 ((nI_leI (a := 6) (b := nP) (by omega) (by omega)).mpr z)
    refine lv_iconst (v := 1) hx hb dX7_readPost_10 (by decide) ?_
    refine lv_goto (tgt := 15) hx hb dX7_readPost_11 (by decide) ?_
    refine q_callVV (n := 1) (o := 1) (As := [.int 1]) (rest := []) C hM hA (c_X7_readWord E ad l S A b 1 n a hln (by omega) hat (by omega) hk0) (qmem_7 E ad S A b (show qk 1 = 7 from by decide +kernel)) (by decide) rfl gX7_readPost_X7_readWord rfl rfl rfl (by decide +kernel) ⟨Nat.le_of_ble_eq_true rfl, Nat.le_of_ble_eq_true rfl⟩ rfl hl.1 rfl (Nat.le_of_ble_eq_true rfl) ⟨Nat.zero_le _, Nat.zero_le _⟩ dX7_readPost_15 (fun S_16 A_17 b_18 H locs qr_15 hM => ?_)
    obtain ⟨eS_16, e2, e3⟩ := qr_15
    subst e2; subst e3
    rw [if_neg (by decide)] at eS_16
    refine lv_aload_n hx hb dX7_readPost_18 rfl (lv_at hl 0 rfl) ?_
    refine lv_iconst (v := 0) hx hb dX7_readPost_19 (by decide) ?_
    refine lv_aload_n hx hb dX7_readPost_20 rfl (lv_at hl 1 rfl) ?_
    refine q_get (o := p) (ci := 5) (k := 0) (T := TX5) (v := .int (S p 0)) C hM (qmem_5 E ad S_16 A b kp) (by omega) rfl hi5 (by decide) hL1 rfl (congrArg (fun z => some (Value.int z)) (show S_16 p 0 = S p 0 from by rw [eS_16, q2_o _ _ (by omega)])) dX7_readPost_21 ?_
    refine lv_as (y := nI nC) hC ?_
    refine lv_iconst (v := 1) hx hb dX7_readPost_24 (by decide) ?_
    refine lv_isub hx hb dX7_readPost_25 ?_
    refine lv_as (y := nI (nC - 1)) (pk_sub (a := nC) (b := 1) (by omega)) ?_
    refine q_callVI (n := 2) (o := 1) (As := [.int 0, .int (nI (nC - 1))]) (rest := []) C hM hA (c_X7_readNumber E ad l S_16 A b 0 (nC - 1) n (a + 1) ((show S_16 1 1 = S 1 1 from by rw [eS_16, q2_k _ _ (by omega)]).trans hln) (by omega) (show S_16 1 4 = nI (a + 1) from by rw [eS_16]; exact q2_s _ _ _ _) (by omega) ((show S_16 1 2 = S 1 2 from by rw [eS_16, q2_k _ _ (by omega)]).trans hk0) (by omega) (by omega)) (qmem_7 E ad S_16 A b (show qk 1 = 7 from by decide +kernel)) (by decide) rfl gX7_readPost_X7_readNumber rfl rfl rfl (by decide +kernel) ⟨Nat.le_of_ble_eq_true rfl, Nat.le_of_ble_eq_true rfl⟩ rfl hl.1 rfl (Nat.le_of_ble_eq_true rfl) ⟨Nat.zero_le _, Nat.zero_le _⟩ dX7_readPost_26 (fun r_19 S_20 A_21 b_22 H locs qr_19 hM => ?_)
    obtain ⟨⟨e2, e3⟩, hgS_20, h1S_20, hD⟩ := qr_19
    subst e2; subst e3
    rcases hD with ⟨kd23, pl23, hn23, hk23, er_19, h223, h323, ax23, hax23, h423⟩ | ⟨v23, en23, st23, hn23, hlo23, hhi23, hen23, er_19, h223, h323, h423, h523⟩
    · skip
      subst er_19
      refine lv_istore_n (lv' := [(2, .int 0), (0, .ref (ad 1)), (1, .ref (ad p))]) hx hb dX7_readPost_29 rfl hl (by decide) rfl (fun ls hl => ?_)
      refine lv_aload_n hx hb dX7_readPost_30 rfl (lv_at hl 1 rfl) ?_
      refine q_get (o := 1) (ci := 7) (k := 2) (T := TX7) (v := .int (nI kd23)) C hM (qmem_7 E ad S_20 A b (show qk 1 = 7 from by decide +kernel)) (by decide) rfl hi7 (by decide) hL2 rfl (congrArg (fun z => some (Value.int z)) (show S_20 1 2 = nI kd23 from by exact h223)) dX7_readPost_31 ?_
      refine lv_if_ne (tgt := 54) hx hb dX7_readPost_34 (by decide) (fun c_34 => ?_) (fun c_34 => ?_)
      · skip
        have c_34 : ¬ (kd23 = 0) := fun z => c_34 ((nI_eq (a := kd23) (b := 0) (by omega) (by omega)).mpr z)
        refine lv_aload_n hx hb dX7_readPost_54 rfl (lv_at hl 1 rfl) ?_
        refine lv_iconst (v := 0) hx hb dX7_readPost_55 (by decide) ?_
        refine lv_bipush (v := 9) hx hb dX7_readPost_56 (by decide) ?_
        refine q_callVI (n := 2) (o := 1) (As := [.int 0, .int 9]) (rest := []) C hM hA (c_X7_readNumber_k E ad l S_20 A b 0 9 (by rw [(show S_20 1 2 = nI kd23 from by exact h223)]; exact nI_ne0 (by omega) (by omega))) (qmem_7 E ad S_20 A b (show qk 1 = 7 from by decide +kernel)) (by decide) rfl gX7_readPost_X7_readNumber rfl rfl rfl (by decide +kernel) ⟨Nat.le_of_ble_eq_true rfl, Nat.le_of_ble_eq_true rfl⟩ rfl hl.1 rfl (Nat.le_of_ble_eq_true rfl) ⟨Nat.zero_le _, Nat.zero_le _⟩ dX7_readPost_58 (fun r_24 S_25 A_26 b_27 H locs qr_24 hM => ?_)
        obtain ⟨⟨e1, e2, e3⟩, er_24⟩ := qr_24
        subst e1; subst e2; subst e3
        subst er_24
        · skip
          refine lv_istore_n (lv' := [(3, .int 0), (2, .int 0), (0, .ref (ad 1)), (1, .ref (ad p))]) hx hb dX7_readPost_61 rfl hl (by decide) rfl (fun ls hl => ?_)
          refine lv_aload_n hx hb dX7_readPost_62 rfl (lv_at hl 2 rfl) ?_
          refine q_get (o := 1) (ci := 7) (k := 2) (T := TX7) (v := .int (nI kd23)) C hM (qmem_7 E ad S_20 A b (show qk 1 = 7 from by decide +kernel)) (by decide) rfl hi7 (by decide) hL2 rfl (congrArg (fun z => some (Value.int z)) (show S_20 1 2 = nI kd23 from by exact h223)) dX7_readPost_63 ?_
          refine lv_if_ne (tgt := 99) hx hb dX7_readPost_66 (by decide) (fun c_66 => ?_) (fun c_66 => ?_)
          · skip
            have c_66 : ¬ (kd23 = 0) := fun z => c_66 ((nI_eq (a := kd23) (b := 0) (by omega) (by omega)).mpr z)
            exact q_vret C hM dX7_readPost_99 (by exact ⟨rfl, (fun i h1 h2 => by rw [hgS_20 i h1, eS_16, q2_or _ _ h1]), (show S_20 1 1 = nI n from by exact h1S_20), (fun _ _ => rfl), Or.inl ⟨kd23, pl23, by rw [if_pos (show nP < 6 by omega)]; simp only [qbP, qbind, hn23], by omega, (show S_20 1 2 = nI kd23 from by exact h223), (show S_20 1 3 = nI pl23 from by exact h323), ax23, by omega, (show S_20 1 4 = nI ax23 from by exact h423)⟩⟩)
          · skip
            have c_66 : kd23 = 0 := (nI_eq (a := kd23) (b := 0) (by omega) (by omega)).mp c_66
            omega
      · skip
        have c_34 : kd23 = 0 := (nI_eq (a := kd23) (b := 0) (by omega) (by omega)).mp c_34
        omega
    · skip
      subst er_19
      refine lv_istore_n (lv' := [(2, .int (nI v23)), (0, .ref (ad 1)), (1, .ref (ad p))]) hx hb dX7_readPost_29 rfl hl (by decide) rfl (fun ls hl => ?_)
      refine lv_aload_n hx hb dX7_readPost_30 rfl (lv_at hl 1 rfl) ?_
      refine q_get (o := 1) (ci := 7) (k := 2) (T := TX7) (v := .int 0) C hM (qmem_7 E ad S_20 A b (show qk 1 = 7 from by decide +kernel)) (by decide) rfl hi7 (by decide) hL2 rfl (congrArg (fun z => some (Value.int z)) (show S_20 1 2 = 0 from by exact h223)) dX7_readPost_31 ?_
      refine lv_if_ne (tgt := 54) hx hb dX7_readPost_34 (by decide) (fun c_34 => ?_) (fun c_34 => ?_)
      · skip
        have c_34 : ¬ (0 = 0) := fun z => c_34 ((nI_eq (a := 0) (b := 0) (by omega) (by omega)).mpr z)
        exact absurd rfl c_34
      · skip
        have c_34 : 0 = 0 := (nI_eq (a := 0) (b := 0) (by omega) (by omega)).mp c_34
        refine lv_aload_n hx hb dX7_readPost_37 rfl (lv_at hl 2 rfl) ?_
        refine lv_iload_n hx hb dX7_readPost_38 rfl (lv_at hl 0 rfl) ?_
        refine q_callVI (n := 1) (o := p) (As := [.int (nI v23)]) (rest := []) C hM hA (c_X5_hasPostIn E ad l S_20 A b p hp (nI v23) nP ((show S_20 p 4 = S p 4 from by rw [hgS_20 p (by omega)]; rw [eS_16, q2_o _ _ (by omega)]).trans hPo) (by omega)) (qmem_5 E ad S_20 A b kp) (by omega) rfl gX7_readPost_X5_hasPostIn rfl rfl rfl (by decide +kernel) ⟨Nat.le_of_ble_eq_true rfl, Nat.le_of_ble_eq_true rfl⟩ rfl hl.1 rfl (Nat.le_of_ble_eq_true rfl) ⟨Nat.zero_le _, Nat.zero_le _⟩ dX7_readPost_39 (fun r_28 S_29 A_30 b_31 H locs qr_28 hM => ?_)
        obtain ⟨⟨e1, e2, e3⟩, er_28⟩ := qr_28
        subst e1; subst e2; subst e3
        refine lv_if_eq (tgt := 54) hx hb dX7_readPost_42 (by decide) (fun c_42 => ?_) (fun c_42 => ?_)
        · skip
          refine lv_aload_n hx hb dX7_readPost_54 rfl (lv_at hl 1 rfl) ?_
          refine lv_iconst (v := 0) hx hb dX7_readPost_55 (by decide) ?_
          refine lv_bipush (v := 9) hx hb dX7_readPost_56 (by decide) ?_
          refine q_callVI (n := 2) (o := 1) (As := [.int 0, .int 9]) (rest := []) C hM hA (c_X7_readNumber E ad l S_20 A b 0 9 n en23 (show S_20 1 1 = nI n from by exact h1S_20) (by omega) (show S_20 1 4 = nI en23 from by exact h423) (by omega) (show S_20 1 2 = 0 from by exact h223) (by omega) (by omega)) (qmem_7 E ad S_20 A b (show qk 1 = 7 from by decide +kernel)) (by decide) rfl gX7_readPost_X7_readNumber rfl rfl rfl (by decide +kernel) ⟨Nat.le_of_ble_eq_true rfl, Nat.le_of_ble_eq_true rfl⟩ rfl hl.1 rfl (Nat.le_of_ble_eq_true rfl) ⟨Nat.zero_le _, Nat.zero_le _⟩ dX7_readPost_58 (fun r_32 S_33 A_34 b_35 H locs qr_32 hM => ?_)
          obtain ⟨⟨e2, e3⟩, hgS_33, h1S_33, hD⟩ := qr_32
          subst e2; subst e3
          rcases hD with ⟨kd36, pl36, hn36, hk36, er_32, h236, h336, ax36, hax36, h436⟩ | ⟨v36, en36, st36, hn36, hlo36, hhi36, hen36, er_32, h236, h336, h436, h536⟩
          · skip
            subst er_32
            refine lv_istore_n (lv' := [(3, .int 0), (2, .int (nI v23)), (0, .ref (ad 1)), (1, .ref (ad p))]) hx hb dX7_readPost_61 rfl hl (by decide) rfl (fun ls hl => ?_)
            refine lv_aload_n hx hb dX7_readPost_62 rfl (lv_at hl 2 rfl) ?_
            refine q_get (o := 1) (ci := 7) (k := 2) (T := TX7) (v := .int (nI kd36)) C hM (qmem_7 E ad S_33 A b (show qk 1 = 7 from by decide +kernel)) (by decide) rfl hi7 (by decide) hL2 rfl (congrArg (fun z => some (Value.int z)) (show S_33 1 2 = nI kd36 from by exact h236)) dX7_readPost_63 ?_
            refine lv_if_ne (tgt := 99) hx hb dX7_readPost_66 (by decide) (fun c_66 => ?_) (fun c_66 => ?_)
            · skip
              have c_66 : ¬ (kd36 = 0) := fun z => c_66 ((nI_eq (a := kd36) (b := 0) (by omega) (by omega)).mpr z)
              exact q_vret C hM dX7_readPost_99 (by have hrd : qfind (A (p + 1)) (nI v23) 0 nP = -1 := (by rw [er_28, q01_eq0] at c_42; exact Classical.not_not.mp c_42); exact ⟨rfl, (fun i h1 h2 => by rw [hgS_33 i h1, hgS_20 i h1, eS_16, q2_or _ _ h1]), (show S_33 1 1 = nI n from by exact h1S_33), (fun _ _ => rfl), Or.inl ⟨kd36, pl36, by rw [if_pos (show nP < 6 by omega)]; simp only [qbP, qbind, hn23, hn36]; rw [if_pos hrd], by omega, (show S_33 1 2 = nI kd36 from by exact h236), (show S_33 1 3 = nI pl36 from by exact h336), ax36, by omega, (show S_33 1 4 = nI ax36 from by exact h436)⟩⟩)
            · skip
              have c_66 : kd36 = 0 := (nI_eq (a := kd36) (b := 0) (by omega) (by omega)).mp c_66
              omega
          · skip
            subst er_32
            refine lv_istore_n (lv' := [(3, .int (nI v36)), (2, .int (nI v23)), (0, .ref (ad 1)), (1, .ref (ad p))]) hx hb dX7_readPost_61 rfl hl (by decide) rfl (fun ls hl => ?_)
            refine lv_aload_n hx hb dX7_readPost_62 rfl (lv_at hl 2 rfl) ?_
            refine q_get (o := 1) (ci := 7) (k := 2) (T := TX7) (v := .int 0) C hM (qmem_7 E ad S_33 A b (show qk 1 = 7 from by decide +kernel)) (by decide) rfl hi7 (by decide) hL2 rfl (congrArg (fun z => some (Value.int z)) (show S_33 1 2 = 0 from by exact h236)) dX7_readPost_63 ?_
            refine lv_if_ne (tgt := 99) hx hb dX7_readPost_66 (by decide) (fun c_66 => ?_) (fun c_66 => ?_)
            · skip
              have c_66 : ¬ (0 = 0) := fun z => c_66 ((nI_eq (a := 0) (b := 0) (by omega) (by omega)).mpr z)
              exact absurd rfl c_66
            · skip
              have c_66 : 0 = 0 := (nI_eq (a := 0) (b := 0) (by omega) (by omega)).mp c_66
              refine lv_aload_n hx hb dX7_readPost_69 rfl (lv_at hl 3 rfl) ?_
              refine q_get (o := p) (ci := 5) (k := 7) (T := TX5) (v := .ref (ad (p + 1))) C hM (qmem_5 E ad S_33 A b kp) (by omega) rfl hi5 (by decide) hL3 rfl rfl dX7_readPost_70 ?_
              refine lv_aload_n hx hb dX7_readPost_73 rfl (lv_at hl 3 rfl) ?_
              refine q_get (o := p) (ci := 5) (k := 4) (T := TX5) (v := .int (S p 4)) C hM (qmem_5 E ad S_33 A b kp) (by omega) rfl hi5 (by decide) hL0 rfl (congrArg (fun z => some (Value.int z)) (show S_33 p 4 = S p 4 from by rw [hgS_33 p (by omega)]; rw [hgS_20 p (by omega)]; rw [eS_16, q2_o _ _ (by omega)])) dX7_readPost_74 ?_
              refine lv_as (y := nI nP) hPo ?_
              refine lv_iload_n hx hb dX7_readPost_77 rfl (lv_at hl 1 rfl) ?_
              refine q_iast C hM kp1 (by rw [lp1]; exact vp_nI (by omega) (by omega)) dX7_readPost_78 (fun H locs hM => ?_)
              rw [nIc (by omega)] at hM
              obtain ⟨A_37, eA_37⟩ : ∃ zz, zz = q2 A (p + 1) nP (nI v23) := ⟨_, rfl⟩
              rw [← eA_37] at hM
              refine lv_aload_n hx hb dX7_readPost_79 rfl (lv_at hl 3 rfl) ?_
              refine q_get (o := p) (ci := 5) (k := 8) (T := TX5) (v := .ref (ad (p + 2))) C hM (qmem_5 E ad S_33 A_37 b kp) (by omega) rfl hi5 (by decide) hL4 rfl rfl dX7_readPost_80 ?_
              refine lv_aload_n hx hb dX7_readPost_83 rfl (lv_at hl 3 rfl) ?_
              refine q_get (o := p) (ci := 5) (k := 4) (T := TX5) (v := .int (S p 4)) C hM (qmem_5 E ad S_33 A_37 b kp) (by omega) rfl hi5 (by decide) hL0 rfl (congrArg (fun z => some (Value.int z)) (show S_33 p 4 = S p 4 from by rw [hgS_33 p (by omega)]; rw [hgS_20 p (by omega)]; rw [eS_16, q2_o _ _ (by omega)])) dX7_readPost_84 ?_
              refine lv_as (y := nI nP) hPo ?_
              refine lv_iload_n hx hb dX7_readPost_87 rfl (lv_at hl 0 rfl) ?_
              refine q_iast C hM kp2 (by rw [lp2]; exact vp_nI (by omega) (by omega)) dX7_readPost_88 (fun H locs hM => ?_)
              rw [nIc (by omega)] at hM
              obtain ⟨A_38, eA_38⟩ : ∃ zz, zz = q2 A_37 (p + 2) nP (nI v36) := ⟨_, rfl⟩
              rw [← eA_38] at hM
              refine lv_aload_n hx hb dX7_readPost_89 rfl (lv_at hl 3 rfl) ?_
              refine lv_dup hx hb dX7_readPost_90 rfl ?_
              refine q_get (o := p) (ci := 5) (k := 4) (T := TX5) (v := .int (S p 4)) C hM (qmem_5 E ad S_33 A_38 b kp) (by omega) rfl hi5 (by decide) hL0 rfl (congrArg (fun z => some (Value.int z)) (show S_33 p 4 = S p 4 from by rw [hgS_33 p (by omega)]; rw [hgS_20 p (by omega)]; rw [eS_16, q2_o _ _ (by omega)])) dX7_readPost_91 ?_
              refine lv_as (y := nI nP) hPo ?_
              refine lv_iconst (v := 1) hx hb dX7_readPost_94 (by decide) ?_
              refine lv_iadd hx hb dX7_readPost_95 ?_
              refine lv_as (y := nI (nP + 1)) (nI_add _ _) ?_
              refine q_put (o := p) (ci := 5) (k := 4) (T := TX5) (ty := .int) (v := nI (nP + 1)) C hM (qmem_5 E ad S_33 A_38 b kp) (by omega) rfl hi5 tyX5 tyX5_ok nmX5 (by decide) hL0 rfl rfl (by decide +kernel) rfl rfl (Nat.le_of_ble_eq_true rfl) (qs_5_4 E ad S_33 A_38 b kp (nI (nP + 1))) dX7_readPost_96 (fun H locs hM => ?_)
              obtain ⟨S_39, eS_39⟩ : ∃ zz, zz = q2 S_33 p 4 (nI (nP + 1)) := ⟨_, rfl⟩
              rw [← eS_39] at hM
              exact q_vret C hM dX7_readPost_99 (by have hrd : qfind (A (p + 1)) (nI v23) 0 nP = -1 := (by rw [er_28, q01_eq0] at c_42; exact Classical.not_not.mp c_42); exact ⟨rfl, (fun i h1 h2 => by rw [eS_39, q2_or _ _ h2, hgS_33 i h1, hgS_20 i h1, eS_16, q2_or _ _ h1]), (show S_39 1 1 = nI n from by rw [eS_39, q2_o _ _ (by omega)]; exact h1S_33), (fun i hi => by rw [eA_38, q2_or _ _ (by omega), eA_37, q2_or _ _ (by omega)]), Or.inr ⟨en36, _, by rw [if_pos (show nP < 6 by omega)]; simp only [qbP, qbind, hn23, hn36]; rw [if_pos hrd], by omega, (show S_39 1 2 = 0 from by rw [eS_39, q2_o _ _ (by omega)]; exact h236), (show S_39 1 3 = S 1 3 from by rw [eS_39, q2_o _ _ (by omega)]; rw [h336]; rw [h323]; rw [eS_16, q2_k _ _ (by omega)]), (show S_39 1 4 = nI en36 from by rw [eS_39, q2_o _ _ (by omega)]; exact h436), by rw [eS_39, q2_row, hgS_33 p (by omega), hgS_20 p (by omega), eS_16, q2_or _ _ (by omega), show (fun j => A_38 (p + j)) = q2 (q2 (fun j => A (p + j)) 1 nP (nI v23)) 2 nP (nI v36) from by rw [eA_38, qrow_q2, eA_37, qrow_q2]]⟩⟩)
        · skip
          refine lv_aload_n hx hb dX7_readPost_45 rfl (lv_at hl 1 rfl) ?_
          refine lv_iconst (v := 4) hx hb dX7_readPost_46 (by decide) ?_
          refine lv_aload_n hx hb dX7_readPost_47 rfl (lv_at hl 1 rfl) ?_
          refine q_get (o := 1) (ci := 7) (k := 5) (T := TX7) (v := .int (nI st23)) C hM (qmem_7 E ad S_20 A b (show qk 1 = 7 from by decide +kernel)) (by decide) rfl hi7 (by decide) hL5 rfl (congrArg (fun z => some (Value.int z)) (show S_20 1 5 = nI st23 from by exact h523)) dX7_readPost_48 ?_
          refine q_callVV (n := 2) (o := 1) (As := [.int 4, .int (nI st23)]) (rest := []) C hM hA (c_X7_refuse E ad l S_20 A b 4 (nI st23) (show S_20 1 2 = 0 from by exact h223)) (qmem_7 E ad S_20 A b (show qk 1 = 7 from by decide +kernel)) (by decide) rfl gX7_readPost_X7_refuse rfl rfl rfl (by decide +kernel) ⟨Nat.le_of_ble_eq_true rfl, Nat.le_of_ble_eq_true rfl⟩ rfl hl.1 rfl (Nat.le_of_ble_eq_true rfl) ⟨Nat.zero_le _, Nat.zero_le _⟩ dX7_readPost_51 (fun S_41 A_42 b_43 H locs qr_40 hM => ?_)
          obtain ⟨eS_41, e2, e3⟩ := qr_40
          subst e2; subst e3
          obtain ⟨S_44, eS_44⟩ : ∃ zz, zz = q2 S_20 1 2 4 := ⟨_, rfl⟩
          rw [← eS_44] at eS_41
          refine lv_aload_n hx hb dX7_readPost_54 rfl (lv_at hl 1 rfl) ?_
          refine lv_iconst (v := 0) hx hb dX7_readPost_55 (by decide) ?_
          refine lv_bipush (v := 9) hx hb dX7_readPost_56 (by decide) ?_
          refine q_callVI (n := 2) (o := 1) (As := [.int 0, .int 9]) (rest := []) C hM hA (c_X7_readNumber_k E ad l S_41 A b 0 9 (by rw [(show S_41 1 2 = 4 from by rw [eS_41, q2_k _ _ (by omega)]; rw [eS_44]; exact q2_s _ _ _ _)]; exact (by decide))) (qmem_7 E ad S_41 A b (show qk 1 = 7 from by decide +kernel)) (by decide) rfl gX7_readPost_X7_readNumber rfl rfl rfl (by decide +kernel) ⟨Nat.le_of_ble_eq_true rfl, Nat.le_of_ble_eq_true rfl⟩ rfl hl.1 rfl (Nat.le_of_ble_eq_true rfl) ⟨Nat.zero_le _, Nat.zero_le _⟩ dX7_readPost_58 (fun r_45 S_46 A_47 b_48 H locs qr_45 hM => ?_)
          obtain ⟨⟨e1, e2, e3⟩, er_45⟩ := qr_45
          subst e1; subst e2; subst e3
          subst er_45
          · skip
            refine lv_istore_n (lv' := [(3, .int 0), (2, .int (nI v23)), (0, .ref (ad 1)), (1, .ref (ad p))]) hx hb dX7_readPost_61 rfl hl (by decide) rfl (fun ls hl => ?_)
            refine lv_aload_n hx hb dX7_readPost_62 rfl (lv_at hl 2 rfl) ?_
            refine q_get (o := 1) (ci := 7) (k := 2) (T := TX7) (v := .int 4) C hM (qmem_7 E ad S_41 A b (show qk 1 = 7 from by decide +kernel)) (by decide) rfl hi7 (by decide) hL2 rfl (congrArg (fun z => some (Value.int z)) (show S_41 1 2 = 4 from by rw [eS_41, q2_k _ _ (by omega)]; rw [eS_44]; exact q2_s _ _ _ _)) dX7_readPost_63 ?_
            refine lv_if_ne (tgt := 99) hx hb dX7_readPost_66 (by decide) (fun c_66 => ?_) (fun c_66 => ?_)
            · skip
              have c_66 : ¬ (4 = 0) := fun z => c_66 ((nI_eq (a := 4) (b := 0) (by omega) (by omega)).mpr z)
              exact q_vret C hM dX7_readPost_99 (by have hrd : ¬ qfind (A (p + 1)) (nI v23) 0 nP = -1 := (by rw [er_28, q01_eq0] at c_42; exact fun z => c_42 (fun q => q z)); exact ⟨rfl, (fun i h1 h2 => by rw [eS_41, q2_or _ _ h1, eS_44, q2_or _ _ h1, hgS_20 i h1, eS_16, q2_or _ _ h1]), (show S_41 1 1 = nI n from by rw [eS_41, q2_k _ _ (by omega)]; rw [eS_44, q2_k _ _ (by omega)]; exact h1S_20), (fun _ _ => rfl), Or.inl ⟨4, st23, by rw [if_pos (show nP < 6 by omega)]; simp only [qbP, qbind, hn23]; rw [if_neg hrd], by omega, (show S_41 1 2 = 4 from by rw [eS_41, q2_k _ _ (by omega)]; rw [eS_44]; exact q2_s _ _ _ _), (show S_41 1 3 = nI st23 from by rw [eS_41]; exact q2_s _ _ _ _), en23, by omega, (show S_41 1 4 = nI en23 from by rw [eS_41, q2_k _ _ (by omega)]; rw [eS_44, q2_k _ _ (by omega)]; exact h423)⟩⟩)
            · skip
              have c_66 : 4 = 0 := (nI_eq (a := 4) (b := 0) (by omega) (by omega)).mp c_66
              exact absurd c_66 (by decide)

set_option maxHeartbeats 4000000 in
set_option maxRecDepth 100000 in
theorem c_X7_readCrow (E : qE) (ad : Nat → Nat) (l : Launch) (S A : qA2) (b : qB) (p : Nat) (hp : qpl p) (n a : Nat) (hln : S 1 1 = nI n) (hnb : n ≤ 240) (hat : S 1 4 = nI a) (hab : a ≤ 245) (hk0 : S 1 2 = 0) (han : a < n) (nK : Nat) (hK : S p 5 = nI nK) (hKb : nK ≤ 5) : MV E ad l yX7_readCrow wsX7_readCrow { frames := 2, cells := 0, slots := 0, locals := 46 } [.ref (ad 1), .ref (ad p)] S A b (fun S' A' b' => b = b' ∧ (∀ i, i ≠ 1 → i ≠ p → S' i = S i) ∧ S' 1 1 = nI n ∧ (∀ i, (i ≤ p ∨ p + 6 < i) → A' i = A i) ∧ ((∃ kd pl, (if nK < 5 then qbC qstX (A 2) n a nK (S p, fun j => A (p + j)) else .inl (3, a)) = .inl (kd, pl) ∧ (1 ≤ kd ∧ kd ≤ 4) ∧ S' 1 2 = nI kd ∧ S' 1 3 = nI pl ∧ ∃ a', a' ≤ n + 1 ∧ S' 1 4 = nI a') ∨ (∃ e P', (if nK < 5 then qbC qstX (A 2) n a nK (S p, fun j => A (p + j)) else .inl (3, a)) = .inr (e, P') ∧ e ≤ n ∧ S' 1 2 = 0 ∧ S' 1 3 = S 1 3 ∧ S' 1 4 = nI e ∧ (S' p, fun j => A' (p + j)) = P'))) := by
  obtain ⟨⟨kp, kp1, kp2, kp3, kp4, kp5, kp6⟩, ⟨lp1, lp2, lp3, lp4, lp5, lp6⟩, bp, bp7⟩ := qpl_all hp
  refine MV.of (cc := cX7_readCrow) (maxL := 4) (ret := none) RX7 rfl (by decide) rfl ?_
  intro pg e s m below meth cd C hM
  have hx := C.1
  have hb := C.2.1
  have hts := C.2.2.2.2.1
  have hA : ∀ q, s.heap.size ≤ q → qAr ad s.heap.size q := fun _ h => Or.inr h
  have hi5 : ∀ w ∈ u_ws RX5 TX5 13, w ∈ wsX7_readCrow := by decide +kernel
  have hi7 : ∀ w ∈ u_ws RX7 TX7 6, w ∈ wsX7_readCrow := by decide +kernel
  have hL0 := hts (.fieldLink RX7 101 "CrowFences$Plan" "crows" "I") (by decide +kernel)
  have hL1 := hts (.fieldLink RX7 27 "CrowFences$Text" "faultKind" "I") (by decide +kernel)
  have hL2 := hts (.fieldLink RX7 104 "CrowFences$Plan" "bid" "[I") (by decide +kernel)
  have hL3 := hts (.fieldLink RX7 107 "CrowFences$Plan" "perView" "[I") (by decide +kernel)
  have hl := lv_entry ([.ref (ad 1), .ref (ad p)]) (n := 4) (Nat.le_of_ble_eq_true rfl)
  rw [lg_entry_eq]
  generalize (lg_sl ([.ref (ad 1), .ref (ad p)]) ++ List.replicate (4 - (lg_sl ([.ref (ad 1), .ref (ad p)])).length) Slot.unset).toArray = ls at hl ⊢
  have hl : lv_has ls 4 [(0, .ref (ad 1)), (1, .ref (ad p))] := hl
  refine lv_aload_n hx hb dX7_readCrow_0 rfl (lv_at hl 0 rfl) ?_
  refine lv_aload_n hx hb dX7_readCrow_1 rfl (lv_at hl 1 rfl) ?_
  refine q_get (o := p) (ci := 5) (k := 5) (T := TX5) (v := .int (S p 5)) C hM (qmem_5 E ad S A b kp) (by omega) rfl hi5 (by decide) hL0 rfl rfl dX7_readCrow_2 ?_
  refine lv_as (y := nI nK) hK ?_
  refine lv_iconst (v := 5) hx hb dX7_readCrow_5 (by decide) ?_
  refine lv_icmp_ge (tgt := 13) hx hb dX7_readCrow_6 (by decide) (fun c_6 => ?_) (fun c_6 => ?_)
  · skip
    have c_6 : 5 ≤ nK := (nI_leI (a := 5) (b := nK) (by omega) (by omega)).mp c_6
    refine lv_iconst (v := 0) hx hb dX7_readCrow_13 (by decide) ?_
    refine q_callVV (n := 1) (o := 1) (As := [.int 0]) (rest := []) C hM hA (c_X7_readWord E ad l S A b 0 n a hln (by omega) hat (by omega) hk0) (qmem_7 E ad S A b (show qk 1 = 7 from by decide +kernel)) (by decide) rfl gX7_readCrow_X7_readWord rfl rfl rfl (by decide +kernel) ⟨Nat.le_of_ble_eq_true rfl, Nat.le_of_ble_eq_true rfl⟩ rfl hl.1 rfl (Nat.le_of_ble_eq_true rfl) ⟨Nat.zero_le _, Nat.zero_le _⟩ dX7_readCrow_14 (fun S_2 A_3 b_4 H locs qr_1 hM => ?_)
    obtain ⟨eS_2, e2, e3⟩ := qr_1
    subst e2; subst e3
    rw [if_pos rfl] at eS_2
    obtain ⟨S_5, eS_5⟩ : ∃ zz, zz = q2 S 1 2 3 := ⟨_, rfl⟩
    rw [← eS_5] at eS_2
    obtain ⟨S_6, eS_6⟩ : ∃ zz, zz = q2 S_5 1 3 (nI a) := ⟨_, rfl⟩
    rw [← eS_6] at eS_2
    refine lv_aload_n hx hb dX7_readCrow_17 rfl (lv_at hl 0 rfl) ?_
    refine lv_iconst (v := 0) hx hb dX7_readCrow_18 (by decide) ?_
    refine lv_bipush (v := 99) hx hb dX7_readCrow_19 (by decide) ?_
    refine q_callVI (n := 2) (o := 1) (As := [.int 0, .int 99]) (rest := []) C hM hA (c_X7_readNumber_k E ad l S_2 A b 0 99 (by rw [(show S_2 1 2 = 3 from by rw [eS_2, q2_k _ _ (by omega)]; rw [eS_6, q2_k _ _ (by omega)]; rw [eS_5]; exact q2_s _ _ _ _)]; exact (by decide))) (qmem_7 E ad S_2 A b (show qk 1 = 7 from by decide +kernel)) (by decide) rfl gX7_readCrow_X7_readNumber rfl rfl rfl (by decide +kernel) ⟨Nat.le_of_ble_eq_true rfl, Nat.le_of_ble_eq_true rfl⟩ rfl hl.1 rfl (Nat.le_of_ble_eq_true rfl) ⟨Nat.zero_le _, Nat.zero_le _⟩ dX7_readCrow_21 (fun r_7 S_8 A_9 b_10 H locs qr_7 hM => ?_)
    obtain ⟨⟨e1, e2, e3⟩, er_7⟩ := qr_7
    subst e1; subst e2; subst e3
    subst er_7
    · skip
      refine lv_istore_n (lv' := [(2, .int 0), (0, .ref (ad 1)), (1, .ref (ad p))]) hx hb dX7_readCrow_24 rfl hl (by decide) rfl (fun ls hl => ?_)
      refine lv_aload_n hx hb dX7_readCrow_25 rfl (lv_at hl 1 rfl) ?_
      refine lv_iconst (v := 0) hx hb dX7_readCrow_26 (by decide) ?_
      refine lv_bipush (v := 9) hx hb dX7_readCrow_27 (by decide) ?_
      refine q_callVI (n := 2) (o := 1) (As := [.int 0, .int 9]) (rest := []) C hM hA (c_X7_readNumber_k E ad l S_2 A b 0 9 (by rw [(show S_2 1 2 = 3 from by rw [eS_2, q2_k _ _ (by omega)]; rw [eS_6, q2_k _ _ (by omega)]; rw [eS_5]; exact q2_s _ _ _ _)]; exact (by decide))) (qmem_7 E ad S_2 A b (show qk 1 = 7 from by decide +kernel)) (by decide) rfl gX7_readCrow_X7_readNumber rfl rfl rfl (by decide +kernel) ⟨Nat.le_of_ble_eq_true rfl, Nat.le_of_ble_eq_true rfl⟩ rfl hl.1 rfl (Nat.le_of_ble_eq_true rfl) ⟨Nat.zero_le _, Nat.zero_le _⟩ dX7_readCrow_29 (fun r_11 S_12 A_13 b_14 H locs qr_11 hM => ?_)
      obtain ⟨⟨e1, e2, e3⟩, er_11⟩ := qr_11
      subst e1; subst e2; subst e3
      subst er_11
      · skip
        refine lv_istore_n (lv' := [(3, .int 0), (2, .int 0), (0, .ref (ad 1)), (1, .ref (ad p))]) hx hb dX7_readCrow_32 rfl hl (by decide) rfl (fun ls hl => ?_)
        refine lv_aload_n hx hb dX7_readCrow_33 rfl (lv_at hl 2 rfl) ?_
        refine q_get (o := 1) (ci := 7) (k := 2) (T := TX7) (v := .int 3) C hM (qmem_7 E ad S_2 A b (show qk 1 = 7 from by decide +kernel)) (by decide) rfl hi7 (by decide) hL1 rfl (congrArg (fun z => some (Value.int z)) (show S_2 1 2 = 3 from by rw [eS_2, q2_k _ _ (by omega)]; rw [eS_6, q2_k _ _ (by omega)]; rw [eS_5]; exact q2_s _ _ _ _)) dX7_readCrow_34 ?_
        refine lv_if_ne (tgt := 70) hx hb dX7_readCrow_37 (by decide) (fun c_37 => ?_) (fun c_37 => ?_)
        · skip
          have c_37 : ¬ (3 = 0) := fun z => c_37 ((nI_eq (a := 3) (b := 0) (by omega) (by omega)).mpr z)
          exact q_vret C hM dX7_readCrow_70 (by exact ⟨rfl, (fun i h1 h2 => by rw [eS_2, q2_or _ _ h1, eS_6, q2_or _ _ h1, eS_5, q2_or _ _ h1]), ((show S_2 1 1 = S 1 1 from by rw [eS_2, q2_k _ _ (by omega)]; rw [eS_6, q2_k _ _ (by omega)]; rw [eS_5, q2_k _ _ (by omega)]).trans hln), (fun _ _ => rfl), Or.inl ⟨3, a, by rw [if_neg (show ¬ nK < 5 by omega)], by omega, (show S_2 1 2 = 3 from by rw [eS_2, q2_k _ _ (by omega)]; rw [eS_6, q2_k _ _ (by omega)]; rw [eS_5]; exact q2_s _ _ _ _), (show S_2 1 3 = nI a from by rw [eS_2, q2_k _ _ (by omega)]; rw [eS_6]; exact q2_s _ _ _ _), a + 1, by omega, (show S_2 1 4 = nI (a + 1) from by rw [eS_2]; exact q2_s _ _ _ _)⟩⟩)
        · skip
          have c_37 : 3 = 0 := (nI_eq (a := 3) (b := 0) (by omega) (by omega)).mp c_37
          exact absurd c_37 (by decide)
  · skip
    have c_6 : ¬ (5 ≤ nK) := fun z => c_6 ((nI_leI (a := 5) (b := nK) (by omega) (by omega)).mpr z)
    refine lv_iconst (v := 1) hx hb dX7_readCrow_9 (by decide) ?_
    refine lv_goto (tgt := 14) hx hb dX7_readCrow_10 (by decide) ?_
    refine q_callVV (n := 1) (o := 1) (As := [.int 1]) (rest := []) C hM hA (c_X7_readWord E ad l S A b 1 n a hln (by omega) hat (by omega) hk0) (qmem_7 E ad S A b (show qk 1 = 7 from by decide +kernel)) (by decide) rfl gX7_readCrow_X7_readWord rfl rfl rfl (by decide +kernel) ⟨Nat.le_of_ble_eq_true rfl, Nat.le_of_ble_eq_true rfl⟩ rfl hl.1 rfl (Nat.le_of_ble_eq_true rfl) ⟨Nat.zero_le _, Nat.zero_le _⟩ dX7_readCrow_14 (fun S_16 A_17 b_18 H locs qr_15 hM => ?_)
    obtain ⟨eS_16, e2, e3⟩ := qr_15
    subst e2; subst e3
    rw [if_neg (by decide)] at eS_16
    refine lv_aload_n hx hb dX7_readCrow_17 rfl (lv_at hl 0 rfl) ?_
    refine lv_iconst (v := 0) hx hb dX7_readCrow_18 (by decide) ?_
    refine lv_bipush (v := 99) hx hb dX7_readCrow_19 (by decide) ?_
    refine q_callVI (n := 2) (o := 1) (As := [.int 0, .int 99]) (rest := []) C hM hA (c_X7_readNumber E ad l S_16 A b 0 99 n (a + 1) ((show S_16 1 1 = S 1 1 from by rw [eS_16, q2_k _ _ (by omega)]).trans hln) (by omega) (show S_16 1 4 = nI (a + 1) from by rw [eS_16]; exact q2_s _ _ _ _) (by omega) ((show S_16 1 2 = S 1 2 from by rw [eS_16, q2_k _ _ (by omega)]).trans hk0) (by omega) (by omega)) (qmem_7 E ad S_16 A b (show qk 1 = 7 from by decide +kernel)) (by decide) rfl gX7_readCrow_X7_readNumber rfl rfl rfl (by decide +kernel) ⟨Nat.le_of_ble_eq_true rfl, Nat.le_of_ble_eq_true rfl⟩ rfl hl.1 rfl (Nat.le_of_ble_eq_true rfl) ⟨Nat.zero_le _, Nat.zero_le _⟩ dX7_readCrow_21 (fun r_19 S_20 A_21 b_22 H locs qr_19 hM => ?_)
    obtain ⟨⟨e2, e3⟩, hgS_20, h1S_20, hD⟩ := qr_19
    subst e2; subst e3
    rcases hD with ⟨kd23, pl23, hn23, hk23, er_19, h223, h323, ax23, hax23, h423⟩ | ⟨v23, en23, st23, hn23, hlo23, hhi23, hen23, er_19, h223, h323, h423, h523⟩
    · skip
      subst er_19
      refine lv_istore_n (lv' := [(2, .int 0), (0, .ref (ad 1)), (1, .ref (ad p))]) hx hb dX7_readCrow_24 rfl hl (by decide) rfl (fun ls hl => ?_)
      refine lv_aload_n hx hb dX7_readCrow_25 rfl (lv_at hl 1 rfl) ?_
      refine lv_iconst (v := 0) hx hb dX7_readCrow_26 (by decide) ?_
      refine lv_bipush (v := 9) hx hb dX7_readCrow_27 (by decide) ?_
      refine q_callVI (n := 2) (o := 1) (As := [.int 0, .int 9]) (rest := []) C hM hA (c_X7_readNumber_k E ad l S_20 A b 0 9 (by rw [(show S_20 1 2 = nI kd23 from by exact h223)]; exact nI_ne0 (by omega) (by omega))) (qmem_7 E ad S_20 A b (show qk 1 = 7 from by decide +kernel)) (by decide) rfl gX7_readCrow_X7_readNumber rfl rfl rfl (by decide +kernel) ⟨Nat.le_of_ble_eq_true rfl, Nat.le_of_ble_eq_true rfl⟩ rfl hl.1 rfl (Nat.le_of_ble_eq_true rfl) ⟨Nat.zero_le _, Nat.zero_le _⟩ dX7_readCrow_29 (fun r_24 S_25 A_26 b_27 H locs qr_24 hM => ?_)
      obtain ⟨⟨e1, e2, e3⟩, er_24⟩ := qr_24
      subst e1; subst e2; subst e3
      subst er_24
      · skip
        refine lv_istore_n (lv' := [(3, .int 0), (2, .int 0), (0, .ref (ad 1)), (1, .ref (ad p))]) hx hb dX7_readCrow_32 rfl hl (by decide) rfl (fun ls hl => ?_)
        refine lv_aload_n hx hb dX7_readCrow_33 rfl (lv_at hl 2 rfl) ?_
        refine q_get (o := 1) (ci := 7) (k := 2) (T := TX7) (v := .int (nI kd23)) C hM (qmem_7 E ad S_20 A b (show qk 1 = 7 from by decide +kernel)) (by decide) rfl hi7 (by decide) hL1 rfl (congrArg (fun z => some (Value.int z)) (show S_20 1 2 = nI kd23 from by exact h223)) dX7_readCrow_34 ?_
        refine lv_if_ne (tgt := 70) hx hb dX7_readCrow_37 (by decide) (fun c_37 => ?_) (fun c_37 => ?_)
        · skip
          have c_37 : ¬ (kd23 = 0) := fun z => c_37 ((nI_eq (a := kd23) (b := 0) (by omega) (by omega)).mpr z)
          exact q_vret C hM dX7_readCrow_70 (by exact ⟨rfl, (fun i h1 h2 => by rw [hgS_20 i h1, eS_16, q2_or _ _ h1]), (show S_20 1 1 = nI n from by exact h1S_20), (fun _ _ => rfl), Or.inl ⟨kd23, pl23, by rw [if_pos (show nK < 5 by omega)]; simp only [qbC, qbind, hn23], by omega, (show S_20 1 2 = nI kd23 from by exact h223), (show S_20 1 3 = nI pl23 from by exact h323), ax23, by omega, (show S_20 1 4 = nI ax23 from by exact h423)⟩⟩)
        · skip
          have c_37 : kd23 = 0 := (nI_eq (a := kd23) (b := 0) (by omega) (by omega)).mp c_37
          omega
    · skip
      subst er_19
      refine lv_istore_n (lv' := [(2, .int (nI v23)), (0, .ref (ad 1)), (1, .ref (ad p))]) hx hb dX7_readCrow_24 rfl hl (by decide) rfl (fun ls hl => ?_)
      refine lv_aload_n hx hb dX7_readCrow_25 rfl (lv_at hl 1 rfl) ?_
      refine lv_iconst (v := 0) hx hb dX7_readCrow_26 (by decide) ?_
      refine lv_bipush (v := 9) hx hb dX7_readCrow_27 (by decide) ?_
      refine q_callVI (n := 2) (o := 1) (As := [.int 0, .int 9]) (rest := []) C hM hA (c_X7_readNumber E ad l S_20 A b 0 9 n en23 (show S_20 1 1 = nI n from by exact h1S_20) (by omega) (show S_20 1 4 = nI en23 from by exact h423) (by omega) (show S_20 1 2 = 0 from by exact h223) (by omega) (by omega)) (qmem_7 E ad S_20 A b (show qk 1 = 7 from by decide +kernel)) (by decide) rfl gX7_readCrow_X7_readNumber rfl rfl rfl (by decide +kernel) ⟨Nat.le_of_ble_eq_true rfl, Nat.le_of_ble_eq_true rfl⟩ rfl hl.1 rfl (Nat.le_of_ble_eq_true rfl) ⟨Nat.zero_le _, Nat.zero_le _⟩ dX7_readCrow_29 (fun r_28 S_29 A_30 b_31 H locs qr_28 hM => ?_)
      obtain ⟨⟨e2, e3⟩, hgS_29, h1S_29, hD⟩ := qr_28
      subst e2; subst e3
      rcases hD with ⟨kd32, pl32, hn32, hk32, er_28, h232, h332, ax32, hax32, h432⟩ | ⟨v32, en32, st32, hn32, hlo32, hhi32, hen32, er_28, h232, h332, h432, h532⟩
      · skip
        subst er_28
        refine lv_istore_n (lv' := [(3, .int 0), (2, .int (nI v23)), (0, .ref (ad 1)), (1, .ref (ad p))]) hx hb dX7_readCrow_32 rfl hl (by decide) rfl (fun ls hl => ?_)
        refine lv_aload_n hx hb dX7_readCrow_33 rfl (lv_at hl 2 rfl) ?_
        refine q_get (o := 1) (ci := 7) (k := 2) (T := TX7) (v := .int (nI kd32)) C hM (qmem_7 E ad S_29 A b (show qk 1 = 7 from by decide +kernel)) (by decide) rfl hi7 (by decide) hL1 rfl (congrArg (fun z => some (Value.int z)) (show S_29 1 2 = nI kd32 from by exact h232)) dX7_readCrow_34 ?_
        refine lv_if_ne (tgt := 70) hx hb dX7_readCrow_37 (by decide) (fun c_37 => ?_) (fun c_37 => ?_)
        · skip
          have c_37 : ¬ (kd32 = 0) := fun z => c_37 ((nI_eq (a := kd32) (b := 0) (by omega) (by omega)).mpr z)
          exact q_vret C hM dX7_readCrow_70 (by exact ⟨rfl, (fun i h1 h2 => by rw [hgS_29 i h1, hgS_20 i h1, eS_16, q2_or _ _ h1]), (show S_29 1 1 = nI n from by exact h1S_29), (fun _ _ => rfl), Or.inl ⟨kd32, pl32, by rw [if_pos (show nK < 5 by omega)]; simp only [qbC, qbind, hn23, hn32], by omega, (show S_29 1 2 = nI kd32 from by exact h232), (show S_29 1 3 = nI pl32 from by exact h332), ax32, by omega, (show S_29 1 4 = nI ax32 from by exact h432)⟩⟩)
        · skip
          have c_37 : kd32 = 0 := (nI_eq (a := kd32) (b := 0) (by omega) (by omega)).mp c_37
          omega
      · skip
        subst er_28
        refine lv_istore_n (lv' := [(3, .int (nI v32)), (2, .int (nI v23)), (0, .ref (ad 1)), (1, .ref (ad p))]) hx hb dX7_readCrow_32 rfl hl (by decide) rfl (fun ls hl => ?_)
        refine lv_aload_n hx hb dX7_readCrow_33 rfl (lv_at hl 2 rfl) ?_
        refine q_get (o := 1) (ci := 7) (k := 2) (T := TX7) (v := .int 0) C hM (qmem_7 E ad S_29 A b (show qk 1 = 7 from by decide +kernel)) (by decide) rfl hi7 (by decide) hL1 rfl (congrArg (fun z => some (Value.int z)) (show S_29 1 2 = 0 from by exact h232)) dX7_readCrow_34 ?_
        refine lv_if_ne (tgt := 70) hx hb dX7_readCrow_37 (by decide) (fun c_37 => ?_) (fun c_37 => ?_)
        · skip
          have c_37 : ¬ (0 = 0) := fun z => c_37 ((nI_eq (a := 0) (b := 0) (by omega) (by omega)).mpr z)
          exact absurd rfl c_37
        · skip
          have c_37 : 0 = 0 := (nI_eq (a := 0) (b := 0) (by omega) (by omega)).mp c_37
          refine lv_aload_n hx hb dX7_readCrow_40 rfl (lv_at hl 3 rfl) ?_
          refine q_get (o := p) (ci := 5) (k := 9) (T := TX5) (v := .ref (ad (p + 3))) C hM (qmem_5 E ad S_29 A b kp) (by omega) rfl hi5 (by decide) hL2 rfl rfl dX7_readCrow_41 ?_
          refine lv_aload_n hx hb dX7_readCrow_44 rfl (lv_at hl 3 rfl) ?_
          refine q_get (o := p) (ci := 5) (k := 5) (T := TX5) (v := .int (S p 5)) C hM (qmem_5 E ad S_29 A b kp) (by omega) rfl hi5 (by decide) hL0 rfl (congrArg (fun z => some (Value.int z)) (show S_29 p 5 = S p 5 from by rw [hgS_29 p (by omega)]; rw [hgS_20 p (by omega)]; rw [eS_16, q2_o _ _ (by omega)])) dX7_readCrow_45 ?_
          refine lv_as (y := nI nK) hK ?_
          refine lv_iload_n hx hb dX7_readCrow_48 rfl (lv_at hl 1 rfl) ?_
          refine q_iast C hM kp3 (by rw [lp3]; exact vp_nI (by omega) (by omega)) dX7_readCrow_49 (fun H locs hM => ?_)
          rw [nIc (by omega)] at hM
          obtain ⟨A_33, eA_33⟩ : ∃ zz, zz = q2 A (p + 3) nK (nI v23) := ⟨_, rfl⟩
          rw [← eA_33] at hM
          refine lv_aload_n hx hb dX7_readCrow_50 rfl (lv_at hl 3 rfl) ?_
          refine q_get (o := p) (ci := 5) (k := 10) (T := TX5) (v := .ref (ad (p + 4))) C hM (qmem_5 E ad S_29 A_33 b kp) (by omega) rfl hi5 (by decide) hL3 rfl rfl dX7_readCrow_51 ?_
          refine lv_aload_n hx hb dX7_readCrow_54 rfl (lv_at hl 3 rfl) ?_
          refine q_get (o := p) (ci := 5) (k := 5) (T := TX5) (v := .int (S p 5)) C hM (qmem_5 E ad S_29 A_33 b kp) (by omega) rfl hi5 (by decide) hL0 rfl (congrArg (fun z => some (Value.int z)) (show S_29 p 5 = S p 5 from by rw [hgS_29 p (by omega)]; rw [hgS_20 p (by omega)]; rw [eS_16, q2_o _ _ (by omega)])) dX7_readCrow_55 ?_
          refine lv_as (y := nI nK) hK ?_
          refine lv_iload_n hx hb dX7_readCrow_58 rfl (lv_at hl 0 rfl) ?_
          refine q_iast C hM kp4 (by rw [lp4]; exact vp_nI (by omega) (by omega)) dX7_readCrow_59 (fun H locs hM => ?_)
          rw [nIc (by omega)] at hM
          obtain ⟨A_34, eA_34⟩ : ∃ zz, zz = q2 A_33 (p + 4) nK (nI v32) := ⟨_, rfl⟩
          rw [← eA_34] at hM
          refine lv_aload_n hx hb dX7_readCrow_60 rfl (lv_at hl 3 rfl) ?_
          refine lv_dup hx hb dX7_readCrow_61 rfl ?_
          refine q_get (o := p) (ci := 5) (k := 5) (T := TX5) (v := .int (S p 5)) C hM (qmem_5 E ad S_29 A_34 b kp) (by omega) rfl hi5 (by decide) hL0 rfl (congrArg (fun z => some (Value.int z)) (show S_29 p 5 = S p 5 from by rw [hgS_29 p (by omega)]; rw [hgS_20 p (by omega)]; rw [eS_16, q2_o _ _ (by omega)])) dX7_readCrow_62 ?_
          refine lv_as (y := nI nK) hK ?_
          refine lv_iconst (v := 1) hx hb dX7_readCrow_65 (by decide) ?_
          refine lv_iadd hx hb dX7_readCrow_66 ?_
          refine lv_as (y := nI (nK + 1)) (nI_add _ _) ?_
          refine q_put (o := p) (ci := 5) (k := 5) (T := TX5) (ty := .int) (v := nI (nK + 1)) C hM (qmem_5 E ad S_29 A_34 b kp) (by omega) rfl hi5 tyX5 tyX5_ok nmX5 (by decide) hL0 rfl rfl (by decide +kernel) rfl rfl (Nat.le_of_ble_eq_true rfl) (qs_5_5 E ad S_29 A_34 b kp (nI (nK + 1))) dX7_readCrow_67 (fun H locs hM => ?_)
          obtain ⟨S_35, eS_35⟩ : ∃ zz, zz = q2 S_29 p 5 (nI (nK + 1)) := ⟨_, rfl⟩
          rw [← eS_35] at hM
          exact q_vret C hM dX7_readCrow_70 (by exact ⟨rfl, (fun i h1 h2 => by rw [eS_35, q2_or _ _ h2, hgS_29 i h1, hgS_20 i h1, eS_16, q2_or _ _ h1]), (show S_35 1 1 = nI n from by rw [eS_35, q2_o _ _ (by omega)]; exact h1S_29), (fun i hi => by rw [eA_34, q2_or _ _ (by omega), eA_33, q2_or _ _ (by omega)]), Or.inr ⟨en32, _, by rw [if_pos (show nK < 5 by omega)]; simp only [qbC, qbind, hn23, hn32]; rfl, by omega, (show S_35 1 2 = 0 from by rw [eS_35, q2_o _ _ (by omega)]; exact h232), (show S_35 1 3 = S 1 3 from by rw [eS_35, q2_o _ _ (by omega)]; rw [h332]; rw [h323]; rw [eS_16, q2_k _ _ (by omega)]), (show S_35 1 4 = nI en32 from by rw [eS_35, q2_o _ _ (by omega)]; exact h432), by rw [eS_35, q2_row, hgS_29 p (by omega), hgS_20 p (by omega), eS_16, q2_or _ _ (by omega), show (fun j => A_34 (p + j)) = q2 (q2 (fun j => A (p + j)) 3 nK (nI v23)) 4 nK (nI v32) from by rw [eA_34, qrow_q2, eA_33, qrow_q2]]⟩⟩)

set_option maxHeartbeats 4000000 in
set_option maxRecDepth 100000 in
theorem c_X7_readWind (E : qE) (ad : Nat → Nat) (l : Launch) (S A : qA2) (b : qB) (p : Nat) (hp : qpl p) (n a : Nat) (hln : S 1 1 = nI n) (hnb : n ≤ 240) (hat : S 1 4 = nI a) (hab : a ≤ 245) (hk0 : S 1 2 = 0) (han : a < n) (nW : Nat) (hWi : S p 6 = nI nW) (hWb : nW ≤ 10) : MV E ad l yX7_readWind wsX7_readWind { frames := 2, cells := 0, slots := 0, locals := 46 } [.ref (ad 1), .ref (ad p)] S A b (fun S' A' b' => b = b' ∧ (∀ i, i ≠ 1 → i ≠ p → S' i = S i) ∧ S' 1 1 = nI n ∧ (∀ i, (i ≤ p ∨ p + 6 < i) → A' i = A i) ∧ ((∃ kd pl, (if nW < 10 then qbH qstX (A 2) n a nW (S p, fun j => A (p + j)) else .inl (3, a)) = .inl (kd, pl) ∧ (1 ≤ kd ∧ kd ≤ 4) ∧ S' 1 2 = nI kd ∧ S' 1 3 = nI pl ∧ ∃ a', a' ≤ n + 1 ∧ S' 1 4 = nI a') ∨ (∃ e P', (if nW < 10 then qbH qstX (A 2) n a nW (S p, fun j => A (p + j)) else .inl (3, a)) = .inr (e, P') ∧ e ≤ n ∧ S' 1 2 = 0 ∧ S' 1 3 = S 1 3 ∧ S' 1 4 = nI e ∧ (S' p, fun j => A' (p + j)) = P'))) := by
  obtain ⟨⟨kp, kp1, kp2, kp3, kp4, kp5, kp6⟩, ⟨lp1, lp2, lp3, lp4, lp5, lp6⟩, bp, bp7⟩ := qpl_all hp
  refine MV.of (cc := cX7_readWind) (maxL := 4) (ret := none) RX7 rfl (by decide) rfl ?_
  intro pg e s m below meth cd C hM
  have hx := C.1
  have hb := C.2.1
  have hts := C.2.2.2.2.1
  have hA : ∀ q, s.heap.size ≤ q → qAr ad s.heap.size q := fun _ h => Or.inr h
  have hi5 : ∀ w ∈ u_ws RX5 TX5 13, w ∈ wsX7_readWind := by decide +kernel
  have hi7 : ∀ w ∈ u_ws RX7 TX7 6, w ∈ wsX7_readWind := by decide +kernel
  have hL0 := hts (.fieldLink RX7 110 "CrowFences$Plan" "winds" "I") (by decide +kernel)
  have hL1 := hts (.fieldLink RX7 27 "CrowFences$Text" "faultKind" "I") (by decide +kernel)
  have hL2 := hts (.fieldLink RX7 113 "CrowFences$Plan" "strong" "[I") (by decide +kernel)
  have hL3 := hts (.fieldLink RX7 116 "CrowFences$Plan" "fall" "[I") (by decide +kernel)
  have hl := lv_entry ([.ref (ad 1), .ref (ad p)]) (n := 4) (Nat.le_of_ble_eq_true rfl)
  rw [lg_entry_eq]
  generalize (lg_sl ([.ref (ad 1), .ref (ad p)]) ++ List.replicate (4 - (lg_sl ([.ref (ad 1), .ref (ad p)])).length) Slot.unset).toArray = ls at hl ⊢
  have hl : lv_has ls 4 [(0, .ref (ad 1)), (1, .ref (ad p))] := hl
  refine lv_aload_n hx hb dX7_readWind_0 rfl (lv_at hl 0 rfl) ?_
  refine lv_aload_n hx hb dX7_readWind_1 rfl (lv_at hl 1 rfl) ?_
  refine q_get (o := p) (ci := 5) (k := 6) (T := TX5) (v := .int (S p 6)) C hM (qmem_5 E ad S A b kp) (by omega) rfl hi5 (by decide) hL0 rfl rfl dX7_readWind_2 ?_
  refine lv_as (y := nI nW) hWi ?_
  refine lv_bipush (v := 10) hx hb dX7_readWind_5 (by decide) ?_
  refine lv_icmp_ge (tgt := 14) hx hb dX7_readWind_7 (by decide) (fun c_7 => ?_) (fun c_7 => ?_)
  · skip
    have c_7 : 10 ≤ nW := (nI_leI (a := 10) (b := nW) (by omega) (by omega)).mp c_7
    refine lv_iconst (v := 0) hx hb dX7_readWind_14 (by decide) ?_
    refine q_callVV (n := 1) (o := 1) (As := [.int 0]) (rest := []) C hM hA (c_X7_readWord E ad l S A b 0 n a hln (by omega) hat (by omega) hk0) (qmem_7 E ad S A b (show qk 1 = 7 from by decide +kernel)) (by decide) rfl gX7_readWind_X7_readWord rfl rfl rfl (by decide +kernel) ⟨Nat.le_of_ble_eq_true rfl, Nat.le_of_ble_eq_true rfl⟩ rfl hl.1 rfl (Nat.le_of_ble_eq_true rfl) ⟨Nat.zero_le _, Nat.zero_le _⟩ dX7_readWind_15 (fun S_2 A_3 b_4 H locs qr_1 hM => ?_)
    obtain ⟨eS_2, e2, e3⟩ := qr_1
    subst e2; subst e3
    rw [if_pos rfl] at eS_2
    obtain ⟨S_5, eS_5⟩ : ∃ zz, zz = q2 S 1 2 3 := ⟨_, rfl⟩
    rw [← eS_5] at eS_2
    obtain ⟨S_6, eS_6⟩ : ∃ zz, zz = q2 S_5 1 3 (nI a) := ⟨_, rfl⟩
    rw [← eS_6] at eS_2
    refine lv_aload_n hx hb dX7_readWind_18 rfl (lv_at hl 0 rfl) ?_
    refine lv_iconst (v := 0) hx hb dX7_readWind_19 (by decide) ?_
    refine lv_bipush (v := 18) hx hb dX7_readWind_20 (by decide) ?_
    refine q_callVI (n := 2) (o := 1) (As := [.int 0, .int 18]) (rest := []) C hM hA (c_X7_readNumber_k E ad l S_2 A b 0 18 (by rw [(show S_2 1 2 = 3 from by rw [eS_2, q2_k _ _ (by omega)]; rw [eS_6, q2_k _ _ (by omega)]; rw [eS_5]; exact q2_s _ _ _ _)]; exact (by decide))) (qmem_7 E ad S_2 A b (show qk 1 = 7 from by decide +kernel)) (by decide) rfl gX7_readWind_X7_readNumber rfl rfl rfl (by decide +kernel) ⟨Nat.le_of_ble_eq_true rfl, Nat.le_of_ble_eq_true rfl⟩ rfl hl.1 rfl (Nat.le_of_ble_eq_true rfl) ⟨Nat.zero_le _, Nat.zero_le _⟩ dX7_readWind_22 (fun r_7 S_8 A_9 b_10 H locs qr_7 hM => ?_)
    obtain ⟨⟨e1, e2, e3⟩, er_7⟩ := qr_7
    subst e1; subst e2; subst e3
    subst er_7
    · skip
      refine lv_istore_n (lv' := [(2, .int 0), (0, .ref (ad 1)), (1, .ref (ad p))]) hx hb dX7_readWind_25 rfl hl (by decide) rfl (fun ls hl => ?_)
      refine lv_aload_n hx hb dX7_readWind_26 rfl (lv_at hl 1 rfl) ?_
      refine lv_iconst (v := 0) hx hb dX7_readWind_27 (by decide) ?_
      refine lv_bipush (v := 30) hx hb dX7_readWind_28 (by decide) ?_
      refine q_callVI (n := 2) (o := 1) (As := [.int 0, .int 30]) (rest := []) C hM hA (c_X7_readNumber_k E ad l S_2 A b 0 30 (by rw [(show S_2 1 2 = 3 from by rw [eS_2, q2_k _ _ (by omega)]; rw [eS_6, q2_k _ _ (by omega)]; rw [eS_5]; exact q2_s _ _ _ _)]; exact (by decide))) (qmem_7 E ad S_2 A b (show qk 1 = 7 from by decide +kernel)) (by decide) rfl gX7_readWind_X7_readNumber rfl rfl rfl (by decide +kernel) ⟨Nat.le_of_ble_eq_true rfl, Nat.le_of_ble_eq_true rfl⟩ rfl hl.1 rfl (Nat.le_of_ble_eq_true rfl) ⟨Nat.zero_le _, Nat.zero_le _⟩ dX7_readWind_30 (fun r_11 S_12 A_13 b_14 H locs qr_11 hM => ?_)
      obtain ⟨⟨e1, e2, e3⟩, er_11⟩ := qr_11
      subst e1; subst e2; subst e3
      subst er_11
      · skip
        refine lv_istore_n (lv' := [(3, .int 0), (2, .int 0), (0, .ref (ad 1)), (1, .ref (ad p))]) hx hb dX7_readWind_33 rfl hl (by decide) rfl (fun ls hl => ?_)
        refine lv_aload_n hx hb dX7_readWind_34 rfl (lv_at hl 2 rfl) ?_
        refine q_get (o := 1) (ci := 7) (k := 2) (T := TX7) (v := .int 3) C hM (qmem_7 E ad S_2 A b (show qk 1 = 7 from by decide +kernel)) (by decide) rfl hi7 (by decide) hL1 rfl (congrArg (fun z => some (Value.int z)) (show S_2 1 2 = 3 from by rw [eS_2, q2_k _ _ (by omega)]; rw [eS_6, q2_k _ _ (by omega)]; rw [eS_5]; exact q2_s _ _ _ _)) dX7_readWind_35 ?_
        refine lv_if_ne (tgt := 71) hx hb dX7_readWind_38 (by decide) (fun c_38 => ?_) (fun c_38 => ?_)
        · skip
          have c_38 : ¬ (3 = 0) := fun z => c_38 ((nI_eq (a := 3) (b := 0) (by omega) (by omega)).mpr z)
          exact q_vret C hM dX7_readWind_71 (by exact ⟨rfl, (fun i h1 h2 => by rw [eS_2, q2_or _ _ h1, eS_6, q2_or _ _ h1, eS_5, q2_or _ _ h1]), ((show S_2 1 1 = S 1 1 from by rw [eS_2, q2_k _ _ (by omega)]; rw [eS_6, q2_k _ _ (by omega)]; rw [eS_5, q2_k _ _ (by omega)]).trans hln), (fun _ _ => rfl), Or.inl ⟨3, a, by rw [if_neg (show ¬ nW < 10 by omega)], by omega, (show S_2 1 2 = 3 from by rw [eS_2, q2_k _ _ (by omega)]; rw [eS_6, q2_k _ _ (by omega)]; rw [eS_5]; exact q2_s _ _ _ _), (show S_2 1 3 = nI a from by rw [eS_2, q2_k _ _ (by omega)]; rw [eS_6]; exact q2_s _ _ _ _), a + 1, by omega, (show S_2 1 4 = nI (a + 1) from by rw [eS_2]; exact q2_s _ _ _ _)⟩⟩)
        · skip
          have c_38 : 3 = 0 := (nI_eq (a := 3) (b := 0) (by omega) (by omega)).mp c_38
          exact absurd c_38 (by decide)
  · skip
    have c_7 : ¬ (10 ≤ nW) := fun z => c_7 ((nI_leI (a := 10) (b := nW) (by omega) (by omega)).mpr z)
    refine lv_iconst (v := 1) hx hb dX7_readWind_10 (by decide) ?_
    refine lv_goto (tgt := 15) hx hb dX7_readWind_11 (by decide) ?_
    refine q_callVV (n := 1) (o := 1) (As := [.int 1]) (rest := []) C hM hA (c_X7_readWord E ad l S A b 1 n a hln (by omega) hat (by omega) hk0) (qmem_7 E ad S A b (show qk 1 = 7 from by decide +kernel)) (by decide) rfl gX7_readWind_X7_readWord rfl rfl rfl (by decide +kernel) ⟨Nat.le_of_ble_eq_true rfl, Nat.le_of_ble_eq_true rfl⟩ rfl hl.1 rfl (Nat.le_of_ble_eq_true rfl) ⟨Nat.zero_le _, Nat.zero_le _⟩ dX7_readWind_15 (fun S_16 A_17 b_18 H locs qr_15 hM => ?_)
    obtain ⟨eS_16, e2, e3⟩ := qr_15
    subst e2; subst e3
    rw [if_neg (by decide)] at eS_16
    refine lv_aload_n hx hb dX7_readWind_18 rfl (lv_at hl 0 rfl) ?_
    refine lv_iconst (v := 0) hx hb dX7_readWind_19 (by decide) ?_
    refine lv_bipush (v := 18) hx hb dX7_readWind_20 (by decide) ?_
    refine q_callVI (n := 2) (o := 1) (As := [.int 0, .int 18]) (rest := []) C hM hA (c_X7_readNumber E ad l S_16 A b 0 18 n (a + 1) ((show S_16 1 1 = S 1 1 from by rw [eS_16, q2_k _ _ (by omega)]).trans hln) (by omega) (show S_16 1 4 = nI (a + 1) from by rw [eS_16]; exact q2_s _ _ _ _) (by omega) ((show S_16 1 2 = S 1 2 from by rw [eS_16, q2_k _ _ (by omega)]).trans hk0) (by omega) (by omega)) (qmem_7 E ad S_16 A b (show qk 1 = 7 from by decide +kernel)) (by decide) rfl gX7_readWind_X7_readNumber rfl rfl rfl (by decide +kernel) ⟨Nat.le_of_ble_eq_true rfl, Nat.le_of_ble_eq_true rfl⟩ rfl hl.1 rfl (Nat.le_of_ble_eq_true rfl) ⟨Nat.zero_le _, Nat.zero_le _⟩ dX7_readWind_22 (fun r_19 S_20 A_21 b_22 H locs qr_19 hM => ?_)
    obtain ⟨⟨e2, e3⟩, hgS_20, h1S_20, hD⟩ := qr_19
    subst e2; subst e3
    rcases hD with ⟨kd23, pl23, hn23, hk23, er_19, h223, h323, ax23, hax23, h423⟩ | ⟨v23, en23, st23, hn23, hlo23, hhi23, hen23, er_19, h223, h323, h423, h523⟩
    · skip
      subst er_19
      refine lv_istore_n (lv' := [(2, .int 0), (0, .ref (ad 1)), (1, .ref (ad p))]) hx hb dX7_readWind_25 rfl hl (by decide) rfl (fun ls hl => ?_)
      refine lv_aload_n hx hb dX7_readWind_26 rfl (lv_at hl 1 rfl) ?_
      refine lv_iconst (v := 0) hx hb dX7_readWind_27 (by decide) ?_
      refine lv_bipush (v := 30) hx hb dX7_readWind_28 (by decide) ?_
      refine q_callVI (n := 2) (o := 1) (As := [.int 0, .int 30]) (rest := []) C hM hA (c_X7_readNumber_k E ad l S_20 A b 0 30 (by rw [(show S_20 1 2 = nI kd23 from by exact h223)]; exact nI_ne0 (by omega) (by omega))) (qmem_7 E ad S_20 A b (show qk 1 = 7 from by decide +kernel)) (by decide) rfl gX7_readWind_X7_readNumber rfl rfl rfl (by decide +kernel) ⟨Nat.le_of_ble_eq_true rfl, Nat.le_of_ble_eq_true rfl⟩ rfl hl.1 rfl (Nat.le_of_ble_eq_true rfl) ⟨Nat.zero_le _, Nat.zero_le _⟩ dX7_readWind_30 (fun r_24 S_25 A_26 b_27 H locs qr_24 hM => ?_)
      obtain ⟨⟨e1, e2, e3⟩, er_24⟩ := qr_24
      subst e1; subst e2; subst e3
      subst er_24
      · skip
        refine lv_istore_n (lv' := [(3, .int 0), (2, .int 0), (0, .ref (ad 1)), (1, .ref (ad p))]) hx hb dX7_readWind_33 rfl hl (by decide) rfl (fun ls hl => ?_)
        refine lv_aload_n hx hb dX7_readWind_34 rfl (lv_at hl 2 rfl) ?_
        refine q_get (o := 1) (ci := 7) (k := 2) (T := TX7) (v := .int (nI kd23)) C hM (qmem_7 E ad S_20 A b (show qk 1 = 7 from by decide +kernel)) (by decide) rfl hi7 (by decide) hL1 rfl (congrArg (fun z => some (Value.int z)) (show S_20 1 2 = nI kd23 from by exact h223)) dX7_readWind_35 ?_
        refine lv_if_ne (tgt := 71) hx hb dX7_readWind_38 (by decide) (fun c_38 => ?_) (fun c_38 => ?_)
        · skip
          have c_38 : ¬ (kd23 = 0) := fun z => c_38 ((nI_eq (a := kd23) (b := 0) (by omega) (by omega)).mpr z)
          exact q_vret C hM dX7_readWind_71 (by exact ⟨rfl, (fun i h1 h2 => by rw [hgS_20 i h1, eS_16, q2_or _ _ h1]), (show S_20 1 1 = nI n from by exact h1S_20), (fun _ _ => rfl), Or.inl ⟨kd23, pl23, by rw [if_pos (show nW < 10 by omega)]; simp only [qbH, qbind, hn23], by omega, (show S_20 1 2 = nI kd23 from by exact h223), (show S_20 1 3 = nI pl23 from by exact h323), ax23, by omega, (show S_20 1 4 = nI ax23 from by exact h423)⟩⟩)
        · skip
          have c_38 : kd23 = 0 := (nI_eq (a := kd23) (b := 0) (by omega) (by omega)).mp c_38
          omega
    · skip
      subst er_19
      refine lv_istore_n (lv' := [(2, .int (nI v23)), (0, .ref (ad 1)), (1, .ref (ad p))]) hx hb dX7_readWind_25 rfl hl (by decide) rfl (fun ls hl => ?_)
      refine lv_aload_n hx hb dX7_readWind_26 rfl (lv_at hl 1 rfl) ?_
      refine lv_iconst (v := 0) hx hb dX7_readWind_27 (by decide) ?_
      refine lv_bipush (v := 30) hx hb dX7_readWind_28 (by decide) ?_
      refine q_callVI (n := 2) (o := 1) (As := [.int 0, .int 30]) (rest := []) C hM hA (c_X7_readNumber E ad l S_20 A b 0 30 n en23 (show S_20 1 1 = nI n from by exact h1S_20) (by omega) (show S_20 1 4 = nI en23 from by exact h423) (by omega) (show S_20 1 2 = 0 from by exact h223) (by omega) (by omega)) (qmem_7 E ad S_20 A b (show qk 1 = 7 from by decide +kernel)) (by decide) rfl gX7_readWind_X7_readNumber rfl rfl rfl (by decide +kernel) ⟨Nat.le_of_ble_eq_true rfl, Nat.le_of_ble_eq_true rfl⟩ rfl hl.1 rfl (Nat.le_of_ble_eq_true rfl) ⟨Nat.zero_le _, Nat.zero_le _⟩ dX7_readWind_30 (fun r_28 S_29 A_30 b_31 H locs qr_28 hM => ?_)
      obtain ⟨⟨e2, e3⟩, hgS_29, h1S_29, hD⟩ := qr_28
      subst e2; subst e3
      rcases hD with ⟨kd32, pl32, hn32, hk32, er_28, h232, h332, ax32, hax32, h432⟩ | ⟨v32, en32, st32, hn32, hlo32, hhi32, hen32, er_28, h232, h332, h432, h532⟩
      · skip
        subst er_28
        refine lv_istore_n (lv' := [(3, .int 0), (2, .int (nI v23)), (0, .ref (ad 1)), (1, .ref (ad p))]) hx hb dX7_readWind_33 rfl hl (by decide) rfl (fun ls hl => ?_)
        refine lv_aload_n hx hb dX7_readWind_34 rfl (lv_at hl 2 rfl) ?_
        refine q_get (o := 1) (ci := 7) (k := 2) (T := TX7) (v := .int (nI kd32)) C hM (qmem_7 E ad S_29 A b (show qk 1 = 7 from by decide +kernel)) (by decide) rfl hi7 (by decide) hL1 rfl (congrArg (fun z => some (Value.int z)) (show S_29 1 2 = nI kd32 from by exact h232)) dX7_readWind_35 ?_
        refine lv_if_ne (tgt := 71) hx hb dX7_readWind_38 (by decide) (fun c_38 => ?_) (fun c_38 => ?_)
        · skip
          have c_38 : ¬ (kd32 = 0) := fun z => c_38 ((nI_eq (a := kd32) (b := 0) (by omega) (by omega)).mpr z)
          exact q_vret C hM dX7_readWind_71 (by exact ⟨rfl, (fun i h1 h2 => by rw [hgS_29 i h1, hgS_20 i h1, eS_16, q2_or _ _ h1]), (show S_29 1 1 = nI n from by exact h1S_29), (fun _ _ => rfl), Or.inl ⟨kd32, pl32, by rw [if_pos (show nW < 10 by omega)]; simp only [qbH, qbind, hn23, hn32], by omega, (show S_29 1 2 = nI kd32 from by exact h232), (show S_29 1 3 = nI pl32 from by exact h332), ax32, by omega, (show S_29 1 4 = nI ax32 from by exact h432)⟩⟩)
        · skip
          have c_38 : kd32 = 0 := (nI_eq (a := kd32) (b := 0) (by omega) (by omega)).mp c_38
          omega
      · skip
        subst er_28
        refine lv_istore_n (lv' := [(3, .int (nI v32)), (2, .int (nI v23)), (0, .ref (ad 1)), (1, .ref (ad p))]) hx hb dX7_readWind_33 rfl hl (by decide) rfl (fun ls hl => ?_)
        refine lv_aload_n hx hb dX7_readWind_34 rfl (lv_at hl 2 rfl) ?_
        refine q_get (o := 1) (ci := 7) (k := 2) (T := TX7) (v := .int 0) C hM (qmem_7 E ad S_29 A b (show qk 1 = 7 from by decide +kernel)) (by decide) rfl hi7 (by decide) hL1 rfl (congrArg (fun z => some (Value.int z)) (show S_29 1 2 = 0 from by exact h232)) dX7_readWind_35 ?_
        refine lv_if_ne (tgt := 71) hx hb dX7_readWind_38 (by decide) (fun c_38 => ?_) (fun c_38 => ?_)
        · skip
          have c_38 : ¬ (0 = 0) := fun z => c_38 ((nI_eq (a := 0) (b := 0) (by omega) (by omega)).mpr z)
          exact absurd rfl c_38
        · skip
          have c_38 : 0 = 0 := (nI_eq (a := 0) (b := 0) (by omega) (by omega)).mp c_38
          refine lv_aload_n hx hb dX7_readWind_41 rfl (lv_at hl 3 rfl) ?_
          refine q_get (o := p) (ci := 5) (k := 11) (T := TX5) (v := .ref (ad (p + 5))) C hM (qmem_5 E ad S_29 A b kp) (by omega) rfl hi5 (by decide) hL2 rfl rfl dX7_readWind_42 ?_
          refine lv_aload_n hx hb dX7_readWind_45 rfl (lv_at hl 3 rfl) ?_
          refine q_get (o := p) (ci := 5) (k := 6) (T := TX5) (v := .int (S p 6)) C hM (qmem_5 E ad S_29 A b kp) (by omega) rfl hi5 (by decide) hL0 rfl (congrArg (fun z => some (Value.int z)) (show S_29 p 6 = S p 6 from by rw [hgS_29 p (by omega)]; rw [hgS_20 p (by omega)]; rw [eS_16, q2_o _ _ (by omega)])) dX7_readWind_46 ?_
          refine lv_as (y := nI nW) hWi ?_
          refine lv_iload_n hx hb dX7_readWind_49 rfl (lv_at hl 1 rfl) ?_
          refine q_iast C hM kp5 (by rw [lp5]; exact vp_nI (by omega) (by omega)) dX7_readWind_50 (fun H locs hM => ?_)
          rw [nIc (by omega)] at hM
          obtain ⟨A_33, eA_33⟩ : ∃ zz, zz = q2 A (p + 5) nW (nI v23) := ⟨_, rfl⟩
          rw [← eA_33] at hM
          refine lv_aload_n hx hb dX7_readWind_51 rfl (lv_at hl 3 rfl) ?_
          refine q_get (o := p) (ci := 5) (k := 12) (T := TX5) (v := .ref (ad (p + 6))) C hM (qmem_5 E ad S_29 A_33 b kp) (by omega) rfl hi5 (by decide) hL3 rfl rfl dX7_readWind_52 ?_
          refine lv_aload_n hx hb dX7_readWind_55 rfl (lv_at hl 3 rfl) ?_
          refine q_get (o := p) (ci := 5) (k := 6) (T := TX5) (v := .int (S p 6)) C hM (qmem_5 E ad S_29 A_33 b kp) (by omega) rfl hi5 (by decide) hL0 rfl (congrArg (fun z => some (Value.int z)) (show S_29 p 6 = S p 6 from by rw [hgS_29 p (by omega)]; rw [hgS_20 p (by omega)]; rw [eS_16, q2_o _ _ (by omega)])) dX7_readWind_56 ?_
          refine lv_as (y := nI nW) hWi ?_
          refine lv_iload_n hx hb dX7_readWind_59 rfl (lv_at hl 0 rfl) ?_
          refine q_iast C hM kp6 (by rw [lp6]; exact vp_nI (by omega) (by omega)) dX7_readWind_60 (fun H locs hM => ?_)
          rw [nIc (by omega)] at hM
          obtain ⟨A_34, eA_34⟩ : ∃ zz, zz = q2 A_33 (p + 6) nW (nI v32) := ⟨_, rfl⟩
          rw [← eA_34] at hM
          refine lv_aload_n hx hb dX7_readWind_61 rfl (lv_at hl 3 rfl) ?_
          refine lv_dup hx hb dX7_readWind_62 rfl ?_
          refine q_get (o := p) (ci := 5) (k := 6) (T := TX5) (v := .int (S p 6)) C hM (qmem_5 E ad S_29 A_34 b kp) (by omega) rfl hi5 (by decide) hL0 rfl (congrArg (fun z => some (Value.int z)) (show S_29 p 6 = S p 6 from by rw [hgS_29 p (by omega)]; rw [hgS_20 p (by omega)]; rw [eS_16, q2_o _ _ (by omega)])) dX7_readWind_63 ?_
          refine lv_as (y := nI nW) hWi ?_
          refine lv_iconst (v := 1) hx hb dX7_readWind_66 (by decide) ?_
          refine lv_iadd hx hb dX7_readWind_67 ?_
          refine lv_as (y := nI (nW + 1)) (nI_add _ _) ?_
          refine q_put (o := p) (ci := 5) (k := 6) (T := TX5) (ty := .int) (v := nI (nW + 1)) C hM (qmem_5 E ad S_29 A_34 b kp) (by omega) rfl hi5 tyX5 tyX5_ok nmX5 (by decide) hL0 rfl rfl (by decide +kernel) rfl rfl (Nat.le_of_ble_eq_true rfl) (qs_5_6 E ad S_29 A_34 b kp (nI (nW + 1))) dX7_readWind_68 (fun H locs hM => ?_)
          obtain ⟨S_35, eS_35⟩ : ∃ zz, zz = q2 S_29 p 6 (nI (nW + 1)) := ⟨_, rfl⟩
          rw [← eS_35] at hM
          exact q_vret C hM dX7_readWind_71 (by exact ⟨rfl, (fun i h1 h2 => by rw [eS_35, q2_or _ _ h2, hgS_29 i h1, hgS_20 i h1, eS_16, q2_or _ _ h1]), (show S_35 1 1 = nI n from by rw [eS_35, q2_o _ _ (by omega)]; exact h1S_29), (fun i hi => by rw [eA_34, q2_or _ _ (by omega), eA_33, q2_or _ _ (by omega)]), Or.inr ⟨en32, _, by rw [if_pos (show nW < 10 by omega)]; simp only [qbH, qbind, hn23, hn32]; rfl, by omega, (show S_35 1 2 = 0 from by rw [eS_35, q2_o _ _ (by omega)]; exact h232), (show S_35 1 3 = S 1 3 from by rw [eS_35, q2_o _ _ (by omega)]; rw [h332]; rw [h323]; rw [eS_16, q2_k _ _ (by omega)]), (show S_35 1 4 = nI en32 from by rw [eS_35, q2_o _ _ (by omega)]; exact h432), by rw [eS_35, q2_row, hgS_29 p (by omega), hgS_20 p (by omega), eS_16, q2_or _ _ (by omega), show (fun j => A_34 (p + j)) = q2 (q2 (fun j => A (p + j)) 5 nW (nI v23)) 6 nW (nI v32) from by rw [eA_34, qrow_q2, eA_33, qrow_q2]]⟩⟩)
