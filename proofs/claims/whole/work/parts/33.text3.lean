set_option maxHeartbeats 4000000 in
set_option maxRecDepth 100000 in
theorem c_X7_readClause (E : qE) (ad : Nat → Nat) (l : Launch) (S A : qA2) (b : qB) (p : Nat) (hp : qpl p) (n a : Nat) (hln : S 1 1 = nI n) (hnb : n ≤ 240) (hat : S 1 4 = nI a) (hab : a ≤ 245) (hk0 : S 1 2 = 0) (han : a < n) (nC nP nK nW : Nat) (hC : S p 0 = nI nC) (hCb : nC ≤ 12) (hPo : S p 4 = nI nP) (hPb : nP ≤ 6) (hK : S p 5 = nI nK) (hKb : nK ≤ 5) (hWi : S p 6 = nI nW) (hWb : nW ≤ 10) : MV E ad l yX7_readClause wsX7_readClause { frames := 3, cells := 0, slots := 0, locals := 69 } [.ref (ad 1), .ref (ad p)] S A b (fun S' A' b' => b = b' ∧ (∀ i, i ≠ 1 → i ≠ p → S' i = S i) ∧ S' 1 1 = nI n ∧ (∀ i, (i ≤ p ∨ p + 6 < i) → A' i = A i) ∧ ((∃ kd pl, qcl qstX (A 2) n a nC nP nK nW (S p, fun j => A (p + j)) = .inl (kd, pl) ∧ (1 ≤ kd ∧ kd ≤ 4) ∧ S' 1 2 = nI kd ∧ S' 1 3 = nI pl ∧ ∃ a', a' ≤ n + 1 ∧ S' 1 4 = nI a') ∨ (∃ e P', qcl qstX (A 2) n a nC nP nK nW (S p, fun j => A (p + j)) = .inr (e, P') ∧ e ≤ n ∧ S' 1 2 = 0 ∧ S' 1 3 = S 1 3 ∧ S' 1 4 = nI e ∧ (S' p, fun j => A' (p + j)) = P'))) := by
  obtain ⟨⟨kp, kp1, kp2, kp3, kp4, kp5, kp6⟩, ⟨lp1, lp2, lp3, lp4, lp5, lp6⟩, bp, bp7⟩ := qpl_all hp
  refine MV.of (cc := cX7_readClause) (maxL := 3) (ret := none) RX7 rfl (by decide) rfl ?_
  intro pg e s m below meth cd C hM
  have hx := C.1
  have hb := C.2.1
  have hts := C.2.2.2.2.1
  have hA : ∀ q, s.heap.size ≤ q → qAr ad s.heap.size q := fun _ h => Or.inr h
  have hi5 : ∀ w ∈ u_ws RX5 TX5 13, w ∈ wsX7_readClause := by decide +kernel
  have hi7 : ∀ w ∈ u_ws RX7 TX7 6, w ∈ wsX7_readClause := by decide +kernel
  have hL0 := hts (.fieldLink RX7 9 "CrowFences$Text" "letters" "[I") (by decide +kernel)
  have hL1 := hts (.fieldLink RX7 30 "CrowFences$Text" "at" "I") (by decide +kernel)
  have hL2 := hts (.fieldLink RX7 40 "CrowFences$Plan" "cells" "I") (by decide +kernel)
  have hl := lv_entry ([.ref (ad 1), .ref (ad p)]) (n := 3) (Nat.le_of_ble_eq_true rfl)
  rw [lg_entry_eq]
  generalize (lg_sl ([.ref (ad 1), .ref (ad p)]) ++ List.replicate (3 - (lg_sl ([.ref (ad 1), .ref (ad p)])).length) Slot.unset).toArray = ls at hl ⊢
  have hl : lv_has ls 3 [(0, .ref (ad 1)), (1, .ref (ad p))] := hl
  refine lv_aload_n hx hb dX7_readClause_0 rfl (lv_at hl 0 rfl) ?_
  refine q_get (o := 1) (ci := 7) (k := 0) (T := TX7) (v := .ref (ad 2)) C hM (qmem_7 E ad S A b (show qk 1 = 7 from by decide +kernel)) (by decide) rfl hi7 (by decide) hL0 rfl rfl dX7_readClause_1 ?_
  refine lv_aload_n hx hb dX7_readClause_4 rfl (lv_at hl 0 rfl) ?_
  refine q_get (o := 1) (ci := 7) (k := 4) (T := TX7) (v := .int (S 1 4)) C hM (qmem_7 E ad S A b (show qk 1 = 7 from by decide +kernel)) (by decide) rfl hi7 (by decide) hL1 rfl rfl dX7_readClause_5 ?_
  refine lv_as (y := nI a) hat ?_
  refine q_iald (v := A 2 a) C hM (show qk 2 = 12 from by decide +kernel) (by rw [(show ql 2 = 240 from by decide +kernel)]; exact vp_nI (by omega) (by omega)) (by rw [nIc (by omega)]) dX7_readClause_8 ?_
  refine lv_istore_n (lv' := [(2, .int (A 2 a)), (0, .ref (ad 1)), (1, .ref (ad p))]) hx hb dX7_readClause_9 rfl hl (by decide) rfl (fun ls hl => ?_)
  refine lv_aload_n hx hb dX7_readClause_10 rfl (lv_at hl 2 rfl) ?_
  refine q_get (o := p) (ci := 5) (k := 0) (T := TX5) (v := .int (S p 0)) C hM (qmem_5 E ad S A b kp) (by omega) rfl hi5 (by decide) hL2 rfl rfl dX7_readClause_11 ?_
  refine lv_as (y := nI nC) hC ?_
  refine lv_if_ne (tgt := 33) hx hb dX7_readClause_14 (by decide) (fun c_14 => ?_) (fun c_14 => ?_)
  · skip
    have c_14 : ¬ (nC = 0) := fun z => c_14 ((nI_eq (a := nC) (b := 0) (by omega) (by omega)).mpr z)
    refine lv_iload_n hx hb dX7_readClause_33 rfl (lv_at hl 0 rfl) ?_
    by_cases c_34 : A 2 a = 99
    · refine lv_lookup (off := 74) (tgt := 108) hx hb dX7_readClause_34 (by decide) (by rw [c_34]; rfl) (by decide) ?_
      refine lv_aload_n hx hb dX7_readClause_108 rfl (lv_at hl 1 rfl) ?_
      refine lv_aload_n hx hb dX7_readClause_109 rfl (lv_at hl 2 rfl) ?_
      refine q_callVV (n := 1) (o := 1) (As := [.ref (ad p)]) (rest := []) C hM hA (c_X7_readCrow E ad l S A b p hp n a hln (by omega) hat (by omega) hk0 (by omega) nK hK (by omega)) (qmem_7 E ad S A b (show qk 1 = 7 from by decide +kernel)) (by decide) rfl gX7_readClause_X7_readCrow rfl rfl rfl (by decide +kernel) ⟨Nat.le_of_ble_eq_true rfl, Nat.le_of_ble_eq_true rfl⟩ rfl hl.1 rfl (Nat.le_of_ble_eq_true rfl) ⟨Nat.zero_le _, Nat.zero_le _⟩ dX7_readClause_110 (fun S_2 A_3 b_4 H locs qr_1 hM => ?_)
      obtain ⟨e3, hgS_2, h1S_2, hfA_3, hD⟩ := qr_1
      subst e3
      rcases hD with ⟨kd5, pl5, hn5, hk5, h25, h35, ax5, hax5, h45⟩ | ⟨en5, P5, hn5, hen5, h25, h35, h45, hP5⟩
      · skip
        refine lv_goto (tgt := 133) hx hb dX7_readClause_113 (by decide) ?_
        refine lv_aload_n hx hb dX7_readClause_133 rfl (lv_at hl 1 rfl) ?_
        refine q_callVV (n := 0) (o := 1) (As := []) (rest := []) C hM hA (c_X7_readEnd_k E ad l S_2 A_3 b (by rw [(show S_2 1 2 = nI kd5 from by exact h25)]; exact nI_ne0 (by omega) (by omega))) (qmem_7 E ad S_2 A_3 b (show qk 1 = 7 from by decide +kernel)) (by decide) rfl gX7_readClause_X7_readEnd rfl rfl rfl (by decide +kernel) ⟨Nat.le_of_ble_eq_true rfl, Nat.le_of_ble_eq_true rfl⟩ rfl hl.1 rfl (Nat.le_of_ble_eq_true rfl) ⟨Nat.zero_le _, Nat.zero_le _⟩ dX7_readClause_134 (fun S_7 A_8 b_9 H locs qr_6 hM => ?_)
        obtain ⟨e1, e2, e3⟩ := qr_6
        subst e1; subst e2; subst e3
        · skip
          exact q_vret C hM dX7_readClause_137 (by exact ⟨rfl, (fun i h1 h2 => by rw [hgS_2 i h1 h2]), (show S_2 1 1 = nI n from by exact h1S_2), hfA_3, Or.inl ⟨kd5, pl5, by unfold qcl; rw [show qbody qstX (A 2) n a nC nP nK nW (S p, fun j => A (p + j)) = .inl (kd5, pl5) from by unfold qbody; rw [if_neg (fun z => c_14 z.1), if_neg (by rw [c_34]; decide), if_neg (by rw [c_34]; decide), if_neg (by rw [c_34]; decide), if_pos c_34, hn5]]; rfl, by omega, (show S_2 1 2 = nI kd5 from by exact h25), (show S_2 1 3 = nI pl5 from by exact h35), ax5, by omega, (show S_2 1 4 = nI ax5 from by exact h45)⟩⟩)
      · skip
        refine lv_goto (tgt := 133) hx hb dX7_readClause_113 (by decide) ?_
        refine lv_aload_n hx hb dX7_readClause_133 rfl (lv_at hl 1 rfl) ?_
        refine q_callVV (n := 0) (o := 1) (As := []) (rest := []) C hM hA (c_X7_readEnd E ad l S_2 A_3 b n en5 (show S_2 1 1 = nI n from by exact h1S_2) (by omega) (show S_2 1 4 = nI en5 from by exact h45) (by omega) (show S_2 1 2 = 0 from by exact h25)) (qmem_7 E ad S_2 A_3 b (show qk 1 = 7 from by decide +kernel)) (by decide) rfl gX7_readClause_X7_readEnd rfl rfl rfl (by decide +kernel) ⟨Nat.le_of_ble_eq_true rfl, Nat.le_of_ble_eq_true rfl⟩ rfl hl.1 rfl (Nat.le_of_ble_eq_true rfl) ⟨Nat.zero_le _, Nat.zero_le _⟩ dX7_readClause_134 (fun S_11 A_12 b_13 H locs qr_10 hM => ?_)
        obtain ⟨sk_14, esk_14⟩ : ∃ zz, zz = qsk (A_3 2) n en5 := ⟨_, rfl⟩
        have lsk_14 := qsk_le (A_3 2) n en5
        rw [← esk_14] at lsk_14 qr_10
        obtain ⟨⟨e2, e3⟩, hgS_11, h1S_11, h4S_11, hD⟩ := qr_10
        subst e2; subst e3
        rcases hD with ⟨hno, h2S_11, h3S_11⟩ | ⟨hyes, h2S_11, h3S_11⟩
        · skip
          exact q_vret C hM dX7_readClause_137 (by exact ⟨rfl, (fun i h1 h2 => by rw [hgS_11 i h1, hgS_2 i h1 h2]), (show S_11 1 1 = nI n from by exact h1S_11), hfA_3, Or.inl ⟨1, sk_14, by unfold qcl; rw [show qbody qstX (A 2) n a nC nP nK nW (S p, fun j => A (p + j)) = .inr (en5, P5) from by unfold qbody; rw [if_neg (fun z => c_14 z.1), if_neg (by rw [c_34]; decide), if_neg (by rw [c_34]; decide), if_neg (by rw [c_34]; decide), if_pos c_34, hn5]]; simp only [qbind, qend]; rw [hfA_3 2 (by omega)] at esk_14 hno; rw [← esk_14, if_neg hno], by omega, (show S_11 1 2 = 1 from by exact h2S_11), (show S_11 1 3 = nI sk_14 from by exact h3S_11), sk_14 + 1, by omega, (show S_11 1 4 = nI (sk_14 + 1) from by exact h4S_11)⟩⟩)
        · skip
          exact q_vret C hM dX7_readClause_137 (by exact ⟨rfl, (fun i h1 h2 => by rw [hgS_11 i h1, hgS_2 i h1 h2]), (show S_11 1 1 = nI n from by exact h1S_11), hfA_3, Or.inr ⟨sk_14 + 1, P5, by unfold qcl; rw [show qbody qstX (A 2) n a nC nP nK nW (S p, fun j => A (p + j)) = .inr (en5, P5) from by unfold qbody; rw [if_neg (fun z => c_14 z.1), if_neg (by rw [c_34]; decide), if_neg (by rw [c_34]; decide), if_neg (by rw [c_34]; decide), if_pos c_34, hn5]]; simp only [qbind, qend]; rw [hfA_3 2 (by omega)] at esk_14 hyes; rw [← esk_14, if_pos hyes], by omega, (show S_11 1 2 = 0 from by exact h2S_11), (show S_11 1 3 = S 1 3 from by rw [h3S_11]; rw [h35]), (show S_11 1 4 = nI (sk_14 + 1) from by exact h4S_11), by rw [hgS_11 p (by omega)]; exact hP5⟩⟩)
    have n_34_0 := c_34
    by_cases c_34 : A 2 a = 104
    · refine lv_lookup (off := 82) (tgt := 116) hx hb dX7_readClause_34 (by decide) (by rw [c_34]; rfl) (by decide) ?_
      refine lv_aload_n hx hb dX7_readClause_116 rfl (lv_at hl 1 rfl) ?_
      refine lv_aload_n hx hb dX7_readClause_117 rfl (lv_at hl 2 rfl) ?_
      refine q_callVV (n := 1) (o := 1) (As := [.ref (ad p)]) (rest := []) C hM hA (c_X7_readWind E ad l S A b p hp n a hln (by omega) hat (by omega) hk0 (by omega) nW hWi (by omega)) (qmem_7 E ad S A b (show qk 1 = 7 from by decide +kernel)) (by decide) rfl gX7_readClause_X7_readWind rfl rfl rfl (by decide +kernel) ⟨Nat.le_of_ble_eq_true rfl, Nat.le_of_ble_eq_true rfl⟩ rfl hl.1 rfl (Nat.le_of_ble_eq_true rfl) ⟨Nat.zero_le _, Nat.zero_le _⟩ dX7_readClause_118 (fun S_16 A_17 b_18 H locs qr_15 hM => ?_)
      obtain ⟨e3, hgS_16, h1S_16, hfA_17, hD⟩ := qr_15
      subst e3
      rcases hD with ⟨kd19, pl19, hn19, hk19, h219, h319, ax19, hax19, h419⟩ | ⟨en19, P19, hn19, hen19, h219, h319, h419, hP19⟩
      · skip
        refine lv_goto (tgt := 133) hx hb dX7_readClause_121 (by decide) ?_
        refine lv_aload_n hx hb dX7_readClause_133 rfl (lv_at hl 1 rfl) ?_
        refine q_callVV (n := 0) (o := 1) (As := []) (rest := []) C hM hA (c_X7_readEnd_k E ad l S_16 A_17 b (by rw [(show S_16 1 2 = nI kd19 from by exact h219)]; exact nI_ne0 (by omega) (by omega))) (qmem_7 E ad S_16 A_17 b (show qk 1 = 7 from by decide +kernel)) (by decide) rfl gX7_readClause_X7_readEnd rfl rfl rfl (by decide +kernel) ⟨Nat.le_of_ble_eq_true rfl, Nat.le_of_ble_eq_true rfl⟩ rfl hl.1 rfl (Nat.le_of_ble_eq_true rfl) ⟨Nat.zero_le _, Nat.zero_le _⟩ dX7_readClause_134 (fun S_21 A_22 b_23 H locs qr_20 hM => ?_)
        obtain ⟨e1, e2, e3⟩ := qr_20
        subst e1; subst e2; subst e3
        · skip
          exact q_vret C hM dX7_readClause_137 (by exact ⟨rfl, (fun i h1 h2 => by rw [hgS_16 i h1 h2]), (show S_16 1 1 = nI n from by exact h1S_16), hfA_17, Or.inl ⟨kd19, pl19, by unfold qcl; rw [show qbody qstX (A 2) n a nC nP nK nW (S p, fun j => A (p + j)) = .inl (kd19, pl19) from by unfold qbody; rw [if_neg (fun z => c_14 z.1), if_neg (by rw [c_34]; decide), if_neg (by rw [c_34]; decide), if_neg (by rw [c_34]; decide), if_neg (by rw [c_34]; decide), if_pos c_34, hn19]]; rfl, by omega, (show S_16 1 2 = nI kd19 from by exact h219), (show S_16 1 3 = nI pl19 from by exact h319), ax19, by omega, (show S_16 1 4 = nI ax19 from by exact h419)⟩⟩)
      · skip
        refine lv_goto (tgt := 133) hx hb dX7_readClause_121 (by decide) ?_
        refine lv_aload_n hx hb dX7_readClause_133 rfl (lv_at hl 1 rfl) ?_
        refine q_callVV (n := 0) (o := 1) (As := []) (rest := []) C hM hA (c_X7_readEnd E ad l S_16 A_17 b n en19 (show S_16 1 1 = nI n from by exact h1S_16) (by omega) (show S_16 1 4 = nI en19 from by exact h419) (by omega) (show S_16 1 2 = 0 from by exact h219)) (qmem_7 E ad S_16 A_17 b (show qk 1 = 7 from by decide +kernel)) (by decide) rfl gX7_readClause_X7_readEnd rfl rfl rfl (by decide +kernel) ⟨Nat.le_of_ble_eq_true rfl, Nat.le_of_ble_eq_true rfl⟩ rfl hl.1 rfl (Nat.le_of_ble_eq_true rfl) ⟨Nat.zero_le _, Nat.zero_le _⟩ dX7_readClause_134 (fun S_25 A_26 b_27 H locs qr_24 hM => ?_)
        obtain ⟨sk_28, esk_28⟩ : ∃ zz, zz = qsk (A_17 2) n en19 := ⟨_, rfl⟩
        have lsk_28 := qsk_le (A_17 2) n en19
        rw [← esk_28] at lsk_28 qr_24
        obtain ⟨⟨e2, e3⟩, hgS_25, h1S_25, h4S_25, hD⟩ := qr_24
        subst e2; subst e3
        rcases hD with ⟨hno, h2S_25, h3S_25⟩ | ⟨hyes, h2S_25, h3S_25⟩
        · skip
          exact q_vret C hM dX7_readClause_137 (by exact ⟨rfl, (fun i h1 h2 => by rw [hgS_25 i h1, hgS_16 i h1 h2]), (show S_25 1 1 = nI n from by exact h1S_25), hfA_17, Or.inl ⟨1, sk_28, by unfold qcl; rw [show qbody qstX (A 2) n a nC nP nK nW (S p, fun j => A (p + j)) = .inr (en19, P19) from by unfold qbody; rw [if_neg (fun z => c_14 z.1), if_neg (by rw [c_34]; decide), if_neg (by rw [c_34]; decide), if_neg (by rw [c_34]; decide), if_neg (by rw [c_34]; decide), if_pos c_34, hn19]]; simp only [qbind, qend]; rw [hfA_17 2 (by omega)] at esk_28 hno; rw [← esk_28, if_neg hno], by omega, (show S_25 1 2 = 1 from by exact h2S_25), (show S_25 1 3 = nI sk_28 from by exact h3S_25), sk_28 + 1, by omega, (show S_25 1 4 = nI (sk_28 + 1) from by exact h4S_25)⟩⟩)
        · skip
          exact q_vret C hM dX7_readClause_137 (by exact ⟨rfl, (fun i h1 h2 => by rw [hgS_25 i h1, hgS_16 i h1 h2]), (show S_25 1 1 = nI n from by exact h1S_25), hfA_17, Or.inr ⟨sk_28 + 1, P19, by unfold qcl; rw [show qbody qstX (A 2) n a nC nP nK nW (S p, fun j => A (p + j)) = .inr (en19, P19) from by unfold qbody; rw [if_neg (fun z => c_14 z.1), if_neg (by rw [c_34]; decide), if_neg (by rw [c_34]; decide), if_neg (by rw [c_34]; decide), if_neg (by rw [c_34]; decide), if_pos c_34, hn19]]; simp only [qbind, qend]; rw [hfA_17 2 (by omega)] at esk_28 hyes; rw [← esk_28, if_pos hyes], by omega, (show S_25 1 2 = 0 from by exact h2S_25), (show S_25 1 3 = S 1 3 from by rw [h3S_25]; rw [h319]), (show S_25 1 4 = nI (sk_28 + 1) from by exact h4S_25), by rw [hgS_25 p (by omega)]; exact hP19⟩⟩)
    have n_34_1 := c_34
    by_cases c_34 : A 2 a = 112
    · refine lv_lookup (off := 66) (tgt := 100) hx hb dX7_readClause_34 (by decide) (by rw [c_34]; rfl) (by decide) ?_
      refine lv_aload_n hx hb dX7_readClause_100 rfl (lv_at hl 1 rfl) ?_
      refine lv_aload_n hx hb dX7_readClause_101 rfl (lv_at hl 2 rfl) ?_
      refine q_callVV (n := 1) (o := 1) (As := [.ref (ad p)]) (rest := []) C hM hA (c_X7_readPost E ad l S A b p hp n a hln (by omega) hat (by omega) hk0 (by omega) nC hC (by omega) (by omega) nP hPo (by omega)) (qmem_7 E ad S A b (show qk 1 = 7 from by decide +kernel)) (by decide) rfl gX7_readClause_X7_readPost rfl rfl rfl (by decide +kernel) ⟨Nat.le_of_ble_eq_true rfl, Nat.le_of_ble_eq_true rfl⟩ rfl hl.1 rfl (Nat.le_of_ble_eq_true rfl) ⟨Nat.zero_le _, Nat.zero_le _⟩ dX7_readClause_102 (fun S_30 A_31 b_32 H locs qr_29 hM => ?_)
      obtain ⟨e3, hgS_30, h1S_30, hfA_31, hD⟩ := qr_29
      subst e3
      rcases hD with ⟨kd33, pl33, hn33, hk33, h233, h333, ax33, hax33, h433⟩ | ⟨en33, P33, hn33, hen33, h233, h333, h433, hP33⟩
      · skip
        refine lv_goto (tgt := 133) hx hb dX7_readClause_105 (by decide) ?_
        refine lv_aload_n hx hb dX7_readClause_133 rfl (lv_at hl 1 rfl) ?_
        refine q_callVV (n := 0) (o := 1) (As := []) (rest := []) C hM hA (c_X7_readEnd_k E ad l S_30 A_31 b (by rw [(show S_30 1 2 = nI kd33 from by exact h233)]; exact nI_ne0 (by omega) (by omega))) (qmem_7 E ad S_30 A_31 b (show qk 1 = 7 from by decide +kernel)) (by decide) rfl gX7_readClause_X7_readEnd rfl rfl rfl (by decide +kernel) ⟨Nat.le_of_ble_eq_true rfl, Nat.le_of_ble_eq_true rfl⟩ rfl hl.1 rfl (Nat.le_of_ble_eq_true rfl) ⟨Nat.zero_le _, Nat.zero_le _⟩ dX7_readClause_134 (fun S_35 A_36 b_37 H locs qr_34 hM => ?_)
        obtain ⟨e1, e2, e3⟩ := qr_34
        subst e1; subst e2; subst e3
        · skip
          exact q_vret C hM dX7_readClause_137 (by exact ⟨rfl, (fun i h1 h2 => by rw [hgS_30 i h1 h2]), (show S_30 1 1 = nI n from by exact h1S_30), hfA_31, Or.inl ⟨kd33, pl33, by unfold qcl; rw [show qbody qstX (A 2) n a nC nP nK nW (S p, fun j => A (p + j)) = .inl (kd33, pl33) from by unfold qbody; rw [if_neg (fun z => c_14 z.1), if_neg (by rw [c_34]; decide), if_neg (by rw [c_34]; decide), if_pos c_34, hn33]]; rfl, by omega, (show S_30 1 2 = nI kd33 from by exact h233), (show S_30 1 3 = nI pl33 from by exact h333), ax33, by omega, (show S_30 1 4 = nI ax33 from by exact h433)⟩⟩)
      · skip
        refine lv_goto (tgt := 133) hx hb dX7_readClause_105 (by decide) ?_
        refine lv_aload_n hx hb dX7_readClause_133 rfl (lv_at hl 1 rfl) ?_
        refine q_callVV (n := 0) (o := 1) (As := []) (rest := []) C hM hA (c_X7_readEnd E ad l S_30 A_31 b n en33 (show S_30 1 1 = nI n from by exact h1S_30) (by omega) (show S_30 1 4 = nI en33 from by exact h433) (by omega) (show S_30 1 2 = 0 from by exact h233)) (qmem_7 E ad S_30 A_31 b (show qk 1 = 7 from by decide +kernel)) (by decide) rfl gX7_readClause_X7_readEnd rfl rfl rfl (by decide +kernel) ⟨Nat.le_of_ble_eq_true rfl, Nat.le_of_ble_eq_true rfl⟩ rfl hl.1 rfl (Nat.le_of_ble_eq_true rfl) ⟨Nat.zero_le _, Nat.zero_le _⟩ dX7_readClause_134 (fun S_39 A_40 b_41 H locs qr_38 hM => ?_)
        obtain ⟨sk_42, esk_42⟩ : ∃ zz, zz = qsk (A_31 2) n en33 := ⟨_, rfl⟩
        have lsk_42 := qsk_le (A_31 2) n en33
        rw [← esk_42] at lsk_42 qr_38
        obtain ⟨⟨e2, e3⟩, hgS_39, h1S_39, h4S_39, hD⟩ := qr_38
        subst e2; subst e3
        rcases hD with ⟨hno, h2S_39, h3S_39⟩ | ⟨hyes, h2S_39, h3S_39⟩
        · skip
          exact q_vret C hM dX7_readClause_137 (by exact ⟨rfl, (fun i h1 h2 => by rw [hgS_39 i h1, hgS_30 i h1 h2]), (show S_39 1 1 = nI n from by exact h1S_39), hfA_31, Or.inl ⟨1, sk_42, by unfold qcl; rw [show qbody qstX (A 2) n a nC nP nK nW (S p, fun j => A (p + j)) = .inr (en33, P33) from by unfold qbody; rw [if_neg (fun z => c_14 z.1), if_neg (by rw [c_34]; decide), if_neg (by rw [c_34]; decide), if_pos c_34, hn33]]; simp only [qbind, qend]; rw [hfA_31 2 (by omega)] at esk_42 hno; rw [← esk_42, if_neg hno], by omega, (show S_39 1 2 = 1 from by exact h2S_39), (show S_39 1 3 = nI sk_42 from by exact h3S_39), sk_42 + 1, by omega, (show S_39 1 4 = nI (sk_42 + 1) from by exact h4S_39)⟩⟩)
        · skip
          exact q_vret C hM dX7_readClause_137 (by exact ⟨rfl, (fun i h1 h2 => by rw [hgS_39 i h1, hgS_30 i h1 h2]), (show S_39 1 1 = nI n from by exact h1S_39), hfA_31, Or.inr ⟨sk_42 + 1, P33, by unfold qcl; rw [show qbody qstX (A 2) n a nC nP nK nW (S p, fun j => A (p + j)) = .inr (en33, P33) from by unfold qbody; rw [if_neg (fun z => c_14 z.1), if_neg (by rw [c_34]; decide), if_neg (by rw [c_34]; decide), if_pos c_34, hn33]]; simp only [qbind, qend]; rw [hfA_31 2 (by omega)] at esk_42 hyes; rw [← esk_42, if_pos hyes], by omega, (show S_39 1 2 = 0 from by exact h2S_39), (show S_39 1 3 = S 1 3 from by rw [h3S_39]; rw [h333]), (show S_39 1 4 = nI (sk_42 + 1) from by exact h4S_39), by rw [hgS_39 p (by omega)]; exact hP33⟩⟩)
    have n_34_2 := c_34
    by_cases c_34 : A 2 a = 114
    · refine lv_lookup (off := 58) (tgt := 92) hx hb dX7_readClause_34 (by decide) (by rw [c_34]; rfl) (by decide) ?_
      refine lv_aload_n hx hb dX7_readClause_92 rfl (lv_at hl 1 rfl) ?_
      refine lv_aload_n hx hb dX7_readClause_93 rfl (lv_at hl 2 rfl) ?_
      refine q_callVV (n := 1) (o := 1) (As := [.ref (ad p)]) (rest := []) C hM hA (c_X7_readRoad E ad l S A b p hp n a hln (by omega) hat (by omega) hk0 (by omega) nC hC (by omega) (by omega)) (qmem_7 E ad S A b (show qk 1 = 7 from by decide +kernel)) (by decide) rfl gX7_readClause_X7_readRoad rfl rfl rfl (by decide +kernel) ⟨Nat.le_of_ble_eq_true rfl, Nat.le_of_ble_eq_true rfl⟩ rfl hl.1 rfl (Nat.le_of_ble_eq_true rfl) ⟨Nat.zero_le _, Nat.zero_le _⟩ dX7_readClause_94 (fun S_44 A_45 b_46 H locs qr_43 hM => ?_)
      obtain ⟨e3, hgS_44, h1S_44, hfA_45, hD⟩ := qr_43
      subst e3
      rcases hD with ⟨kd47, pl47, hn47, hk47, h247, h347, ax47, hax47, h447⟩ | ⟨en47, P47, hn47, hen47, h247, h347, h447, hP47⟩
      · skip
        refine lv_goto (tgt := 133) hx hb dX7_readClause_97 (by decide) ?_
        refine lv_aload_n hx hb dX7_readClause_133 rfl (lv_at hl 1 rfl) ?_
        refine q_callVV (n := 0) (o := 1) (As := []) (rest := []) C hM hA (c_X7_readEnd_k E ad l S_44 A_45 b (by rw [(show S_44 1 2 = nI kd47 from by exact h247)]; exact nI_ne0 (by omega) (by omega))) (qmem_7 E ad S_44 A_45 b (show qk 1 = 7 from by decide +kernel)) (by decide) rfl gX7_readClause_X7_readEnd rfl rfl rfl (by decide +kernel) ⟨Nat.le_of_ble_eq_true rfl, Nat.le_of_ble_eq_true rfl⟩ rfl hl.1 rfl (Nat.le_of_ble_eq_true rfl) ⟨Nat.zero_le _, Nat.zero_le _⟩ dX7_readClause_134 (fun S_49 A_50 b_51 H locs qr_48 hM => ?_)
        obtain ⟨e1, e2, e3⟩ := qr_48
        subst e1; subst e2; subst e3
        · skip
          exact q_vret C hM dX7_readClause_137 (by exact ⟨rfl, (fun i h1 h2 => by rw [hgS_44 i h1 h2]), (show S_44 1 1 = nI n from by exact h1S_44), hfA_45, Or.inl ⟨kd47, pl47, by unfold qcl; rw [show qbody qstX (A 2) n a nC nP nK nW (S p, fun j => A (p + j)) = .inl (kd47, pl47) from by unfold qbody; rw [if_neg (fun z => c_14 z.1), if_neg (by rw [c_34]; decide), if_pos c_34, hn47]]; rfl, by omega, (show S_44 1 2 = nI kd47 from by exact h247), (show S_44 1 3 = nI pl47 from by exact h347), ax47, by omega, (show S_44 1 4 = nI ax47 from by exact h447)⟩⟩)
      · skip
        refine lv_goto (tgt := 133) hx hb dX7_readClause_97 (by decide) ?_
        refine lv_aload_n hx hb dX7_readClause_133 rfl (lv_at hl 1 rfl) ?_
        refine q_callVV (n := 0) (o := 1) (As := []) (rest := []) C hM hA (c_X7_readEnd E ad l S_44 A_45 b n en47 (show S_44 1 1 = nI n from by exact h1S_44) (by omega) (show S_44 1 4 = nI en47 from by exact h447) (by omega) (show S_44 1 2 = 0 from by exact h247)) (qmem_7 E ad S_44 A_45 b (show qk 1 = 7 from by decide +kernel)) (by decide) rfl gX7_readClause_X7_readEnd rfl rfl rfl (by decide +kernel) ⟨Nat.le_of_ble_eq_true rfl, Nat.le_of_ble_eq_true rfl⟩ rfl hl.1 rfl (Nat.le_of_ble_eq_true rfl) ⟨Nat.zero_le _, Nat.zero_le _⟩ dX7_readClause_134 (fun S_53 A_54 b_55 H locs qr_52 hM => ?_)
        obtain ⟨sk_56, esk_56⟩ : ∃ zz, zz = qsk (A_45 2) n en47 := ⟨_, rfl⟩
        have lsk_56 := qsk_le (A_45 2) n en47
        rw [← esk_56] at lsk_56 qr_52
        obtain ⟨⟨e2, e3⟩, hgS_53, h1S_53, h4S_53, hD⟩ := qr_52
        subst e2; subst e3
        rcases hD with ⟨hno, h2S_53, h3S_53⟩ | ⟨hyes, h2S_53, h3S_53⟩
        · skip
          exact q_vret C hM dX7_readClause_137 (by exact ⟨rfl, (fun i h1 h2 => by rw [hgS_53 i h1, hgS_44 i h1 h2]), (show S_53 1 1 = nI n from by exact h1S_53), hfA_45, Or.inl ⟨1, sk_56, by unfold qcl; rw [show qbody qstX (A 2) n a nC nP nK nW (S p, fun j => A (p + j)) = .inr (en47, P47) from by unfold qbody; rw [if_neg (fun z => c_14 z.1), if_neg (by rw [c_34]; decide), if_pos c_34, hn47]]; simp only [qbind, qend]; rw [hfA_45 2 (by omega)] at esk_56 hno; rw [← esk_56, if_neg hno], by omega, (show S_53 1 2 = 1 from by exact h2S_53), (show S_53 1 3 = nI sk_56 from by exact h3S_53), sk_56 + 1, by omega, (show S_53 1 4 = nI (sk_56 + 1) from by exact h4S_53)⟩⟩)
        · skip
          exact q_vret C hM dX7_readClause_137 (by exact ⟨rfl, (fun i h1 h2 => by rw [hgS_53 i h1, hgS_44 i h1 h2]), (show S_53 1 1 = nI n from by exact h1S_53), hfA_45, Or.inr ⟨sk_56 + 1, P47, by unfold qcl; rw [show qbody qstX (A 2) n a nC nP nK nW (S p, fun j => A (p + j)) = .inr (en47, P47) from by unfold qbody; rw [if_neg (fun z => c_14 z.1), if_neg (by rw [c_34]; decide), if_pos c_34, hn47]]; simp only [qbind, qend]; rw [hfA_45 2 (by omega)] at esk_56 hyes; rw [← esk_56, if_pos hyes], by omega, (show S_53 1 2 = 0 from by exact h2S_53), (show S_53 1 3 = S 1 3 from by rw [h3S_53]; rw [h347]), (show S_53 1 4 = nI (sk_56 + 1) from by exact h4S_53), by rw [hgS_53 p (by omega)]; exact hP47⟩⟩)
    have n_34_3 := c_34
    by_cases c_34 : A 2 a = 119
    · refine lv_lookup (off := 50) (tgt := 84) hx hb dX7_readClause_34 (by decide) (by rw [c_34]; rfl) (by decide) ?_
      refine lv_aload_n hx hb dX7_readClause_84 rfl (lv_at hl 1 rfl) ?_
      refine lv_aload_n hx hb dX7_readClause_85 rfl (lv_at hl 2 rfl) ?_
      refine q_callVV (n := 1) (o := 1) (As := [.ref (ad p)]) (rest := []) C hM hA (c_X7_readWidth E ad l S A b p hp n a hln (by omega) hat (by omega) hk0 (by omega) nC hC (by omega)) (qmem_7 E ad S A b (show qk 1 = 7 from by decide +kernel)) (by decide) rfl gX7_readClause_X7_readWidth rfl rfl rfl (by decide +kernel) ⟨Nat.le_of_ble_eq_true rfl, Nat.le_of_ble_eq_true rfl⟩ rfl hl.1 rfl (Nat.le_of_ble_eq_true rfl) ⟨Nat.zero_le _, Nat.zero_le _⟩ dX7_readClause_86 (fun S_58 A_59 b_60 H locs qr_57 hM => ?_)
      obtain ⟨e3, hgS_58, h1S_58, hfA_59, hD⟩ := qr_57
      subst e3
      rcases hD with ⟨kd61, pl61, hn61, hk61, h261, h361, ax61, hax61, h461⟩ | ⟨en61, P61, hn61, hen61, h261, h361, h461, hP61⟩
      · skip
        refine lv_goto (tgt := 133) hx hb dX7_readClause_89 (by decide) ?_
        refine lv_aload_n hx hb dX7_readClause_133 rfl (lv_at hl 1 rfl) ?_
        refine q_callVV (n := 0) (o := 1) (As := []) (rest := []) C hM hA (c_X7_readEnd_k E ad l S_58 A_59 b (by rw [(show S_58 1 2 = nI kd61 from by exact h261)]; exact nI_ne0 (by omega) (by omega))) (qmem_7 E ad S_58 A_59 b (show qk 1 = 7 from by decide +kernel)) (by decide) rfl gX7_readClause_X7_readEnd rfl rfl rfl (by decide +kernel) ⟨Nat.le_of_ble_eq_true rfl, Nat.le_of_ble_eq_true rfl⟩ rfl hl.1 rfl (Nat.le_of_ble_eq_true rfl) ⟨Nat.zero_le _, Nat.zero_le _⟩ dX7_readClause_134 (fun S_63 A_64 b_65 H locs qr_62 hM => ?_)
        obtain ⟨e1, e2, e3⟩ := qr_62
        subst e1; subst e2; subst e3
        · skip
          exact q_vret C hM dX7_readClause_137 (by exact ⟨rfl, (fun i h1 h2 => by rw [hgS_58 i h1 h2]), (show S_58 1 1 = nI n from by exact h1S_58), hfA_59, Or.inl ⟨kd61, pl61, by unfold qcl; rw [show qbody qstX (A 2) n a nC nP nK nW (S p, fun j => A (p + j)) = .inl (kd61, pl61) from by unfold qbody; rw [if_neg (fun z => c_14 z.1), if_pos c_34, hn61]]; rfl, by omega, (show S_58 1 2 = nI kd61 from by exact h261), (show S_58 1 3 = nI pl61 from by exact h361), ax61, by omega, (show S_58 1 4 = nI ax61 from by exact h461)⟩⟩)
      · skip
        refine lv_goto (tgt := 133) hx hb dX7_readClause_89 (by decide) ?_
        refine lv_aload_n hx hb dX7_readClause_133 rfl (lv_at hl 1 rfl) ?_
        refine q_callVV (n := 0) (o := 1) (As := []) (rest := []) C hM hA (c_X7_readEnd E ad l S_58 A_59 b n en61 (show S_58 1 1 = nI n from by exact h1S_58) (by omega) (show S_58 1 4 = nI en61 from by exact h461) (by omega) (show S_58 1 2 = 0 from by exact h261)) (qmem_7 E ad S_58 A_59 b (show qk 1 = 7 from by decide +kernel)) (by decide) rfl gX7_readClause_X7_readEnd rfl rfl rfl (by decide +kernel) ⟨Nat.le_of_ble_eq_true rfl, Nat.le_of_ble_eq_true rfl⟩ rfl hl.1 rfl (Nat.le_of_ble_eq_true rfl) ⟨Nat.zero_le _, Nat.zero_le _⟩ dX7_readClause_134 (fun S_67 A_68 b_69 H locs qr_66 hM => ?_)
        obtain ⟨sk_70, esk_70⟩ : ∃ zz, zz = qsk (A_59 2) n en61 := ⟨_, rfl⟩
        have lsk_70 := qsk_le (A_59 2) n en61
        rw [← esk_70] at lsk_70 qr_66
        obtain ⟨⟨e2, e3⟩, hgS_67, h1S_67, h4S_67, hD⟩ := qr_66
        subst e2; subst e3
        rcases hD with ⟨hno, h2S_67, h3S_67⟩ | ⟨hyes, h2S_67, h3S_67⟩
        · skip
          exact q_vret C hM dX7_readClause_137 (by exact ⟨rfl, (fun i h1 h2 => by rw [hgS_67 i h1, hgS_58 i h1 h2]), (show S_67 1 1 = nI n from by exact h1S_67), hfA_59, Or.inl ⟨1, sk_70, by unfold qcl; rw [show qbody qstX (A 2) n a nC nP nK nW (S p, fun j => A (p + j)) = .inr (en61, P61) from by unfold qbody; rw [if_neg (fun z => c_14 z.1), if_pos c_34, hn61]]; simp only [qbind, qend]; rw [hfA_59 2 (by omega)] at esk_70 hno; rw [← esk_70, if_neg hno], by omega, (show S_67 1 2 = 1 from by exact h2S_67), (show S_67 1 3 = nI sk_70 from by exact h3S_67), sk_70 + 1, by omega, (show S_67 1 4 = nI (sk_70 + 1) from by exact h4S_67)⟩⟩)
        · skip
          exact q_vret C hM dX7_readClause_137 (by exact ⟨rfl, (fun i h1 h2 => by rw [hgS_67 i h1, hgS_58 i h1 h2]), (show S_67 1 1 = nI n from by exact h1S_67), hfA_59, Or.inr ⟨sk_70 + 1, P61, by unfold qcl; rw [show qbody qstX (A 2) n a nC nP nK nW (S p, fun j => A (p + j)) = .inr (en61, P61) from by unfold qbody; rw [if_neg (fun z => c_14 z.1), if_pos c_34, hn61]]; simp only [qbind, qend]; rw [hfA_59 2 (by omega)] at esk_70 hyes; rw [← esk_70, if_pos hyes], by omega, (show S_67 1 2 = 0 from by exact h2S_67), (show S_67 1 3 = S 1 3 from by rw [h3S_67]; rw [h361]), (show S_67 1 4 = nI (sk_70 + 1) from by exact h4S_67), by rw [hgS_67 p (by omega)]; exact hP61⟩⟩)
    have n_34_4 := c_34
    have m_34_0 := q_neJ (i := 99) (by decide) n_34_0
    have m_34_1 := q_neJ (i := 104) (by decide) n_34_1
    have m_34_2 := q_neJ (i := 112) (by decide) n_34_2
    have m_34_3 := q_neJ (i := 114) (by decide) n_34_3
    have m_34_4 := q_neJ (i := 119) (by decide) n_34_4
    refine lv_lookup (off := 90) (tgt := 124) hx hb dX7_readClause_34 (by decide) (by simp [Op.lookupswitch.offset, m_34_0, m_34_1, m_34_2, m_34_3, m_34_4]) (by decide) ?_
    refine lv_aload_n hx hb dX7_readClause_124 rfl (lv_at hl 1 rfl) ?_
    refine lv_iconst (v := 1) hx hb dX7_readClause_125 (by decide) ?_
    refine lv_aload_n hx hb dX7_readClause_126 rfl (lv_at hl 1 rfl) ?_
    refine q_get (o := 1) (ci := 7) (k := 4) (T := TX7) (v := .int (S 1 4)) C hM (qmem_7 E ad S A b (show qk 1 = 7 from by decide +kernel)) (by decide) rfl hi7 (by decide) hL1 rfl rfl dX7_readClause_127 ?_
    refine lv_as (y := nI a) hat ?_
    refine q_callVV (n := 2) (o := 1) (As := [.int 1, .int (nI a)]) (rest := []) C hM hA (c_X7_refuse E ad l S A b 1 (nI a) hk0) (qmem_7 E ad S A b (show qk 1 = 7 from by decide +kernel)) (by decide) rfl gX7_readClause_X7_refuse rfl rfl rfl (by decide +kernel) ⟨Nat.le_of_ble_eq_true rfl, Nat.le_of_ble_eq_true rfl⟩ rfl hl.1 rfl (Nat.le_of_ble_eq_true rfl) ⟨Nat.zero_le _, Nat.zero_le _⟩ dX7_readClause_130 (fun S_72 A_73 b_74 H locs qr_71 hM => ?_)
    obtain ⟨eS_72, e2, e3⟩ := qr_71
    subst e2; subst e3
    obtain ⟨S_75, eS_75⟩ : ∃ zz, zz = q2 S 1 2 1 := ⟨_, rfl⟩
    rw [← eS_75] at eS_72
    refine lv_aload_n hx hb dX7_readClause_133 rfl (lv_at hl 1 rfl) ?_
    refine q_callVV (n := 0) (o := 1) (As := []) (rest := []) C hM hA (c_X7_readEnd_k E ad l S_72 A b (by rw [(show S_72 1 2 = 1 from by rw [eS_72, q2_k _ _ (by omega)]; rw [eS_75]; exact q2_s _ _ _ _)]; exact (by decide))) (qmem_7 E ad S_72 A b (show qk 1 = 7 from by decide +kernel)) (by decide) rfl gX7_readClause_X7_readEnd rfl rfl rfl (by decide +kernel) ⟨Nat.le_of_ble_eq_true rfl, Nat.le_of_ble_eq_true rfl⟩ rfl hl.1 rfl (Nat.le_of_ble_eq_true rfl) ⟨Nat.zero_le _, Nat.zero_le _⟩ dX7_readClause_134 (fun S_77 A_78 b_79 H locs qr_76 hM => ?_)
    obtain ⟨e1, e2, e3⟩ := qr_76
    subst e1; subst e2; subst e3
    · skip
      exact q_vret C hM dX7_readClause_137 (by exact ⟨rfl, (fun i h1 h2 => by rw [eS_72, q2_or _ _ h1, eS_75, q2_or _ _ h1]), ((show S_72 1 1 = S 1 1 from by rw [eS_72, q2_k _ _ (by omega)]; rw [eS_75, q2_k _ _ (by omega)]).trans hln), (fun _ _ => rfl), Or.inl ⟨1, a, by unfold qcl; rw [show qbody qstX (A 2) n a nC nP nK nW (S p, fun j => A (p + j)) = .inl (1, a) from by unfold qbody; rw [if_neg (fun z => c_14 z.1), if_neg n_34_4, if_neg n_34_3, if_neg n_34_2, if_neg n_34_0, if_neg n_34_1]]; rfl, by omega, (show S_72 1 2 = 1 from by rw [eS_72, q2_k _ _ (by omega)]; rw [eS_75]; exact q2_s _ _ _ _), (show S_72 1 3 = nI a from by rw [eS_72]; exact q2_s _ _ _ _), a, by omega, ((show S_72 1 4 = S 1 4 from by rw [eS_72, q2_k _ _ (by omega)]; rw [eS_75, q2_k _ _ (by omega)]).trans hat)⟩⟩)
  · skip
    have c_14 : nC = 0 := (nI_eq (a := nC) (b := 0) (by omega) (by omega)).mp c_14
    refine lv_iload_n hx hb dX7_readClause_17 rfl (lv_at hl 0 rfl) ?_
    refine lv_bipush (v := 119) hx hb dX7_readClause_18 (by decide) ?_
    refine lv_icmp_eq (tgt := 33) hx hb dX7_readClause_20 (by decide) (fun c_20 => ?_) (fun c_20 => ?_)
    · skip
      refine lv_iload_n hx hb dX7_readClause_33 rfl (lv_at hl 0 rfl) ?_
      by_cases c_34 : A 2 a = 99
      · refine lv_lookup (off := 74) (tgt := 108) hx hb dX7_readClause_34 (by decide) (by rw [c_34]; rfl) (by decide) ?_
        exact absurd (c_34.symm.trans c_20) (by decide)
      have n_34_0 := c_34
      by_cases c_34 : A 2 a = 104
      · refine lv_lookup (off := 82) (tgt := 116) hx hb dX7_readClause_34 (by decide) (by rw [c_34]; rfl) (by decide) ?_
        exact absurd (c_34.symm.trans c_20) (by decide)
      have n_34_1 := c_34
      by_cases c_34 : A 2 a = 112
      · refine lv_lookup (off := 66) (tgt := 100) hx hb dX7_readClause_34 (by decide) (by rw [c_34]; rfl) (by decide) ?_
        exact absurd (c_34.symm.trans c_20) (by decide)
      have n_34_2 := c_34
      by_cases c_34 : A 2 a = 114
      · refine lv_lookup (off := 58) (tgt := 92) hx hb dX7_readClause_34 (by decide) (by rw [c_34]; rfl) (by decide) ?_
        exact absurd (c_34.symm.trans c_20) (by decide)
      have n_34_3 := c_34
      by_cases c_34 : A 2 a = 119
      · refine lv_lookup (off := 50) (tgt := 84) hx hb dX7_readClause_34 (by decide) (by rw [c_34]; rfl) (by decide) ?_
        refine lv_aload_n hx hb dX7_readClause_84 rfl (lv_at hl 1 rfl) ?_
        refine lv_aload_n hx hb dX7_readClause_85 rfl (lv_at hl 2 rfl) ?_
        refine q_callVV (n := 1) (o := 1) (As := [.ref (ad p)]) (rest := []) C hM hA (c_X7_readWidth E ad l S A b p hp n a hln (by omega) hat (by omega) hk0 (by omega) nC hC (by omega)) (qmem_7 E ad S A b (show qk 1 = 7 from by decide +kernel)) (by decide) rfl gX7_readClause_X7_readWidth rfl rfl rfl (by decide +kernel) ⟨Nat.le_of_ble_eq_true rfl, Nat.le_of_ble_eq_true rfl⟩ rfl hl.1 rfl (Nat.le_of_ble_eq_true rfl) ⟨Nat.zero_le _, Nat.zero_le _⟩ dX7_readClause_86 (fun S_81 A_82 b_83 H locs qr_80 hM => ?_)
        obtain ⟨e3, hgS_81, h1S_81, hfA_82, hD⟩ := qr_80
        subst e3
        rcases hD with ⟨kd84, pl84, hn84, hk84, h284, h384, ax84, hax84, h484⟩ | ⟨en84, P84, hn84, hen84, h284, h384, h484, hP84⟩
        · skip
          refine lv_goto (tgt := 133) hx hb dX7_readClause_89 (by decide) ?_
          refine lv_aload_n hx hb dX7_readClause_133 rfl (lv_at hl 1 rfl) ?_
          refine q_callVV (n := 0) (o := 1) (As := []) (rest := []) C hM hA (c_X7_readEnd_k E ad l S_81 A_82 b (by rw [(show S_81 1 2 = nI kd84 from by exact h284)]; exact nI_ne0 (by omega) (by omega))) (qmem_7 E ad S_81 A_82 b (show qk 1 = 7 from by decide +kernel)) (by decide) rfl gX7_readClause_X7_readEnd rfl rfl rfl (by decide +kernel) ⟨Nat.le_of_ble_eq_true rfl, Nat.le_of_ble_eq_true rfl⟩ rfl hl.1 rfl (Nat.le_of_ble_eq_true rfl) ⟨Nat.zero_le _, Nat.zero_le _⟩ dX7_readClause_134 (fun S_86 A_87 b_88 H locs qr_85 hM => ?_)
          obtain ⟨e1, e2, e3⟩ := qr_85
          subst e1; subst e2; subst e3
          · skip
            exact q_vret C hM dX7_readClause_137 (by exact ⟨rfl, (fun i h1 h2 => by rw [hgS_81 i h1 h2]), (show S_81 1 1 = nI n from by exact h1S_81), hfA_82, Or.inl ⟨kd84, pl84, by unfold qcl; rw [show qbody qstX (A 2) n a nC nP nK nW (S p, fun j => A (p + j)) = .inl (kd84, pl84) from by unfold qbody; rw [if_neg (fun z => z.2 c_20), if_pos c_34, hn84]]; rfl, by omega, (show S_81 1 2 = nI kd84 from by exact h284), (show S_81 1 3 = nI pl84 from by exact h384), ax84, by omega, (show S_81 1 4 = nI ax84 from by exact h484)⟩⟩)
        · skip
          refine lv_goto (tgt := 133) hx hb dX7_readClause_89 (by decide) ?_
          refine lv_aload_n hx hb dX7_readClause_133 rfl (lv_at hl 1 rfl) ?_
          refine q_callVV (n := 0) (o := 1) (As := []) (rest := []) C hM hA (c_X7_readEnd E ad l S_81 A_82 b n en84 (show S_81 1 1 = nI n from by exact h1S_81) (by omega) (show S_81 1 4 = nI en84 from by exact h484) (by omega) (show S_81 1 2 = 0 from by exact h284)) (qmem_7 E ad S_81 A_82 b (show qk 1 = 7 from by decide +kernel)) (by decide) rfl gX7_readClause_X7_readEnd rfl rfl rfl (by decide +kernel) ⟨Nat.le_of_ble_eq_true rfl, Nat.le_of_ble_eq_true rfl⟩ rfl hl.1 rfl (Nat.le_of_ble_eq_true rfl) ⟨Nat.zero_le _, Nat.zero_le _⟩ dX7_readClause_134 (fun S_90 A_91 b_92 H locs qr_89 hM => ?_)
          obtain ⟨sk_93, esk_93⟩ : ∃ zz, zz = qsk (A_82 2) n en84 := ⟨_, rfl⟩
          have lsk_93 := qsk_le (A_82 2) n en84
          rw [← esk_93] at lsk_93 qr_89
          obtain ⟨⟨e2, e3⟩, hgS_90, h1S_90, h4S_90, hD⟩ := qr_89
          subst e2; subst e3
          rcases hD with ⟨hno, h2S_90, h3S_90⟩ | ⟨hyes, h2S_90, h3S_90⟩
          · skip
            exact q_vret C hM dX7_readClause_137 (by exact ⟨rfl, (fun i h1 h2 => by rw [hgS_90 i h1, hgS_81 i h1 h2]), (show S_90 1 1 = nI n from by exact h1S_90), hfA_82, Or.inl ⟨1, sk_93, by unfold qcl; rw [show qbody qstX (A 2) n a nC nP nK nW (S p, fun j => A (p + j)) = .inr (en84, P84) from by unfold qbody; rw [if_neg (fun z => z.2 c_20), if_pos c_34, hn84]]; simp only [qbind, qend]; rw [hfA_82 2 (by omega)] at esk_93 hno; rw [← esk_93, if_neg hno], by omega, (show S_90 1 2 = 1 from by exact h2S_90), (show S_90 1 3 = nI sk_93 from by exact h3S_90), sk_93 + 1, by omega, (show S_90 1 4 = nI (sk_93 + 1) from by exact h4S_90)⟩⟩)
          · skip
            exact q_vret C hM dX7_readClause_137 (by exact ⟨rfl, (fun i h1 h2 => by rw [hgS_90 i h1, hgS_81 i h1 h2]), (show S_90 1 1 = nI n from by exact h1S_90), hfA_82, Or.inr ⟨sk_93 + 1, P84, by unfold qcl; rw [show qbody qstX (A 2) n a nC nP nK nW (S p, fun j => A (p + j)) = .inr (en84, P84) from by unfold qbody; rw [if_neg (fun z => z.2 c_20), if_pos c_34, hn84]]; simp only [qbind, qend]; rw [hfA_82 2 (by omega)] at esk_93 hyes; rw [← esk_93, if_pos hyes], by omega, (show S_90 1 2 = 0 from by exact h2S_90), (show S_90 1 3 = S 1 3 from by rw [h3S_90]; rw [h384]), (show S_90 1 4 = nI (sk_93 + 1) from by exact h4S_90), by rw [hgS_90 p (by omega)]; exact hP84⟩⟩)
      have n_34_4 := c_34
      have m_34_0 := q_neJ (i := 99) (by decide) n_34_0
      have m_34_1 := q_neJ (i := 104) (by decide) n_34_1
      have m_34_2 := q_neJ (i := 112) (by decide) n_34_2
      have m_34_3 := q_neJ (i := 114) (by decide) n_34_3
      have m_34_4 := q_neJ (i := 119) (by decide) n_34_4
      refine lv_lookup (off := 90) (tgt := 124) hx hb dX7_readClause_34 (by decide) (by simp [Op.lookupswitch.offset, m_34_0, m_34_1, m_34_2, m_34_3, m_34_4]) (by decide) ?_
      refine lv_aload_n hx hb dX7_readClause_124 rfl (lv_at hl 1 rfl) ?_
      refine lv_iconst (v := 1) hx hb dX7_readClause_125 (by decide) ?_
      refine lv_aload_n hx hb dX7_readClause_126 rfl (lv_at hl 1 rfl) ?_
      refine q_get (o := 1) (ci := 7) (k := 4) (T := TX7) (v := .int (S 1 4)) C hM (qmem_7 E ad S A b (show qk 1 = 7 from by decide +kernel)) (by decide) rfl hi7 (by decide) hL1 rfl rfl dX7_readClause_127 ?_
      refine lv_as (y := nI a) hat ?_
      refine q_callVV (n := 2) (o := 1) (As := [.int 1, .int (nI a)]) (rest := []) C hM hA (c_X7_refuse E ad l S A b 1 (nI a) hk0) (qmem_7 E ad S A b (show qk 1 = 7 from by decide +kernel)) (by decide) rfl gX7_readClause_X7_refuse rfl rfl rfl (by decide +kernel) ⟨Nat.le_of_ble_eq_true rfl, Nat.le_of_ble_eq_true rfl⟩ rfl hl.1 rfl (Nat.le_of_ble_eq_true rfl) ⟨Nat.zero_le _, Nat.zero_le _⟩ dX7_readClause_130 (fun S_95 A_96 b_97 H locs qr_94 hM => ?_)
      obtain ⟨eS_95, e2, e3⟩ := qr_94
      subst e2; subst e3
      obtain ⟨S_98, eS_98⟩ : ∃ zz, zz = q2 S 1 2 1 := ⟨_, rfl⟩
      rw [← eS_98] at eS_95
      refine lv_aload_n hx hb dX7_readClause_133 rfl (lv_at hl 1 rfl) ?_
      refine q_callVV (n := 0) (o := 1) (As := []) (rest := []) C hM hA (c_X7_readEnd_k E ad l S_95 A b (by rw [(show S_95 1 2 = 1 from by rw [eS_95, q2_k _ _ (by omega)]; rw [eS_98]; exact q2_s _ _ _ _)]; exact (by decide))) (qmem_7 E ad S_95 A b (show qk 1 = 7 from by decide +kernel)) (by decide) rfl gX7_readClause_X7_readEnd rfl rfl rfl (by decide +kernel) ⟨Nat.le_of_ble_eq_true rfl, Nat.le_of_ble_eq_true rfl⟩ rfl hl.1 rfl (Nat.le_of_ble_eq_true rfl) ⟨Nat.zero_le _, Nat.zero_le _⟩ dX7_readClause_134 (fun S_100 A_101 b_102 H locs qr_99 hM => ?_)
      obtain ⟨e1, e2, e3⟩ := qr_99
      subst e1; subst e2; subst e3
      · skip
        exact q_vret C hM dX7_readClause_137 (by exact absurd c_20 n_34_4)
    · skip
      refine lv_aload_n hx hb dX7_readClause_23 rfl (lv_at hl 1 rfl) ?_
      refine lv_iconst (v := 1) hx hb dX7_readClause_24 (by decide) ?_
      refine lv_aload_n hx hb dX7_readClause_25 rfl (lv_at hl 1 rfl) ?_
      refine q_get (o := 1) (ci := 7) (k := 4) (T := TX7) (v := .int (S 1 4)) C hM (qmem_7 E ad S A b (show qk 1 = 7 from by decide +kernel)) (by decide) rfl hi7 (by decide) hL1 rfl rfl dX7_readClause_26 ?_
      refine lv_as (y := nI a) hat ?_
      refine q_callVV (n := 2) (o := 1) (As := [.int 1, .int (nI a)]) (rest := []) C hM hA (c_X7_refuse E ad l S A b 1 (nI a) hk0) (qmem_7 E ad S A b (show qk 1 = 7 from by decide +kernel)) (by decide) rfl gX7_readClause_X7_refuse rfl rfl rfl (by decide +kernel) ⟨Nat.le_of_ble_eq_true rfl, Nat.le_of_ble_eq_true rfl⟩ rfl hl.1 rfl (Nat.le_of_ble_eq_true rfl) ⟨Nat.zero_le _, Nat.zero_le _⟩ dX7_readClause_29 (fun S_104 A_105 b_106 H locs qr_103 hM => ?_)
      obtain ⟨eS_104, e2, e3⟩ := qr_103
      subst e2; subst e3
      obtain ⟨S_107, eS_107⟩ : ∃ zz, zz = q2 S 1 2 1 := ⟨_, rfl⟩
      rw [← eS_107] at eS_104
      exact q_vret C hM dX7_readClause_32 (by exact ⟨rfl, (fun i h1 h2 => by rw [eS_104, q2_or _ _ h1, eS_107, q2_or _ _ h1]), ((show S_104 1 1 = S 1 1 from by rw [eS_104, q2_k _ _ (by omega)]; rw [eS_107, q2_k _ _ (by omega)]).trans hln), (fun _ _ => rfl), Or.inl ⟨1, a, by unfold qcl; rw [show qbody qstX (A 2) n a nC nP nK nW (S p, fun j => A (p + j)) = .inl (1, a) from by unfold qbody; rw [if_pos ⟨c_14, c_20⟩]]; rfl, by omega, (show S_104 1 2 = 1 from by rw [eS_104, q2_k _ _ (by omega)]; rw [eS_107]; exact q2_s _ _ _ _), (show S_104 1 3 = nI a from by rw [eS_104]; exact q2_s _ _ _ _), a, by omega, ((show S_104 1 4 = S 1 4 from by rw [eS_104, q2_k _ _ (by omega)]; rw [eS_107, q2_k _ _ (by omega)]).trans hat)⟩⟩)

set_option maxHeartbeats 4000000 in
set_option maxRecDepth 100000 in
theorem c_X7_readInto (E : qE) (ad : Nat → Nat) (l : Launch) (S A : qA2) (b : qB) (p : Nat) (hp : qpl p) (n : Nat) (hln : S 1 1 = nI n) (hnb : n ≤ 240) : MV E ad l yX7_readInto wsX7_readInto { frames := 4, cells := 0, slots := 0, locals := 91 } [.ref (ad 1), .ref (ad p)] S A b (fun S' A' b' => b = b' ∧ (∀ i, i ≠ 1 → i ≠ p → S' i = S i) ∧ S' 1 1 = 0 ∧ (∀ i, (i ≤ p ∨ p + 6 < i) → A' i = A i) ∧ ((∃ kd pl, qparse qstX (A 2) n 240 (qsk (A 2) n 0) (upd (upd (upd (upd (upd (S p) 0 0) 3 0) 4 0) 5 0) 6 0, fun j => A (p + j)) = .inl (kd, pl) ∧ (1 ≤ kd ∧ kd ≤ 4) ∧ S' 1 2 = nI kd ∧ S' 1 3 = nI pl) ∨ (qparse qstX (A 2) n 240 (qsk (A 2) n 0) (upd (upd (upd (upd (upd (S p) 0 0) 3 0) 4 0) 5 0) 6 0, fun j => A (p + j)) = .inr (S' p, fun j => A' (p + j)) ∧ qPok (S' p) ∧ S' 1 2 = 0 ∧ S' 1 3 = -1))) := by
  obtain ⟨⟨kp, kp1, kp2, kp3, kp4, kp5, kp6⟩, ⟨lp1, lp2, lp3, lp4, lp5, lp6⟩, bp, bp7⟩ := qpl_all hp
  refine MV.of (cc := cX7_readInto) (maxL := 3) (ret := none) RX7 rfl (by decide) rfl ?_
  intro pg e s m below meth cd C hM
  have hx := C.1
  have hb := C.2.1
  have hts := C.2.2.2.2.1
  have hA : ∀ q, s.heap.size ≤ q → qAr ad s.heap.size q := fun _ h => Or.inr h
  have hi7 : ∀ w ∈ u_ws RX7 TX7 6, w ∈ wsX7_readInto := by decide +kernel
  have hL0 := hts (.fieldLink RX7 27 "CrowFences$Text" "faultKind" "I") (by decide +kernel)
  have hL1 := hts (.fieldLink RX7 15 "CrowFences$Text" "faultAt" "I") (by decide +kernel)
  have hL2 := hts (.fieldLink RX7 30 "CrowFences$Text" "at" "I") (by decide +kernel)
  have hL3 := hts (.fieldLink RX7 19 "CrowFences$Text" "length" "I") (by decide +kernel)
  have hl := lv_entry ([.ref (ad 1), .ref (ad p)]) (n := 3) (Nat.le_of_ble_eq_true rfl)
  rw [lg_entry_eq]
  generalize (lg_sl ([.ref (ad 1), .ref (ad p)]) ++ List.replicate (3 - (lg_sl ([.ref (ad 1), .ref (ad p)])).length) Slot.unset).toArray = ls at hl ⊢
  have hl : lv_has ls 3 [(0, .ref (ad 1)), (1, .ref (ad p))] := hl
  refine lv_aload_n hx hb dX7_readInto_0 rfl (lv_at hl 1 rfl) ?_
  refine q_callVV (n := 0) (o := p) (As := []) (rest := []) C hM hA (c_X5_clear E ad l S A b p hp) (qmem_5 E ad S A b kp) (by omega) rfl gX7_readInto_X5_clear rfl rfl rfl (by decide +kernel) ⟨Nat.le_of_ble_eq_true rfl, Nat.le_of_ble_eq_true rfl⟩ rfl hl.1 rfl (Nat.le_of_ble_eq_true rfl) ⟨Nat.zero_le _, Nat.zero_le _⟩ dX7_readInto_1 (fun S_2 A_3 b_4 H locs qr_1 hM => ?_)
  obtain ⟨hS_2, e2, e3⟩ := qr_1
  subst e2; subst e3
  obtain ⟨S_5, eS_5⟩ : ∃ zz, zz = q2 S p 0 0 := ⟨_, rfl⟩
  rw [← eS_5] at hS_2
  obtain ⟨S_6, eS_6⟩ : ∃ zz, zz = q2 S_5 p 3 0 := ⟨_, rfl⟩
  rw [← eS_6] at hS_2
  obtain ⟨S_7, eS_7⟩ : ∃ zz, zz = q2 S_6 p 4 0 := ⟨_, rfl⟩
  rw [← eS_7] at hS_2
  obtain ⟨S_8, eS_8⟩ : ∃ zz, zz = q2 S_7 p 5 0 := ⟨_, rfl⟩
  rw [← eS_8] at hS_2
  refine lv_aload_n hx hb dX7_readInto_4 rfl (lv_at hl 0 rfl) ?_
  refine lv_iconst (v := 0) hx hb dX7_readInto_5 (by decide) ?_
  refine q_put (o := 1) (ci := 7) (k := 2) (T := TX7) (ty := .int) (v := 0) C hM (qmem_7 E ad S_2 A b (show qk 1 = 7 from by decide +kernel)) (by decide) rfl hi7 tyX7 tyX7_ok nmX7 (by decide) hL0 rfl rfl (by decide +kernel) rfl rfl (Nat.le_of_ble_eq_true rfl) (qs_7_2 E ad S_2 A b (show qk 1 = 7 from by decide +kernel) 0) dX7_readInto_6 (fun H locs hM => ?_)
  obtain ⟨S_9, eS_9⟩ : ∃ zz, zz = q2 S_2 1 2 0 := ⟨_, rfl⟩
  rw [← eS_9] at hM
  refine lv_aload_n hx hb dX7_readInto_9 rfl (lv_at hl 0 rfl) ?_
  refine lv_iconst (v := (-1)) hx hb dX7_readInto_10 (by decide) ?_
  refine q_put (o := 1) (ci := 7) (k := 3) (T := TX7) (ty := .int) (v := (-1)) C hM (qmem_7 E ad S_9 A b (show qk 1 = 7 from by decide +kernel)) (by decide) rfl hi7 tyX7 tyX7_ok nmX7 (by decide) hL1 rfl rfl (by decide +kernel) rfl rfl (Nat.le_of_ble_eq_true rfl) (qs_7_3 E ad S_9 A b (show qk 1 = 7 from by decide +kernel) (-1)) dX7_readInto_11 (fun H locs hM => ?_)
  obtain ⟨S_10, eS_10⟩ : ∃ zz, zz = q2 S_9 1 3 (-1) := ⟨_, rfl⟩
  rw [← eS_10] at hM
  refine lv_aload_n hx hb dX7_readInto_14 rfl (lv_at hl 0 rfl) ?_
  refine lv_iconst (v := 0) hx hb dX7_readInto_15 (by decide) ?_
  refine q_put (o := 1) (ci := 7) (k := 4) (T := TX7) (ty := .int) (v := 0) C hM (qmem_7 E ad S_10 A b (show qk 1 = 7 from by decide +kernel)) (by decide) rfl hi7 tyX7 tyX7_ok nmX7 (by decide) hL2 rfl rfl (by decide +kernel) rfl rfl (Nat.le_of_ble_eq_true rfl) (qs_7_4 E ad S_10 A b (show qk 1 = 7 from by decide +kernel) 0) dX7_readInto_16 (fun H locs hM => ?_)
  obtain ⟨S_11, eS_11⟩ : ∃ zz, zz = q2 S_10 1 4 0 := ⟨_, rfl⟩
  rw [← eS_11] at hM
  refine lv_aload_n hx hb dX7_readInto_19 rfl (lv_at hl 0 rfl) ?_
  refine q_callVV (n := 0) (o := 1) (As := []) (rest := []) C hM hA (c_X7_skipBlanks E ad l S_11 A b n 0 ((show S_11 1 1 = S 1 1 from by rw [eS_11, q2_k _ _ (by omega)]; rw [eS_10, q2_k _ _ (by omega)]; rw [eS_9, q2_k _ _ (by omega)]; rw [hS_2, q2_o _ _ (by omega)]; rw [eS_8, q2_o _ _ (by omega)]; rw [eS_7, q2_o _ _ (by omega)]; rw [eS_6, q2_o _ _ (by omega)]; rw [eS_5, q2_o _ _ (by omega)]).trans hln) (by omega) (show S_11 1 4 = 0 from by rw [eS_11]; exact q2_s _ _ _ _) (by omega)) (qmem_7 E ad S_11 A b (show qk 1 = 7 from by decide +kernel)) (by decide) rfl gX7_readInto_X7_skipBlanks rfl rfl rfl (by decide +kernel) ⟨Nat.le_of_ble_eq_true rfl, Nat.le_of_ble_eq_true rfl⟩ rfl hl.1 rfl (Nat.le_of_ble_eq_true rfl) ⟨Nat.zero_le _, Nat.zero_le _⟩ dX7_readInto_20 (fun S_13 A_14 b_15 H locs qr_12 hM => ?_)
  obtain ⟨eS_13, e2, e3⟩ := qr_12
  subst e2; subst e3
  obtain ⟨sk_16, esk_16⟩ : ∃ zz, zz = qsk (A 2) n 0 := ⟨_, rfl⟩
  have lsk_16 := qsk_le (A 2) n 0
  rw [← esk_16] at eS_13 lsk_16
  refine lv_iconst (v := 0) hx hb dX7_readInto_23 (by decide) ?_
  refine lv_istore_n (lv' := [(2, .int 0), (0, .ref (ad 1)), (1, .ref (ad p))]) hx hb dX7_readInto_24 rfl hl (by decide) rfl (fun ls hl => ?_)
  have loop25 : ∀ (fu : Nat) (ga : Nat) (gk : Nat) (k : Nat) (S25 : qA2) (A25 : qA2) (hk : k ≤ 240) (hga : ga ≤ 245) (hat : S25 1 4 = nI ga) (h1n : S25 1 1 = nI n) (hgk : S25 1 2 = nI gk) (hm0 : gk = 0 → qPok (S25 p) ∧ qparse qstX (A 2) n 240 (qsk (A 2) n 0) (upd (upd (upd (upd (upd (S p) 0 0) 3 0) 4 0) 5 0) 6 0, fun j => A (p + j)) = qparse qstX (A 2) n (240 - k) ga (S25 p, fun j => A25 (p + j)) ∧ S25 1 3 = -1) (hm1 : ¬ gk = 0 → ∃ pl, qparse qstX (A 2) n 240 (qsk (A 2) n 0) (upd (upd (upd (upd (upd (S p) 0 0) 3 0) 4 0) 5 0) 6 0, fun j => A (p + j)) = .inl (gk, pl) ∧ S25 1 3 = nI pl ∧ gk ≤ 4) (hfA : ∀ i, (i ≤ p ∨ p + 6 < i) → A25 i = A i) (hfS : ∀ i, i ≠ 1 → i ≠ p → S25 i = S i), 240 - k < fu → ∀ (H : Heap) (locs : List Loc) (ls : Array Slot), qM E ad S25 A25 b (qAr ad s.heap.size) s H locs → lv_has ls 3 [(2, .int (nI k)), (0, .ref (ad 1)), (1, .ref (ad p))] → W pg l e (headSpec wsX7_readInto { frames := 4, cells := 0, slots := 0, locals := 91 }).room s m ([.ref (ad 1), .ref (ad p)] : List Value).toArray below meth cd H locs 0 0 (MQ below (qQv E ad s.heap.size (fun S' A' b' => b = b' ∧ (∀ i, i ≠ 1 → i ≠ p → S' i = S i) ∧ S' 1 1 = 0 ∧ (∀ i, (i ≤ p ∨ p + 6 < i) → A' i = A i) ∧ ((∃ kd pl, qparse qstX (A 2) n 240 (qsk (A 2) n 0) (upd (upd (upd (upd (upd (S p) 0 0) 3 0) 4 0) 5 0) 6 0, fun j => A (p + j)) = .inl (kd, pl) ∧ (1 ≤ kd ∧ kd ≤ 4) ∧ S' 1 2 = nI kd ∧ S' 1 3 = nI pl) ∨ (qparse qstX (A 2) n 240 (qsk (A 2) n 0) (upd (upd (upd (upd (upd (S p) 0 0) 3 0) 4 0) 5 0) 6 0, fun j => A (p + j)) = .inr (S' p, fun j => A' (p + j)) ∧ qPok (S' p) ∧ S' 1 2 = 0 ∧ S' 1 3 = -1)))) ([.ref (ad 1), .ref (ad p)] : List Value).toArray s 0 0 (qAr ad s.heap.size)) (F0 m 25 ls []) := by
    intro fu
    induction fu with
    | zero => intro ga gk k S25 A25 hk hga hat h1n hgk hm0 hm1 hfA hfS hn; exact absurd hn (Nat.not_lt_zero _)
    | succ fu ih25 =>
      intro ga gk k S25 A25 hk hga hat h1n hgk hm0 hm1 hfA hfS hn H locs ls hM hl
      refine lv_iload_n hx hb dX7_readInto_25 rfl (lv_at hl 0 rfl) ?_
      refine lv_sipush (v := 240) hx hb dX7_readInto_26 (by decide) ?_
      refine lv_icmp_ge (tgt := 65) hx hb dX7_readInto_29 (by decide) (fun c_29 => ?_) (fun c_29 => ?_)
      · skip
        have c_29 : 240 ≤ k := (nI_leI (a := 240) (b := k) (by omega) (by omega)).mp c_29
        refine lv_aload_n hx hb dX7_readInto_65 rfl (lv_at hl 1 rfl) ?_
        refine lv_iconst (v := 0) hx hb dX7_readInto_66 (by decide) ?_
        refine q_put (o := 1) (ci := 7) (k := 1) (T := TX7) (ty := .int) (v := 0) C hM (qmem_7 E ad S25 A25 b (show qk 1 = 7 from by decide +kernel)) (by decide) rfl hi7 tyX7 tyX7_ok nmX7 (by decide) hL3 rfl rfl (by decide +kernel) rfl rfl (Nat.le_of_ble_eq_true rfl) (qs_7_1 E ad S25 A25 b (show qk 1 = 7 from by decide +kernel) 0) dX7_readInto_67 (fun H locs hM => ?_)
        obtain ⟨S_17, eS_17⟩ : ∃ zz, zz = q2 S25 1 1 0 := ⟨_, rfl⟩
        rw [← eS_17] at hM
        exact q_vret C hM dX7_readInto_70 (by exact ⟨rfl, fun i h1 h2 => by rw [eS_17, q2_or _ _ h1]; exact hfS i h1 h2, by rw [eS_17, q2_s], hfA, (Decidable.em (gk = 0)).elim (fun hg0 => Or.inr ⟨((hm0 hg0).2.1.trans (show qparse qstX (A 2) n (240 - k) ga (S25 p, fun j => A25 (p + j)) = .inr (S25 p, fun j => A25 (p + j)) from by rw [show 240 - k = 0 by omega]; rfl)).trans (by rw [eS_17, q2_or _ _ (by omega)]), by rw [eS_17, q2_or _ _ (by omega)]; exact (hm0 hg0).1, by rw [eS_17, q2_k _ _ (by omega), hgk, hg0]; rfl, by rw [eS_17, q2_k _ _ (by omega)]; exact (hm0 hg0).2.2⟩) (fun hg0 => Or.inl (Exists.elim (hm1 hg0) (fun pl q => ⟨gk, pl, q.1, ⟨by omega, q.2.2⟩, by rw [eS_17, q2_k _ _ (by omega), hgk], by rw [eS_17, q2_k _ _ (by omega)]; exact q.2.1⟩)))⟩)
      · skip
        have c_29 : ¬ (240 ≤ k) := fun z => c_29 ((nI_leI (a := 240) (b := k) (by omega) (by omega)).mpr z)
        refine lv_aload_n hx hb dX7_readInto_32 rfl (lv_at hl 1 rfl) ?_
        refine q_get (o := 1) (ci := 7) (k := 4) (T := TX7) (v := .int (S25 1 4)) C hM (qmem_7 E ad S25 A25 b (show qk 1 = 7 from by decide +kernel)) (by decide) rfl hi7 (by decide) hL2 rfl rfl dX7_readInto_33 ?_
        refine lv_as (y := nI ga) hat ?_
        refine lv_aload_n hx hb dX7_readInto_36 rfl (lv_at hl 1 rfl) ?_
        refine q_get (o := 1) (ci := 7) (k := 1) (T := TX7) (v := .int (S25 1 1)) C hM (qmem_7 E ad S25 A25 b (show qk 1 = 7 from by decide +kernel)) (by decide) rfl hi7 (by decide) hL3 rfl rfl dX7_readInto_37 ?_
        refine lv_as (y := nI n) h1n ?_
        refine lv_icmp_ge (tgt := 65) hx hb dX7_readInto_40 (by decide) (fun c_40 => ?_) (fun c_40 => ?_)
        · skip
          have c_40 : n ≤ ga := (nI_leI (a := n) (b := ga) (by omega) (by omega)).mp c_40
          refine lv_aload_n hx hb dX7_readInto_65 rfl (lv_at hl 1 rfl) ?_
          refine lv_iconst (v := 0) hx hb dX7_readInto_66 (by decide) ?_
          refine q_put (o := 1) (ci := 7) (k := 1) (T := TX7) (ty := .int) (v := 0) C hM (qmem_7 E ad S25 A25 b (show qk 1 = 7 from by decide +kernel)) (by decide) rfl hi7 tyX7 tyX7_ok nmX7 (by decide) hL3 rfl rfl (by decide +kernel) rfl rfl (Nat.le_of_ble_eq_true rfl) (qs_7_1 E ad S25 A25 b (show qk 1 = 7 from by decide +kernel) 0) dX7_readInto_67 (fun H locs hM => ?_)
          obtain ⟨S_18, eS_18⟩ : ∃ zz, zz = q2 S25 1 1 0 := ⟨_, rfl⟩
          rw [← eS_18] at hM
          exact q_vret C hM dX7_readInto_70 (by exact ⟨rfl, fun i h1 h2 => by rw [eS_18, q2_or _ _ h1]; exact hfS i h1 h2, by rw [eS_18, q2_s], hfA, (Decidable.em (gk = 0)).elim (fun hg0 => Or.inr ⟨((hm0 hg0).2.1.trans (show qparse qstX (A 2) n (240 - k) ga (S25 p, fun j => A25 (p + j)) = .inr (S25 p, fun j => A25 (p + j)) from by rcases Nat.eq_zero_or_pos (240 - k) with hz | hz; (rw [hz]; rfl); (rw [show 240 - k = (240 - k - 1) + 1 by omega]; exact if_neg (by omega)))).trans (by rw [eS_18, q2_or _ _ (by omega)]), by rw [eS_18, q2_or _ _ (by omega)]; exact (hm0 hg0).1, by rw [eS_18, q2_k _ _ (by omega), hgk, hg0]; rfl, by rw [eS_18, q2_k _ _ (by omega)]; exact (hm0 hg0).2.2⟩) (fun hg0 => Or.inl (Exists.elim (hm1 hg0) (fun pl q => ⟨gk, pl, q.1, ⟨by omega, q.2.2⟩, by rw [eS_18, q2_k _ _ (by omega), hgk], by rw [eS_18, q2_k _ _ (by omega)]; exact q.2.1⟩)))⟩)
        · skip
          have c_40 : ¬ (n ≤ ga) := fun z => c_40 ((nI_leI (a := n) (b := ga) (by omega) (by omega)).mpr z)
          refine lv_aload_n hx hb dX7_readInto_43 rfl (lv_at hl 1 rfl) ?_
          refine q_get (o := 1) (ci := 7) (k := 2) (T := TX7) (v := .int (S25 1 2)) C hM (qmem_7 E ad S25 A25 b (show qk 1 = 7 from by decide +kernel)) (by decide) rfl hi7 (by decide) hL0 rfl rfl dX7_readInto_44 ?_
          refine lv_as (y := nI gk) hgk ?_
          refine lv_if_ne (tgt := 65) hx hb dX7_readInto_47 (by decide) (fun c_47 => ?_) (fun c_47 => ?_)
          · skip
            have c_47 : ¬ (gk = 0) := fun z => c_47 ((nI_eq (a := gk) (b := 0) (by omega) (by omega)).mpr z)
            refine lv_aload_n hx hb dX7_readInto_65 rfl (lv_at hl 1 rfl) ?_
            refine lv_iconst (v := 0) hx hb dX7_readInto_66 (by decide) ?_
            refine q_put (o := 1) (ci := 7) (k := 1) (T := TX7) (ty := .int) (v := 0) C hM (qmem_7 E ad S25 A25 b (show qk 1 = 7 from by decide +kernel)) (by decide) rfl hi7 tyX7 tyX7_ok nmX7 (by decide) hL3 rfl rfl (by decide +kernel) rfl rfl (Nat.le_of_ble_eq_true rfl) (qs_7_1 E ad S25 A25 b (show qk 1 = 7 from by decide +kernel) 0) dX7_readInto_67 (fun H locs hM => ?_)
            obtain ⟨S_19, eS_19⟩ : ∃ zz, zz = q2 S25 1 1 0 := ⟨_, rfl⟩
            rw [← eS_19] at hM
            exact q_vret C hM dX7_readInto_70 (by exact ⟨rfl, fun i h1 h2 => by rw [eS_19, q2_or _ _ h1]; exact hfS i h1 h2, by rw [eS_19, q2_s], hfA, Or.inl (Exists.elim (hm1 c_47) (fun pl q => ⟨gk, pl, q.1, ⟨by omega, q.2.2⟩, by rw [eS_19, q2_k _ _ (by omega), hgk], by rw [eS_19, q2_k _ _ (by omega)]; exact q.2.1⟩))⟩)
          · skip
            have c_47 : gk = 0 := (nI_eq (a := gk) (b := 0) (by omega) (by omega)).mp c_47
            refine lv_aload_n hx hb dX7_readInto_50 rfl (lv_at hl 1 rfl) ?_
            obtain ⟨⟨nC, nP, nK, nW, ⟨hC, hCb⟩, ⟨hPo, hPb⟩, ⟨hK, hKb⟩, ⟨hWi, hWb⟩⟩, hT, h3t⟩ := hm0 c_47
            refine lv_aload_n hx hb dX7_readInto_51 rfl (lv_at hl 2 rfl) ?_
            refine q_callVV (n := 1) (o := 1) (As := [.ref (ad p)]) (rest := []) C hM hA (c_X7_readClause E ad l S25 A25 b p hp n ga h1n (by omega) hat (by omega) (hgk.trans (by rw [c_47]; rfl)) (by omega) nC nP nK nW hC (by omega) hPo (by omega) hK (by omega) hWi (by omega)) (qmem_7 E ad S25 A25 b (show qk 1 = 7 from by decide +kernel)) (by decide) rfl gX7_readInto_X7_readClause rfl rfl rfl (by decide +kernel) ⟨Nat.le_of_ble_eq_true rfl, Nat.le_of_ble_eq_true rfl⟩ rfl hl.1 rfl (Nat.le_of_ble_eq_true rfl) ⟨Nat.zero_le _, Nat.zero_le _⟩ dX7_readInto_52 (fun S_21 A_22 b_23 H locs qr_20 hM => ?_)
            obtain ⟨e3, hgS_21, h1S_21, hfA_22, hD⟩ := qr_20
            subst e3
            rcases hD with ⟨kd24, pl24, hn24, hk24, h224, h324, ax24, hax24, h424⟩ | ⟨en24, P24, hn24, hen24, h224, h324, h424, hP24⟩
            · skip
              refine lv_aload_n hx hb dX7_readInto_55 rfl (lv_at hl 1 rfl) ?_
              refine q_callVV (n := 0) (o := 1) (As := []) (rest := []) C hM hA (c_X7_skipBlanks E ad l S_21 A_22 b n ax24 (show S_21 1 1 = nI n from by exact h1S_21) (by omega) (show S_21 1 4 = nI ax24 from by exact h424) (by omega)) (qmem_7 E ad S_21 A_22 b (show qk 1 = 7 from by decide +kernel)) (by decide) rfl gX7_readInto_X7_skipBlanks rfl rfl rfl (by decide +kernel) ⟨Nat.le_of_ble_eq_true rfl, Nat.le_of_ble_eq_true rfl⟩ rfl hl.1 rfl (Nat.le_of_ble_eq_true rfl) ⟨Nat.zero_le _, Nat.zero_le _⟩ dX7_readInto_56 (fun S_26 A_27 b_28 H locs qr_25 hM => ?_)
              obtain ⟨eS_26, e2, e3⟩ := qr_25
              subst e2; subst e3
              obtain ⟨sk_29, esk_29⟩ : ∃ zz, zz = qsk (A_22 2) n ax24 := ⟨_, rfl⟩
              have lsk_29 := qsk_le (A_22 2) n ax24
              rw [← esk_29] at eS_26 lsk_29
              refine lv_iinc (v := nI (k + 1)) (lv' := [(2, .int (nI (k + 1))), (0, .ref (ad 1)), (1, .ref (ad p))]) hx hb dX7_readInto_59 hl (k := 0) rfl (by rw [nI_succ]; rfl) (by decide) rfl (fun ls hl => ?_)
              refine lv_goto (tgt := 25) hx hb dX7_readInto_62 (by decide) ?_
              exact ih25 sk_29 kd24 (k + 1) S_26 A_22 (by omega) (by omega) (by rw [eS_26, q2_s]) (by rw [eS_26, q2_k _ _ (by omega), h1S_21]) (by rw [eS_26, q2_k _ _ (by omega), h224]) (fun z => absurd z (by omega)) (fun _ => ⟨pl24, (by have hcl9 := hn24; rw [hfA 2 (by omega)] at hcl9; exact hT.trans (by rw [show 240 - k = (240 - (k + 1)) + 1 by omega]; simp only [qparse]; rw [if_pos (show ga < n by omega), hC, hPo, hK, hWi, nIc (show nC < 1000 by omega), nIc (show nP < 1000 by omega), nIc (show nK < 1000 by omega), nIc (show nW < 1000 by omega), show qcl qstX (A 2) n ga nC nP nK nW (S25 p, fun j => A25 (p + j)) = _ from hcl9]; rfl)), by rw [eS_26, q2_k _ _ (by omega), h324], by omega⟩) (fun i hi => (hfA_22 i hi).trans (hfA i hi)) (fun i h1 h2 => by rw [eS_26, q2_or _ _ h1, hgS_21 i h1 h2]; exact hfS i h1 h2) (by omega) _ _ _ hM hl
            · skip
              refine lv_aload_n hx hb dX7_readInto_55 rfl (lv_at hl 1 rfl) ?_
              refine q_callVV (n := 0) (o := 1) (As := []) (rest := []) C hM hA (c_X7_skipBlanks E ad l S_21 A_22 b n en24 (show S_21 1 1 = nI n from by exact h1S_21) (by omega) (show S_21 1 4 = nI en24 from by exact h424) (by omega)) (qmem_7 E ad S_21 A_22 b (show qk 1 = 7 from by decide +kernel)) (by decide) rfl gX7_readInto_X7_skipBlanks rfl rfl rfl (by decide +kernel) ⟨Nat.le_of_ble_eq_true rfl, Nat.le_of_ble_eq_true rfl⟩ rfl hl.1 rfl (Nat.le_of_ble_eq_true rfl) ⟨Nat.zero_le _, Nat.zero_le _⟩ dX7_readInto_56 (fun S_31 A_32 b_33 H locs qr_30 hM => ?_)
              obtain ⟨eS_31, e2, e3⟩ := qr_30
              subst e2; subst e3
              obtain ⟨sk_34, esk_34⟩ : ∃ zz, zz = qsk (A_22 2) n en24 := ⟨_, rfl⟩
              have lsk_34 := qsk_le (A_22 2) n en24
              rw [← esk_34] at eS_31 lsk_34
              refine lv_iinc (v := nI (k + 1)) (lv' := [(2, .int (nI (k + 1))), (0, .ref (ad 1)), (1, .ref (ad p))]) hx hb dX7_readInto_59 hl (k := 0) rfl (by rw [nI_succ]; rfl) (by decide) rfl (fun ls hl => ?_)
              refine lv_goto (tgt := 25) hx hb dX7_readInto_62 (by decide) ?_
              exact ih25 sk_34 0 (k + 1) S_31 A_22 (by omega) (by omega) (by rw [eS_31, q2_s]) (by rw [eS_31, q2_k _ _ (by omega), h1S_21]) (by rw [eS_31, q2_k _ _ (by omega), h224]; rfl) (fun _ => by have hcl9 := hn24; rw [hfA 2 (by omega)] at hcl9; have hpp : (S_31 p, fun j => A_22 (p + j)) = P24 := (by rw [eS_31, q2_or _ _ (by omega)]; exact hP24); rw [hpp]; exact ⟨by have hz := qcl_ok ⟨hC, hCb⟩ ⟨hPo, hPb⟩ ⟨hK, hKb⟩ ⟨hWi, hWb⟩ hcl9; rw [← hpp] at hz; exact hz, by rw [esk_34, show A_22 2 = A 2 from by rw [hfA_22 2 (by omega), hfA 2 (by omega)]]; exact hT.trans (by rw [show 240 - k = (240 - (k + 1)) + 1 by omega]; simp only [qparse]; rw [if_pos (show ga < n by omega), hC, hPo, hK, hWi, nIc (show nC < 1000 by omega), nIc (show nP < 1000 by omega), nIc (show nK < 1000 by omega), nIc (show nW < 1000 by omega), show qcl qstX (A 2) n ga nC nP nK nW (S25 p, fun j => A25 (p + j)) = _ from hcl9]; rfl), by rw [eS_31, q2_k _ _ (by omega), h324]; exact h3t⟩) (fun z => absurd rfl z) (fun i hi => (hfA_22 i hi).trans (hfA i hi)) (fun i h1 h2 => by rw [eS_31, q2_or _ _ h1, hgS_21 i h1 h2]; exact hfS i h1 h2) (by omega) _ _ _ hM hl
  exact loop25 (240 - 0 + 1) sk_16 0 0 S_13 A (by omega) (by omega) (by rw [eS_13, q2_s]) (by rw [eS_13, q2_k _ _ (by omega), eS_11, q2_k _ _ (by omega), eS_10, q2_k _ _ (by omega), eS_9, q2_k _ _ (by omega), hS_2, q2_o _ _ (by omega), eS_8, q2_o _ _ (by omega), eS_7, q2_o _ _ (by omega), eS_6, q2_o _ _ (by omega), eS_5, q2_o _ _ (by omega)]; exact hln) (by rw [eS_13, q2_k _ _ (by omega), eS_11, q2_k _ _ (by omega), eS_10, q2_k _ _ (by omega), eS_9, q2_s]; rfl) (fun _ => by have hpp : (S_13 p, fun j => A (p + j)) = (upd (upd (upd (upd (upd (S p) 0 0) 3 0) 4 0) 5 0) 6 0, fun j => A (p + j)) := (by rw [eS_13, q2_or _ _ (by omega), eS_11, q2_or _ _ (by omega), eS_10, q2_or _ _ (by omega), eS_9, q2_or _ _ (by omega), hS_2, q2_row, eS_8, q2_row, eS_7, q2_row, eS_6, q2_row, eS_5, q2_row]); refine ⟨?_, ?_, ?_⟩; (have hz := congrArg Prod.fst hpp; dsimp only at hz; rw [hz]; exact ⟨0, 0, 0, 0, ⟨by simp [upd]; rfl, by omega⟩, ⟨by simp [upd]; rfl, by omega⟩, ⟨by simp [upd]; rfl, by omega⟩, ⟨by simp [upd]; rfl, by omega⟩⟩); (rw [hpp, esk_16]); (rw [eS_13, q2_k _ _ (by omega), eS_11, q2_k _ _ (by omega), eS_10, q2_s])) (fun z => absurd rfl z) (fun _ _ => rfl) (fun i h1 h2 => by rw [eS_13, q2_or _ _ h1, eS_11, q2_or _ _ h1, eS_10, q2_or _ _ h1, eS_9, q2_or _ _ h1, hS_2, q2_or _ _ h2, eS_8, q2_or _ _ h2, eS_7, q2_or _ _ h2, eS_6, q2_or _ _ h2, eS_5, q2_or _ _ h2]) (Nat.lt_succ_self _) _ _ _ hM hl
