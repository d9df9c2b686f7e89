set_option maxHeartbeats 4000000 in
set_option maxRecDepth 100000 in
theorem c_X11_drift (E : qE) (ad : Nat → Nat) (l : Launch) (S A : qA2) (b : qB) (a1 : Int32) (nC : Nat) (hC : S 188 0 = nI nC) (hCb : nC ≤ 12) (nP : Nat) (hPo : S 188 4 = nI nP) (hPb : nP ≤ 6) (nc : Nat) (hnc : S 188 30 = nI nc) (hncb : nc ≤ 20) : MI E ad l yX11_drift wsX11_drift { frames := 4, cells := 0, slots := 0, locals := 95 } [.ref (ad 188), .int a1] S A b (fun r S' A' b' => b = b' ∧ ((¬ qrefh a1 nC (A 193 35) = 0 ∧ r = qrefh a1 nC (A 193 35) ∧ S = S' ∧ A = A') ∨ (qrefh a1 nC (A 193 35) = 0 ∧ ∃ n, (1 ≤ n ∧ n ≤ 60) ∧ a1 = nI n ∧ mNoted nc S A S' A' ∧ ((∀ i, i ≠ 193 → i ≠ 202 → A' i = A i) ∧ (∀ i j, (i ≠ 188 ∨ (j ≠ 30 ∧ j ≠ 12)) → S' i j = S i j)) ∧ r = qsum (A' 193) nC ∧ (A' 193, S' 188 12) = mdrift nC nP (S 188 1) (A 193, S 188 12) n))) := by
  refine MI.of (cc := cX11_drift) (maxL := 5) (ret := some .int) RX11 rfl (by decide) rfl ?_
  intro pg e s m below meth cd C hM
  have hx := C.1
  have hb := C.2.1
  have hts := C.2.2.2.2.1
  have hA : ∀ q, s.heap.size ≤ q → qAr ad s.heap.size q := fun _ h => Or.inr h
  have hl := lv_entry ([.ref (ad 188), .int a1]) (n := 5) (Nat.le_of_ble_eq_true rfl)
  rw [lg_entry_eq]
  generalize (lg_sl ([.ref (ad 188), .int a1]) ++ List.replicate (5 - (lg_sl ([.ref (ad 188), .int a1])).length) Slot.unset).toArray = ls at hl ⊢
  have hl : lv_has ls 5 [(0, .ref (ad 188)), (1, .int a1)] := hl
  refine lv_aload_n hx hb dX11_drift_0 rfl (lv_at hl 0 rfl) ?_
  refine lv_iload_n hx hb dX11_drift_1 rfl (lv_at hl 1 rfl) ?_
  refine q_callVI (n := 1) (o := 188) (As := [.int a1]) (rest := []) C hM hA (c_X11_hoursRefused E ad l S A b a1 nC hC (by omega)) (qmem_11 E ad S A b (show qk 188 = 11 from by decide +kernel)) (by decide) rfl gX11_drift_X11_hoursRefused rfl rfl rfl (by decide +kernel) ⟨Nat.le_of_ble_eq_true rfl, Nat.le_of_ble_eq_true rfl⟩ rfl hl.1 rfl (Nat.le_of_ble_eq_true rfl) ⟨Nat.zero_le _, Nat.zero_le _⟩ dX11_drift_2 (fun r_1 S_2 A_3 b_4 H locs qr_1 hM => ?_)
  obtain ⟨⟨e1, e2, e3⟩, er_1⟩ := qr_1
  subst e1; subst e2; subst e3
  refine lv_istore_n (lv' := [(2, .int r_1), (0, .ref (ad 188)), (1, .int a1)]) hx hb dX11_drift_5 rfl hl (by decide) rfl (fun ls hl => ?_)
  refine lv_iload_n hx hb dX11_drift_6 rfl (lv_at hl 0 rfl) ?_
  refine lv_if_eq (tgt := 12) hx hb dX11_drift_7 (by decide) (fun c_7 => ?_) (fun c_7 => ?_)
  · skip
    refine lv_aload_n hx hb dX11_drift_12 rfl (lv_at hl 1 rfl) ?_
    obtain ⟨hin, hC0, hh9⟩ := qrefh_0 (er_1.symm.trans c_7)
    obtain ⟨ka1, hloka1, hhika1, eka1⟩ := qin_of (l := 1) (h := 60) rfl rfl (by omega) (by omega) hin
    subst eka1
    refine q_callVV (n := 0) (o := 188) (As := []) (rest := []) C hM hA (c_X11_remember E ad l S A b nc hnc (by omega)) (qmem_11 E ad S A b (show qk 188 = 11 from by decide +kernel)) (by decide) rfl gX11_drift_X11_remember rfl rfl rfl (by decide +kernel) ⟨Nat.le_of_ble_eq_true rfl, Nat.le_of_ble_eq_true rfl⟩ rfl hl.1 rfl (Nat.le_of_ble_eq_true rfl) ⟨Nat.zero_le _, Nat.zero_le _⟩ dX11_drift_13 (fun S_6 A_7 b_8 H locs qr_5 hM => ?_)
    obtain ⟨e3, eS_6, hfA_7, hn1, hn2⟩ := qr_5
    subst e3
    refine lv_iconst (v := 0) hx hb dX11_drift_16 (by decide) ?_
    refine lv_istore_n (lv' := [(3, .int 0), (2, .int r_1), (0, .ref (ad 188)), (1, .int (nI ka1))]) hx hb dX11_drift_17 rfl hl (by decide) rfl (fun ls hl => ?_)
    have loop18 : ∀ (fu : Nat) (k : Nat) (S18 : qA2) (A18 : qA2) (hk : k ≤ ka1) (ht : (A18 193, S18 188 12) = mdrift nC nP (S 188 1) (A 193, S 188 12) k) (hf : ∀ i, i ≠ 193 → A18 i = A_7 i) (hfS : ∀ i j, (i ≠ 188 ∨ j ≠ 12) → S18 i j = S_6 i j), ka1 - k < fu → ∀ (H : Heap) (locs : List Loc) (ls : Array Slot), qM E ad S18 A18 b (qAr ad s.heap.size) s H locs → lv_has ls 5 [(3, .int (nI k)), (2, .int r_1), (0, .ref (ad 188)), (1, .int (nI ka1))] → W pg l e (headSpec wsX11_drift { frames := 4, cells := 0, slots := 0, locals := 95 }).room s m ([.ref (ad 188), .int (nI ka1)] : List Value).toArray below meth cd H locs 0 0 (MQ below (qQi E ad s.heap.size (fun r S' A' b' => b = b' ∧ ((¬ qrefh (nI ka1) nC (A 193 35) = 0 ∧ r = qrefh (nI ka1) nC (A 193 35) ∧ S = S' ∧ A = A') ∨ (qrefh (nI ka1) nC (A 193 35) = 0 ∧ ∃ n, (1 ≤ n ∧ n ≤ 60) ∧ (nI ka1) = nI n ∧ mNoted nc S A S' A' ∧ ((∀ i, i ≠ 193 → i ≠ 202 → A' i = A i) ∧ (∀ i j, (i ≠ 188 ∨ (j ≠ 30 ∧ j ≠ 12)) → S' i j = S i j)) ∧ r = qsum (A' 193) nC ∧ (A' 193, S' 188 12) = mdrift nC nP (S 188 1) (A 193, S 188 12) n)))) ([.ref (ad 188), .int (nI ka1)] : List Value).toArray s 0 0 (qAr ad s.heap.size)) (F0 m 18 ls []) := by
      intro fu
      induction fu with
      | zero => intro k S18 A18 hk ht hf hfS hn; exact absurd hn (Nat.not_lt_zero _)
      | succ fu ih18 =>
        intro k S18 A18 hk ht hf hfS hn H locs ls hM hl
        refine lv_iload_n hx hb dX11_drift_18 rfl (lv_at hl 0 rfl) ?_
        refine lv_iload_n hx hb dX11_drift_19 rfl (lv_at hl 3 rfl) ?_
        refine lv_icmp_ge (tgt := 49) hx hb dX11_drift_20 (by decide) (fun c_20 => ?_) (fun c_20 => ?_)
        · skip
          have c_20 : ka1 ≤ k := (nI_leI (a := ka1) (b := k) (by omega) (by omega)).mp c_20
          refine lv_aload_n hx hb dX11_drift_49 rfl (lv_at hl 2 rfl) ?_
          refine q_callVI (n := 0) (o := 188) (As := []) (rest := []) C hM hA (c_X11_allSnow E ad l S18 A18 b nC ((show S18 188 0 = S 188 0 from by rw [hfS 188 0 (by omega)]; rw [eS_6, q2_k _ _ (by omega)]).trans hC) (by omega)) (qmem_11 E ad S18 A18 b (show qk 188 = 11 from by decide +kernel)) (by decide) rfl gX11_drift_X11_allSnow rfl rfl rfl (by decide +kernel) ⟨Nat.le_of_ble_eq_true rfl, Nat.le_of_ble_eq_true rfl⟩ rfl hl.1 rfl (Nat.le_of_ble_eq_true rfl) ⟨Nat.zero_le _, Nat.zero_le _⟩ dX11_drift_50 (fun r_9 S_10 A_11 b_12 H locs qr_9 hM => ?_)
          obtain ⟨⟨e1, e2, e3⟩, er_9⟩ := qr_9
          subst e1; subst e2; subst e3
          exact q_iret C hM dX11_drift_53 (by exact ⟨rfl, Or.inr ⟨er_1.symm.trans c_7, ka1, ⟨hloka1, hhika1⟩, rfl, ⟨by rw [hfS 188 30 (by omega), eS_6, q2_s], fun k3 hk3 => by rw [hf 202 (by omega)]; exact hn1 k3 hk3, fun j3 hj3 k3 hk3 => by rw [hf 202 (by omega)]; exact hn2 j3 hj3 k3 hk3⟩, ⟨fun i h1 h2 => by rw [hf i (by omega), hfA_7 i (by omega)], fun i j h => by rw [hfS i j (by omega), eS_6]; exact q2_ne _ _ (by omega)⟩, er_9, by rw [ht, show k = ka1 by omega]⟩⟩)
        · skip
          have c_20 : ¬ (ka1 ≤ k) := fun z => c_20 ((nI_leI (a := ka1) (b := k) (by omega) (by omega)).mpr z)
          refine lv_aload_n hx hb dX11_drift_23 rfl (lv_at hl 2 rfl) ?_
          refine lv_bipush (v := 19) hx hb dX11_drift_24 (by decide) ?_
          refine q_callVI (n := 1) (o := 188) (As := [.int 19]) (rest := []) C hM hA (c_X11_draw E ad l S18 A18 b 19 (by decide)) (qmem_11 E ad S18 A18 b (show qk 188 = 11 from by decide +kernel)) (by decide) rfl gX11_drift_X11_draw rfl rfl rfl (by decide +kernel) ⟨Nat.le_of_ble_eq_true rfl, Nat.le_of_ble_eq_true rfl⟩ rfl hl.1 rfl (Nat.le_of_ble_eq_true rfl) ⟨Nat.zero_le _, Nat.zero_le _⟩ dX11_drift_26 (fun r_13 S_14 A_15 b_16 H locs qr_13 hM => ?_)
          obtain ⟨⟨e2, e3⟩, er_13, eS_14⟩ := qr_13
          subst e2; subst e3
          refine lv_istore (lv' := [(4, .int r_13), (3, .int (nI k)), (2, .int r_1), (0, .ref (ad 188)), (1, .int (nI ka1))]) hx hb dX11_drift_29 hl (by decide) rfl (fun ls hl => ?_)
          refine lv_aload_n hx hb dX11_drift_31 rfl (lv_at hl 3 rfl) ?_
          refine lv_iload hx hb dX11_drift_32 (lv_at hl 0 rfl) ?_
          refine lv_aload_n hx hb dX11_drift_34 rfl (lv_at hl 3 rfl) ?_
          refine lv_bipush (v := 11) hx hb dX11_drift_35 (by decide) ?_
          refine q_callVI (n := 1) (o := 188) (As := [.int 11]) (rest := [.int r_13, .ref (ad 188)]) C hM hA (c_X11_draw E ad l S_14 A18 b 11 (by decide)) (qmem_11 E ad S_14 A18 b (show qk 188 = 11 from by decide +kernel)) (by decide) rfl gX11_drift_X11_draw rfl rfl rfl (by decide +kernel) ⟨Nat.le_of_ble_eq_true rfl, Nat.le_of_ble_eq_true rfl⟩ rfl hl.1 rfl (Nat.le_of_ble_eq_true rfl) ⟨Nat.zero_le _, Nat.zero_le _⟩ dX11_drift_37 (fun r_17 S_18 A_19 b_20 H locs qr_17 hM => ?_)
          obtain ⟨⟨e2, e3⟩, er_17, eS_18⟩ := qr_17
          subst e2; subst e3
          rw [(show S_14 188 12 = qdraw (S18 188 12) from by rw [eS_14]; exact q2_s _ _ _ _)] at er_17 eS_18
          refine q_callVV (n := 2) (o := 188) (As := [.int r_13, .int r_17]) (rest := []) C hM hA (c_X11_hourBy E ad l S_18 A18 b r_13 r_17 nC ((show S_18 188 0 = S 188 0 from by rw [eS_18, q2_k _ _ (by omega)]; rw [eS_14, q2_k _ _ (by omega)]; rw [hfS 188 0 (by omega)]; rw [eS_6, q2_k _ _ (by omega)]).trans hC) (by omega) nP ((show S_18 188 4 = S 188 4 from by rw [eS_18, q2_k _ _ (by omega)]; rw [eS_14, q2_k _ _ (by omega)]; rw [hfS 188 4 (by omega)]; rw [eS_6, q2_k _ _ (by omega)]).trans hPo) (by omega)) (qmem_11 E ad S_18 A18 b (show qk 188 = 11 from by decide +kernel)) (by decide) rfl gX11_drift_X11_hourBy rfl rfl rfl (by decide +kernel) ⟨Nat.le_of_ble_eq_true rfl, Nat.le_of_ble_eq_true rfl⟩ rfl hl.1 rfl (Nat.le_of_ble_eq_true rfl) ⟨Nat.zero_le _, Nat.zero_le _⟩ dX11_drift_40 (fun S_22 A_23 b_24 H locs qr_21 hM => ?_)
          obtain ⟨⟨e1, e3⟩, hrA_23, hfA_23⟩ := qr_21
          subst e1; subst e3
          refine lv_iinc (v := nI (k + 1)) (lv' := [(3, .int (nI (k + 1))), (4, .int r_13), (2, .int r_1), (0, .ref (ad 188)), (1, .int (nI ka1))]) hx hb dX11_drift_43 hl (k := 1) rfl (by rw [nI_succ]; rfl) (by decide) rfl (fun ls hl => ?_)
          refine lv_goto (tgt := 18) hx hb dX11_drift_46 (by decide) ?_
          exact ih18 (k + 1) S_18 A_23 (by omega) (by rw [show S_18 188 12 = qdraw (qdraw (S18 188 12)) from by rw [eS_18, q2_s], hrA_23, er_13, er_17, show S_18 188 1 = S 188 1 from by rw [eS_18, q2_k _ _ (by omega), eS_14, q2_k _ _ (by omega), hfS 188 1 (by omega), eS_6, q2_k _ _ (by omega)]]; simp only [mdrift, ← ht]) (fun i hi => (hfA_23 i hi).trans (hf i hi)) (fun i j hij => by rw [eS_18, q2_ne _ _ hij, eS_14, q2_ne _ _ hij]; exact hfS i j hij) (by omega) _ _ _ hM (lv_sub hl [0, 2, 3, 4] rfl)
    exact loop18 (ka1 - 0 + 1) 0 S_6 A_7 (by omega) (by rw [hfA_7 193 (by omega), eS_6, q2_k _ _ (by omega)]; rfl) (fun _ _ => rfl) (fun _ _ _ => rfl) (Nat.lt_succ_self _) _ _ _ hM hl
  · skip
    refine lv_iload_n hx hb dX11_drift_10 rfl (lv_at hl 0 rfl) ?_
    exact q_iret C hM dX11_drift_11 (by exact ⟨rfl, Or.inl ⟨fun z => c_7 (er_1.trans z), er_1, rfl, rfl⟩⟩)

set_option maxHeartbeats 4000000 in
set_option maxRecDepth 100000 in
theorem c_X11_yard (E : qE) (ad : Nat → Nat) (l : Launch) (S A : qA2) (b : qB) (a1 a2 a3 : Int32) (nC : Nat) (hC : S 188 0 = nI nC) (hCb : nC ≤ 12) (nP : Nat) (hPo : S 188 4 = nI nP) (hPb : nP ≤ 6) (nW : Nat) (hWi : S 188 8 = nI nW) (hWb : nW ≤ 10) (nH : Nat) (hH : A 193 35 = nI nH) (hHb : nH ≤ 80000) : MI E ad l yX11_yard wsX11_yard { frames := 7, cells := 0, slots := 0, locals := 161 } [.ref (ad 188), .int a1, .int a2, .int a3] S A b (fun r S' A' b' => (S = S' ∧ b = b') ∧ r = (qix a1 nP).elim (-1000000001) (fun k => (qix a2 nC).elim (-1000000001) (fun c => (qir a3 0 40).elim (-1000000002) (fun n => if qfree (fun j => A 193 (12 + j)) nC nP (A 193 (12 + k) + 1) = -1 then -1 else mpass nC nP nW (S 188 1) (A 191) (A 192) (upd (A 193) (12 + k) (A 193 (12 + k) + 1)) n c - mpass nC nP nW (S 188 1) (A 191) (A 192) (A 193) n c + 10000))) ∧ ∀ i, i ≠ 203 → A' i = A i) := by
  refine MI.of (cc := cX11_yard) (maxL := 7) (ret := some .int) RX11 rfl (by decide) rfl ?_
  intro pg e s m below meth cd C hM
  have hx := C.1
  have hb := C.2.1
  have hts := C.2.2.2.2.1
  have hA : ∀ q, s.heap.size ≤ q → qAr ad s.heap.size q := fun _ h => Or.inr h
  have hi11 : ∀ w ∈ u_ws RX11 TX11 45, w ∈ wsX11_yard := by decide +kernel
  have hL0 := hts (.constantLong RX11 279 (40)) (by decide +kernel)
  have hL1 := hts (.fieldLink RX11 22 "CrowFencesModel" "now" "[I") (by decide +kernel)
  have hL2 := hts (.constant RX11 105 (-1000000002)) (by decide +kernel)
  have hL3 := hts (.constant RX11 219 (-1000000001)) (by decide +kernel)
  have hl := lv_entry ([.ref (ad 188), .int a1, .int a2, .int a3]) (n := 7) (Nat.le_of_ble_eq_true rfl)
  rw [lg_entry_eq]
  generalize (lg_sl ([.ref (ad 188), .int a1, .int a2, .int a3]) ++ List.replicate (7 - (lg_sl ([.ref (ad 188), .int a1, .int a2, .int a3])).length) Slot.unset).toArray = ls at hl ⊢
  have hl : lv_has ls 7 [(0, .ref (ad 188)), (1, .int a1), (2, .int a2), (3, .int a3)] := hl
  refine lv_aload_n hx hb dX11_yard_0 rfl (lv_at hl 0 rfl) ?_
  refine lv_iload_n hx hb dX11_yard_1 rfl (lv_at hl 1 rfl) ?_
  refine q_callVI (n := 1) (o := 188) (As := [.int a1]) (rest := []) C hM hA (c_X11_isPost E ad l S A b a1 nP hPo (by omega)) (qmem_11 E ad S A b (show qk 188 = 11 from by decide +kernel)) (by decide) rfl gX11_yard_X11_isPost rfl rfl rfl (by decide +kernel) ⟨Nat.le_of_ble_eq_true rfl, Nat.le_of_ble_eq_true rfl⟩ rfl hl.1 rfl (Nat.le_of_ble_eq_true rfl) ⟨Nat.zero_le _, Nat.zero_le _⟩ dX11_yard_2 (fun r_1 S_2 A_3 b_4 H locs qr_1 hM => ?_)
  obtain ⟨⟨e1, e2, e3⟩, hDr_1⟩ := qr_1
  subst e1; subst e2; subst e3
  rcases hDr_1 with ⟨er_1, ka1, hka1, eka1⟩ | ⟨er_1, hnoa1⟩
  · skip
    subst er_1
    subst eka1
    refine lv_if_eq (tgt := 16) hx hb dX11_yard_5 (by decide) (fun c_5 => ?_) (fun c_5 => ?_)
    · skip
      have c_5 : 1 = 0 := (nI_eq (a := 1) (b := 0) (by omega) (by omega)).mp c_5
      exact absurd c_5 (by decide)
    · skip
      have c_5 : ¬ (1 = 0) := fun z => c_5 ((nI_eq (a := 1) (b := 0) (by omega) (by omega)).mpr z)
      refine lv_aload_n hx hb dX11_yard_8 rfl (lv_at hl 0 rfl) ?_
      refine lv_iload_n hx hb dX11_yard_9 rfl (lv_at hl 2 rfl) ?_
      refine q_callVI (n := 1) (o := 188) (As := [.int a2]) (rest := []) C hM hA (c_X11_isCell E ad l S A b a2 nC hC (by omega)) (qmem_11 E ad S A b (show qk 188 = 11 from by decide +kernel)) (by decide) rfl gX11_yard_X11_isCell rfl rfl rfl (by decide +kernel) ⟨Nat.le_of_ble_eq_true rfl, Nat.le_of_ble_eq_true rfl⟩ rfl hl.1 rfl (Nat.le_of_ble_eq_true rfl) ⟨Nat.zero_le _, Nat.zero_le _⟩ dX11_yard_10 (fun r_5 S_6 A_7 b_8 H locs qr_5 hM => ?_)
      obtain ⟨⟨e1, e2, e3⟩, hDr_5⟩ := qr_5
      subst e1; subst e2; subst e3
      rcases hDr_5 with ⟨er_5, ka2, hka2, eka2⟩ | ⟨er_5, hnoa2⟩
      · skip
        subst er_5
        subst eka2
        refine lv_if_ne (tgt := 19) hx hb dX11_yard_13 (by decide) (fun c_13 => ?_) (fun c_13 => ?_)
        · skip
          have c_13 : ¬ (1 = 0) := fun z => c_13 ((nI_eq (a := 1) (b := 0) (by omega) (by omega)).mpr z)
          refine lv_iload_n hx hb dX11_yard_19 rfl (lv_at hl 3 rfl) ?_
          refine lv_i2l (v := (a3 : Int32).toInt64) hx hb dX11_yard_20 rfl ?_
          refine lv_lconst (v := 0) hx hb dX11_yard_21 rfl ?_
          refine lv_ldc2 (v := 40) hx hb C.2.2.2.1 hL0 dX11_yard_22 ?_
          refine q_callSI (n := 3) (As := [.long ((a3 : Int32).toInt64), .long 0, .long 40]) (rest := []) C hM hA (c_X11_in E ad l S A b ((a3 : Int32).toInt64) 0 40) gX11_yard_X11_in rfl rfl rfl (by decide +kernel) ⟨Nat.le_of_ble_eq_true rfl, Nat.le_of_ble_eq_true rfl⟩ rfl hl.1 rfl (Nat.le_of_ble_eq_true rfl) ⟨Nat.zero_le _, Nat.zero_le _⟩ dX11_yard_25 (fun r_9 S_10 A_11 b_12 H locs qr_9 hM => ?_)
          obtain ⟨⟨e1, e2, e3⟩, er_9⟩ := qr_9
          subst e1; subst e2; subst e3
          rw [q64 (x := a3) (lo := 0) (hi := 40) (by first | rfl | decide) (by first | rfl | decide)] at er_9
          rcases q01_cases (0 ≤ a3 ∧ a3 ≤ 40) with ⟨hzr_9, hir_9⟩ | ⟨hzr_9, hir_9⟩
          · skip
            rw [hzr_9] at er_9
            subst er_9
            obtain ⟨ka3, hloka3, hhika3, eka3⟩ := qin_of (l := 0) (h := 40) rfl rfl (by omega) (by omega) hir_9
            subst eka3
            refine lv_if_ne (tgt := 34) hx hb dX11_yard_28 (by decide) (fun c_28 => ?_) (fun c_28 => ?_)
            · skip
              have c_28 : ¬ (1 = 0) := fun z => c_28 ((nI_eq (a := 1) (b := 0) (by omega) (by omega)).mpr z)
              refine lv_aload_n hx hb dX11_yard_34 rfl (lv_at hl 0 rfl) ?_
              refine q_get (o := 188) (ci := 11) (k := 11) (T := TX11) (v := .ref (ad 193)) C hM (qmem_11 E ad S A b (show qk 188 = 11 from by decide +kernel)) (by decide) rfl hi11 (by decide) hL1 rfl rfl dX11_yard_35 ?_
              refine lv_bipush (v := 12) hx hb dX11_yard_38 (by decide) ?_
              refine lv_iload_n hx hb dX11_yard_40 rfl (lv_at hl 1 rfl) ?_
              refine lv_iadd hx hb dX11_yard_41 ?_
              refine lv_as (y := nI (12 + ka1)) (nI_add _ _) ?_
              refine q_iald (v := A 193 (12 + ka1)) C hM (show qk 193 = 12 from by decide +kernel) (by rw [(show ql 193 = 37 from by decide +kernel)]; exact vp_nI (by omega) (by omega)) (by rw [nIc (by omega)]) dX11_yard_42 ?_
              refine lv_iconst (v := 1) hx hb dX11_yard_43 (by decide) ?_
              refine lv_iadd hx hb dX11_yard_44 ?_
              refine lv_topi (fun x4_13 ex4_13 => ?_)
              refine lv_istore (lv' := [(4, .int x4_13), (0, .ref (ad 188)), (1, .int (nI ka1)), (2, .int (nI ka2)), (3, .int (nI ka3))]) hx hb dX11_yard_45 hl (by decide) rfl (fun ls hl => ?_)
              refine lv_aload_n hx hb dX11_yard_47 rfl (lv_at hl 1 rfl) ?_
              refine lv_iload_n hx hb dX11_yard_48 rfl (lv_at hl 2 rfl) ?_
              refine lv_iload hx hb dX11_yard_49 (lv_at hl 0 rfl) ?_
              refine q_callVI (n := 2) (o := 188) (As := [.int (nI ka1), .int x4_13]) (rest := []) C hM hA (c_X11_mayMove E ad l S A b (nI ka1) x4_13 nC hC (by omega) nP hPo (by omega)) (qmem_11 E ad S A b (show qk 188 = 11 from by decide +kernel)) (by decide) rfl gX11_yard_X11_mayMove rfl rfl rfl (by decide +kernel) ⟨Nat.le_of_ble_eq_true rfl, Nat.le_of_ble_eq_true rfl⟩ rfl hl.1 rfl (Nat.le_of_ble_eq_true rfl) ⟨Nat.zero_le _, Nat.zero_le _⟩ dX11_yard_51 (fun r_14 S_15 A_16 b_17 H locs qr_14 hM => ?_)
              obtain ⟨⟨e1, e2, e3⟩, er_14⟩ := qr_14
              subst e1; subst e2; subst e3
              refine lv_if_ne (tgt := 59) hx hb dX11_yard_54 (by decide) (fun c_54 => ?_) (fun c_54 => ?_)
              · skip
                refine lv_aload_n hx hb dX11_yard_59 rfl (lv_at hl 1 rfl) ?_
                refine lv_iload_n hx hb dX11_yard_60 rfl (lv_at hl 3 rfl) ?_
                refine lv_iload_n hx hb dX11_yard_61 rfl (lv_at hl 4 rfl) ?_
                refine q_callVI (n := 2) (o := 188) (As := [.int (nI ka2), .int (nI ka3)]) (rest := []) C hM hA (c_X11_lies E ad l S A b (nI ka2) (nI ka3) nC hC (by omega) nP hPo (by omega) nW hWi (by omega) nH hH (by omega)) (qmem_11 E ad S A b (show qk 188 = 11 from by decide +kernel)) (by decide) rfl gX11_yard_X11_lies rfl rfl rfl (by decide +kernel) ⟨Nat.le_of_ble_eq_true rfl, Nat.le_of_ble_eq_true rfl⟩ rfl hl.1 rfl (Nat.le_of_ble_eq_true rfl) ⟨Nat.zero_le _, Nat.zero_le _⟩ dX11_yard_62 (fun r_18 S_19 A_20 b_21 H locs qr_18 hM => ?_)
                obtain ⟨⟨e1, e3⟩, er_18, hfA_20⟩ := qr_18
                subst e1; subst e3
                rw [qix_in hka2 (by omega)] at er_18; dsimp only [Option.elim] at er_18; rw [qir_in hloka3 hhika3 (by omega)] at er_18; dsimp only [Option.elim] at er_18
                refine lv_istore (lv' := [(5, .int r_18), (4, .int x4_13), (0, .ref (ad 188)), (1, .int (nI ka1)), (2, .int (nI ka2)), (3, .int (nI ka3))]) hx hb dX11_yard_65 hl (by decide) rfl (fun ls hl => ?_)
                refine lv_aload_n hx hb dX11_yard_67 rfl (lv_at hl 2 rfl) ?_
                refine q_callVV (n := 0) (o := 188) (As := []) (rest := []) C hM hA (c_X11_save E ad l S A_20 b) (qmem_11 E ad S A_20 b (show qk 188 = 11 from by decide +kernel)) (by decide) rfl gX11_yard_X11_save rfl rfl rfl (by decide +kernel) ⟨Nat.le_of_ble_eq_true rfl, Nat.le_of_ble_eq_true rfl⟩ rfl hl.1 rfl (Nat.le_of_ble_eq_true rfl) ⟨Nat.zero_le _, Nat.zero_le _⟩ dX11_yard_68 (fun S_23 A_24 b_25 H locs qr_22 hM => ?_)
                obtain ⟨⟨e1, e3⟩, hrA_24, hfA_24⟩ := qr_22
                subst e1; subst e3
                refine lv_aload_n hx hb dX11_yard_71 rfl (lv_at hl 2 rfl) ?_
                refine q_get (o := 188) (ci := 11) (k := 11) (T := TX11) (v := .ref (ad 193)) C hM (qmem_11 E ad S A_24 b (show qk 188 = 11 from by decide +kernel)) (by decide) rfl hi11 (by decide) hL1 rfl rfl dX11_yard_72 ?_
                refine lv_bipush (v := 12) hx hb dX11_yard_75 (by decide) ?_
                refine lv_iload_n hx hb dX11_yard_77 rfl (lv_at hl 3 rfl) ?_
                refine lv_iadd hx hb dX11_yard_78 ?_
                refine lv_as (y := nI (12 + ka1)) (nI_add _ _) ?_
                refine lv_iload hx hb dX11_yard_79 (lv_at hl 1 rfl) ?_
                refine q_iast C hM (show qk 193 = 12 from by decide +kernel) (by rw [(show ql 193 = 37 from by decide +kernel)]; exact vp_nI (by omega) (by omega)) dX11_yard_81 (fun H locs hM => ?_)
                rw [nIc (by omega)] at hM
                obtain ⟨A_26, eA_26⟩ : ∃ zz, zz = q2 A_24 193 (12 + ka1) x4_13 := ⟨_, rfl⟩
                rw [← eA_26] at hM
                refine lv_aload_n hx hb dX11_yard_82 rfl (lv_at hl 2 rfl) ?_
                refine lv_iload_n hx hb dX11_yard_83 rfl (lv_at hl 5 rfl) ?_
                refine q_callVV (n := 1) (o := 188) (As := [.int (nI ka3)]) (rest := []) C hM hA (c_X11_passAll E ad l S A_26 b ka3 (by omega) nC hC (by omega) nP hPo (by omega) nW hWi (by omega) nH ((show A_26 193 35 = A 193 35 from by rw [eA_26, q2_k _ _ (by omega)]; rw [hfA_24 193 (by omega)]; rw [hfA_20 193 (by omega)]).trans hH) (by omega)) (qmem_11 E ad S A_26 b (show qk 188 = 11 from by decide +kernel)) (by decide) rfl gX11_yard_X11_passAll rfl rfl rfl (by decide +kernel) ⟨Nat.le_of_ble_eq_true rfl, Nat.le_of_ble_eq_true rfl⟩ rfl hl.1 rfl (Nat.le_of_ble_eq_true rfl) ⟨Nat.zero_le _, Nat.zero_le _⟩ dX11_yard_84 (fun S_28 A_29 b_30 H locs qr_27 hM => ?_)
                obtain ⟨⟨e1, e3⟩, hrA_29, hfA_29⟩ := qr_27
                subst e1; subst e3
                refine lv_aload_n hx hb dX11_yard_87 rfl (lv_at hl 2 rfl) ?_
                refine q_get (o := 188) (ci := 11) (k := 11) (T := TX11) (v := .ref (ad 193)) C hM (qmem_11 E ad S A_29 b (show qk 188 = 11 from by decide +kernel)) (by decide) rfl hi11 (by decide) hL1 rfl rfl dX11_yard_88 ?_
                refine lv_iload_n hx hb dX11_yard_91 rfl (lv_at hl 4 rfl) ?_
                refine q_iald (v := A_29 193 ka2) C hM (show qk 193 = 12 from by decide +kernel) (by rw [(show ql 193 = 37 from by decide +kernel)]; exact vp_nI (by omega) (by omega)) (by rw [nIc (by omega)]) dX11_yard_92 ?_
                refine lv_istore (lv' := [(6, .int (A_29 193 ka2)), (5, .int r_18), (4, .int x4_13), (0, .ref (ad 188)), (1, .int (nI ka1)), (2, .int (nI ka2)), (3, .int (nI ka3))]) hx hb dX11_yard_93 hl (by decide) rfl (fun ls hl => ?_)
                refine lv_aload_n hx hb dX11_yard_95 rfl (lv_at hl 3 rfl) ?_
                refine q_callVV (n := 0) (o := 188) (As := []) (rest := []) C hM hA (c_X11_putBack E ad l S A_29 b) (qmem_11 E ad S A_29 b (show qk 188 = 11 from by decide +kernel)) (by decide) rfl gX11_yard_X11_putBack rfl rfl rfl (by decide +kernel) ⟨Nat.le_of_ble_eq_true rfl, Nat.le_of_ble_eq_true rfl⟩ rfl hl.1 rfl (Nat.le_of_ble_eq_true rfl) ⟨Nat.zero_le _, Nat.zero_le _⟩ dX11_yard_96 (fun S_32 A_33 b_34 H locs qr_31 hM => ?_)
                obtain ⟨⟨e1, e3⟩, hrA_33, hfA_33⟩ := qr_31
                subst e1; subst e3
                refine lv_iload hx hb dX11_yard_99 (lv_at hl 0 rfl) ?_
                refine lv_iload hx hb dX11_yard_101 (lv_at hl 1 rfl) ?_
                refine lv_isub hx hb dX11_yard_103 ?_
                refine lv_sipush (v := 10000) hx hb dX11_yard_104 (by decide) ?_
                refine lv_iadd hx hb dX11_yard_107 ?_
                exact q_iret C hM dX11_yard_108 (by have hbk : A_33 193 = A 193 := (by rw [hrA_33]; exact qback (by rw [hfA_29 203 (by omega), eA_26, q2_or _ _ (by omega), hrA_24, hfA_20 193 (by omega)]) (fun a ha => by rw [hrA_29, mpass_hi (by omega) (by omega) (by omega) (by omega), (show A_26 193 = upd (A 193) (12 + ka1) (A 193 (12 + ka1) + 1) from by rw [eA_26, q2_row, hfA_24 193 (by omega), hfA_20 193 (by omega), ex4_13]), upd_o _ _ (by omega)])); rw [qix_in hka1 (by omega)]; dsimp only [Option.elim]; rw [qix_in hka2 (by omega)]; dsimp only [Option.elim]; rw [qir_in hloka3 hhika3 (by omega)]; dsimp only [Option.elim]; rw [ex4_13] at er_14; exact ⟨⟨rfl, rfl⟩, by rw [if_neg (q01_ne0.mp (fun z => c_54 (er_14.trans z))), show A_29 193 = _ from hrA_29, (show A_26 193 = upd (A 193) (12 + ka1) (A 193 (12 + ka1) + 1) from by rw [eA_26, q2_row, hfA_24 193 (by omega), hfA_20 193 (by omega), ex4_13]), er_18, eA_26, q2_or _ _ (by omega), q2_or _ _ (by omega), hfA_24 191 (by omega), hfA_24 192 (by omega), hfA_20 191 (by omega), hfA_20 192 (by omega)], fun i hi => by by_cases hz : i = 193; (rw [hz]; exact hbk); (rw [hfA_33 i hz, hfA_29 i hz, eA_26, q2_or _ _ hz, hfA_24 i hi, hfA_20 i hi])⟩)
              · skip
                refine lv_iconst (v := (-1)) hx hb dX11_yard_57 (by decide) ?_
                exact q_iret C hM dX11_yard_58 (by rw [qix_in hka1 (by omega)]; dsimp only [Option.elim]; rw [qix_in hka2 (by omega)]; dsimp only [Option.elim]; rw [qir_in hloka3 hhika3 (by omega)]; dsimp only [Option.elim]; rw [ex4_13] at er_14; exact ⟨⟨rfl, rfl⟩, by rw [if_pos (Classical.not_not.mp (q01_eq0.mp (er_14.symm.trans c_54)))], fun _ _ => rfl⟩)
            · skip
              have c_28 : 1 = 0 := (nI_eq (a := 1) (b := 0) (by omega) (by omega)).mp c_28
              exact absurd c_28 (by decide)
          · skip
            rw [hzr_9] at er_9
            subst er_9
            refine lv_if_ne (tgt := 34) hx hb dX11_yard_28 (by decide) (fun c_28 => ?_) (fun c_28 => ?_)
            · skip
              have c_28 : ¬ (0 = 0) := fun z => c_28 ((nI_eq (a := 0) (b := 0) (by omega) (by omega)).mpr z)
              exact absurd rfl c_28
            · skip
              have c_28 : 0 = 0 := (nI_eq (a := 0) (b := 0) (by omega) (by omega)).mp c_28
              refine lv_ldc (v := (-1000000002)) hx hb C.2.2.2.1 hL2 dX11_yard_31 ?_
              exact q_iret C hM dX11_yard_33 (by rw [qix_in hka1 (by omega)]; dsimp only [Option.elim]; rw [qix_in hka2 (by omega)]; dsimp only [Option.elim]; rw [qir_out hir_9]; dsimp only [Option.elim]; exact ⟨⟨rfl, rfl⟩, rfl, fun _ _ => rfl⟩)
        · skip
          have c_13 : 1 = 0 := (nI_eq (a := 1) (b := 0) (by omega) (by omega)).mp c_13
          exact absurd c_13 (by decide)
      · skip
        subst er_5
        refine lv_if_ne (tgt := 19) hx hb dX11_yard_13 (by decide) (fun c_13 => ?_) (fun c_13 => ?_)
        · skip
          have c_13 : ¬ (0 = 0) := fun z => c_13 ((nI_eq (a := 0) (b := 0) (by omega) (by omega)).mpr z)
          exact absurd rfl c_13
        · skip
          have c_13 : 0 = 0 := (nI_eq (a := 0) (b := 0) (by omega) (by omega)).mp c_13
          refine lv_ldc (v := (-1000000001)) hx hb C.2.2.2.1 hL3 dX11_yard_16 ?_
          exact q_iret C hM dX11_yard_18 (by rw [qix_in hka1 (by omega)]; dsimp only [Option.elim]; rw [qix_out (by omega) hnoa2]; dsimp only [Option.elim]; exact ⟨⟨rfl, rfl⟩, rfl, fun _ _ => rfl⟩)
  · skip
    subst er_1
    refine lv_if_eq (tgt := 16) hx hb dX11_yard_5 (by decide) (fun c_5 => ?_) (fun c_5 => ?_)
    · skip
      have c_5 : 0 = 0 := (nI_eq (a := 0) (b := 0) (by omega) (by omega)).mp c_5
      refine lv_ldc (v := (-1000000001)) hx hb C.2.2.2.1 hL3 dX11_yard_16 ?_
      exact q_iret C hM dX11_yard_18 (by rw [qix_out (by omega) hnoa1]; dsimp only [Option.elim]; exact ⟨⟨rfl, rfl⟩, rfl, fun _ _ => rfl⟩)
    · skip
      have c_5 : ¬ (0 = 0) := fun z => c_5 ((nI_eq (a := 0) (b := 0) (by omega) (by omega)).mpr z)
      exact absurd rfl c_5

set_option maxHeartbeats 4000000 in
set_option maxRecDepth 100000 in
theorem c_X11_keep (E : qE) (ad : Nat → Nat) (l : Launch) (S A : qA2) (b : qB) (a1 : Int32) : MI E ad l yX11_keep wsX11_keep { frames := 1, cells := 0, slots := 0, locals := 25 } [.ref (ad 188), .int a1] S A b (fun r S' A' b' => b = b' ∧ ((qir a1 0 1 = none ∧ r = (-1000000001) ∧ S = S' ∧ A = A') ∨ (∃ k, k < 2 ∧ a1 = nI k ∧ r = 1 ∧ S' = q2 S 188 30 0 ∧ (∀ j, j < 37 → A' 212 (38 * k + j) = A 193 j) ∧ A' 212 (38 * k + 37) = S 188 12 ∧ (∀ j, (j < 38 * k ∨ 38 * k + 38 ≤ j) → A' 212 j = A 212 j) ∧ A' 213 = upd (A 213) k 1 ∧ ∀ i, i ≠ 212 → i ≠ 213 → A' i = A i))) := by
  refine MI.of (cc := cX11_keep) (maxL := 3) (ret := some .int) RX11 rfl (by decide) rfl ?_
  intro pg e s m below meth cd C hM
  have hx := C.1
  have hb := C.2.1
  have hts := C.2.2.2.2.1
  have hA : ∀ q, s.heap.size ≤ q → qAr ad s.heap.size q := fun _ h => Or.inr h
  have hi11 : ∀ w ∈ u_ws RX11 TX11 45, w ∈ wsX11_keep := by decide +kernel
  have hL0 := hts (.fieldLink RX11 84 "CrowFencesModel" "images" "[I") (by decide +kernel)
  have hL1 := hts (.fieldLink RX11 266 "CrowFencesModel" "seed" "I") (by decide +kernel)
  have hL2 := hts (.fieldLink RX11 87 "CrowFencesModel" "isKept" "[Z") (by decide +kernel)
  have hL3 := hts (.fieldLink RX11 204 "CrowFencesModel" "undos" "I") (by decide +kernel)
  have hL4 := hts (.fieldLink RX11 22 "CrowFencesModel" "now" "[I") (by decide +kernel)
  have hL5 := hts (.constant RX11 219 (-1000000001)) (by decide +kernel)
  have hl := lv_entry ([.ref (ad 188), .int a1]) (n := 3) (Nat.le_of_ble_eq_true rfl)
  rw [lg_entry_eq]
  generalize (lg_sl ([.ref (ad 188), .int a1]) ++ List.replicate (3 - (lg_sl ([.ref (ad 188), .int a1])).length) Slot.unset).toArray = ls at hl ⊢
  have hl : lv_has ls 3 [(0, .ref (ad 188)), (1, .int a1)] := hl
  refine lv_iload_n hx hb dX11_keep_0 rfl (lv_at hl 1 rfl) ?_
  refine lv_i2l (v := (a1 : Int32).toInt64) hx hb dX11_keep_1 rfl ?_
  refine lv_lconst (v := 0) hx hb dX11_keep_2 rfl ?_
  refine lv_lconst (v := 1) hx hb dX11_keep_3 rfl ?_
  refine q_callSI (n := 3) (As := [.long ((a1 : Int32).toInt64), .long 0, .long 1]) (rest := []) C hM hA (c_X11_in E ad l S A b ((a1 : Int32).toInt64) 0 1) gX11_keep_X11_in rfl rfl rfl (by decide +kernel) ⟨Nat.le_of_ble_eq_true rfl, Nat.le_of_ble_eq_true rfl⟩ rfl hl.1 rfl (Nat.le_of_ble_eq_true rfl) ⟨Nat.zero_le _, Nat.zero_le _⟩ dX11_keep_4 (fun r_1 S_2 A_3 b_4 H locs qr_1 hM => ?_)
  obtain ⟨⟨e1, e2, e3⟩, er_1⟩ := qr_1
  subst e1; subst e2; subst e3
  rw [q64 (x := a1) (lo := 0) (hi := 1) (by first | rfl | decide) (by first | rfl | decide)] at er_1
  rcases q01_cases (0 ≤ a1 ∧ a1 ≤ 1) with ⟨hzr_1, hir_1⟩ | ⟨hzr_1, hir_1⟩
  · skip
    rw [hzr_1] at er_1
    subst er_1
    obtain ⟨ka1, hloka1, hhika1, eka1⟩ := qin_of (l := 0) (h := 1) rfl rfl (by omega) (by omega) hir_1
    subst eka1
    refine lv_if_ne (tgt := 13) hx hb dX11_keep_7 (by decide) (fun c_7 => ?_) (fun c_7 => ?_)
    · skip
      have c_7 : ¬ (1 = 0) := fun z => c_7 ((nI_eq (a := 1) (b := 0) (by omega) (by omega)).mpr z)
      refine lv_iconst (v := 0) hx hb dX11_keep_13 (by decide) ?_
      refine lv_istore_n (lv' := [(2, .int 0), (0, .ref (ad 188)), (1, .int (nI ka1))]) hx hb dX11_keep_14 rfl hl (by decide) rfl (fun ls hl => ?_)
      have loop15 : ∀ (fu : Nat) (k : Nat) (A15 : qA2) (hk : k ≤ 37) (hr : ∀ j, j < k → A15 212 (38 * ka1 + j) = A 193 j) (hr0 : ∀ j, (j < 38 * ka1 ∨ 38 * ka1 + 38 ≤ j) → A15 212 j = A 212 j) (hf : ∀ i, i ≠ 212 → A15 i = A i), 37 - k < fu → ∀ (H : Heap) (locs : List Loc) (ls : Array Slot), qM E ad S A15 b (qAr ad s.heap.size) s H locs → lv_has ls 3 [(2, .int (nI k)), (0, .ref (ad 188)), (1, .int (nI ka1))] → W pg l e (headSpec wsX11_keep { frames := 1, cells := 0, slots := 0, locals := 25 }).room s m ([.ref (ad 188), .int (nI ka1)] : List Value).toArray below meth cd H locs 0 0 (MQ below (qQi E ad s.heap.size (fun r S' A' b' => b = b' ∧ ((qir (nI ka1) 0 1 = none ∧ r = (-1000000001) ∧ S = S' ∧ A = A') ∨ (∃ k, k < 2 ∧ (nI ka1) = nI k ∧ r = 1 ∧ S' = q2 S 188 30 0 ∧ (∀ j, j < 37 → A' 212 (38 * k + j) = A 193 j) ∧ A' 212 (38 * k + 37) = S 188 12 ∧ (∀ j, (j < 38 * k ∨ 38 * k + 38 ≤ j) → A' 212 j = A 212 j) ∧ A' 213 = upd (A 213) k 1 ∧ ∀ i, i ≠ 212 → i ≠ 213 → A' i = A i)))) ([.ref (ad 188), .int (nI ka1)] : List Value).toArray s 0 0 (qAr ad s.heap.size)) (F0 m 15 ls []) := by
        intro fu
        induction fu with
        | zero => intro k A15 hk hr hr0 hf hn; exact absurd hn (Nat.not_lt_zero _)
        | succ fu ih15 =>
          intro k A15 hk hr hr0 hf hn H locs ls hM hl
          refine lv_iload_n hx hb dX11_keep_15 rfl (lv_at hl 0 rfl) ?_
          refine lv_bipush (v := 37) hx hb dX11_keep_16 (by decide) ?_
          refine lv_icmp_ge (tgt := 44) hx hb dX11_keep_18 (by decide) (fun c_18 => ?_) (fun c_18 => ?_)
          · skip
            have c_18 : 37 ≤ k := (nI_leI (a := 37) (b := k) (by omega) (by omega)).mp c_18
            refine lv_aload_n hx hb dX11_keep_44 rfl (lv_at hl 1 rfl) ?_
            refine q_get (o := 188) (ci := 11) (k := 43) (T := TX11) (v := .ref (ad 212)) C hM (qmem_11 E ad S A15 b (show qk 188 = 11 from by decide +kernel)) (by decide) rfl hi11 (by decide) hL0 rfl rfl dX11_keep_45 ?_
            refine lv_bipush (v := 38) hx hb dX11_keep_48 (by decide) ?_
            refine lv_iload_n hx hb dX11_keep_50 rfl (lv_at hl 2 rfl) ?_
            refine lv_imul hx hb dX11_keep_51 ?_
            refine lv_as (y := nI (38 * ka1)) (pk_mul _ _) ?_
            refine lv_bipush (v := 37) hx hb dX11_keep_52 (by decide) ?_
            refine lv_iadd hx hb dX11_keep_54 ?_
            refine lv_as (y := nI ((38 * ka1) + 37)) (nI_add _ _) ?_
            refine lv_aload_n hx hb dX11_keep_55 rfl (lv_at hl 1 rfl) ?_
            refine q_get (o := 188) (ci := 11) (k := 12) (T := TX11) (v := .int (S 188 12)) C hM (qmem_11 E ad S A15 b (show qk 188 = 11 from by decide +kernel)) (by decide) rfl hi11 (by decide) hL1 rfl rfl dX11_keep_56 ?_
            refine q_iast C hM (show qk 212 = 12 from by decide +kernel) (by rw [(show ql 212 = 76 from by decide +kernel)]; exact vp_nI (by omega) (by omega)) dX11_keep_59 (fun H locs hM => ?_)
            rw [nIc (by omega)] at hM
            obtain ⟨A_5, eA_5⟩ : ∃ zz, zz = q2 A15 212 ((38 * ka1) + 37) (S 188 12) := ⟨_, rfl⟩
            rw [← eA_5] at hM
            refine lv_aload_n hx hb dX11_keep_60 rfl (lv_at hl 1 rfl) ?_
            refine q_get (o := 188) (ci := 11) (k := 44) (T := TX11) (v := .ref (ad 213)) C hM (qmem_11 E ad S A_5 b (show qk 188 = 11 from by decide +kernel)) (by decide) rfl hi11 (by decide) hL2 rfl rfl dX11_keep_61 ?_
            refine lv_iload_n hx hb dX11_keep_64 rfl (lv_at hl 2 rfl) ?_
            refine lv_iconst (v := 1) hx hb dX11_keep_65 (by decide) ?_
            refine q_zast C hM (show qk 213 = 13 from by decide +kernel) (by rw [(show ql 213 = 2 from by decide +kernel)]; exact vp_nI (by omega) (by omega)) dX11_keep_66 (fun H locs hM => ?_)
            rw [nIc (by omega)] at hM
            rw [show vp_nar .boolean 1 = 1 from rfl] at hM
            obtain ⟨A_6, eA_6⟩ : ∃ zz, zz = q2 A_5 213 ka1 1 := ⟨_, rfl⟩
            rw [← eA_6] at hM
            refine lv_aload_n hx hb dX11_keep_67 rfl (lv_at hl 1 rfl) ?_
            refine lv_iconst (v := 0) hx hb dX11_keep_68 (by decide) ?_
            refine q_put (o := 188) (ci := 11) (k := 30) (T := TX11) (ty := .int) (v := 0) C hM (qmem_11 E ad S A_6 b (show qk 188 = 11 from by decide +kernel)) (by decide) rfl hi11 tyX11 tyX11_ok nmX11 (by decide) hL3 rfl rfl (by decide +kernel) rfl rfl (Nat.le_of_ble_eq_true rfl) (qs_11_30 E ad S A_6 b (show qk 188 = 11 from by decide +kernel) 0) dX11_keep_69 (fun H locs hM => ?_)
            obtain ⟨S_7, eS_7⟩ : ∃ zz, zz = q2 S 188 30 0 := ⟨_, rfl⟩
            rw [← eS_7] at hM
            refine lv_iconst (v := 1) hx hb dX11_keep_72 (by decide) ?_
            exact q_iret C hM dX11_keep_73 (by exact ⟨rfl, Or.inr ⟨ka1, by omega, rfl, rfl, eS_7, fun j hj => by rw [eA_6, q2_or _ _ (by omega), eA_5, q2_row, upd_o _ _ (by omega)]; exact hr j (by omega), by rw [eA_6, q2_or _ _ (by omega), eA_5, q2_row, upd_s], fun j hj => by rw [eA_6, q2_or _ _ (by omega), eA_5, q2_row, upd_o _ _ (by omega)]; exact hr0 j hj, by rw [eA_6, q2_row, eA_5, q2_or _ _ (by omega), hf 213 (by omega)], fun i h1 h2 => by rw [eA_6, q2_or _ _ h2, eA_5, q2_or _ _ h1, hf i h1]⟩⟩)
          · skip
            have c_18 : ¬ (37 ≤ k) := fun z => c_18 ((nI_leI (a := 37) (b := k) (by omega) (by omega)).mpr z)
            refine lv_aload_n hx hb dX11_keep_21 rfl (lv_at hl 1 rfl) ?_
            refine q_get (o := 188) (ci := 11) (k := 43) (T := TX11) (v := .ref (ad 212)) C hM (qmem_11 E ad S A15 b (show qk 188 = 11 from by decide +kernel)) (by decide) rfl hi11 (by decide) hL0 rfl rfl dX11_keep_22 ?_
            refine lv_bipush (v := 38) hx hb dX11_keep_25 (by decide) ?_
            refine lv_iload_n hx hb dX11_keep_27 rfl (lv_at hl 2 rfl) ?_
            refine lv_imul hx hb dX11_keep_28 ?_
            refine lv_as (y := nI (38 * ka1)) (pk_mul _ _) ?_
            refine lv_iload_n hx hb dX11_keep_29 rfl (lv_at hl 0 rfl) ?_
            refine lv_iadd hx hb dX11_keep_30 ?_
            refine lv_as (y := nI ((38 * ka1) + k)) (nI_add _ _) ?_
            refine lv_aload_n hx hb dX11_keep_31 rfl (lv_at hl 1 rfl) ?_
            refine q_get (o := 188) (ci := 11) (k := 11) (T := TX11) (v := .ref (ad 193)) C hM (qmem_11 E ad S A15 b (show qk 188 = 11 from by decide +kernel)) (by decide) rfl hi11 (by decide) hL4 rfl rfl dX11_keep_32 ?_
            refine lv_iload_n hx hb dX11_keep_35 rfl (lv_at hl 0 rfl) ?_
            refine q_iald (v := A 193 k) C hM (show qk 193 = 12 from by decide +kernel) (by rw [(show ql 193 = 37 from by decide +kernel)]; exact vp_nI (by omega) (by omega)) (by rw [nIc (by omega)]; exact (show A15 193 k = A 193 k from by rw [hf 193 (by omega)])) dX11_keep_36 ?_
            refine q_iast C hM (show qk 212 = 12 from by decide +kernel) (by rw [(show ql 212 = 76 from by decide +kernel)]; exact vp_nI (by omega) (by omega)) dX11_keep_37 (fun H locs hM => ?_)
            rw [nIc (by omega)] at hM
            obtain ⟨A_8, eA_8⟩ : ∃ zz, zz = q2 A15 212 ((38 * ka1) + k) (A 193 k) := ⟨_, rfl⟩
            rw [← eA_8] at hM
            refine lv_iinc (v := nI (k + 1)) (lv' := [(2, .int (nI (k + 1))), (0, .ref (ad 188)), (1, .int (nI ka1))]) hx hb dX11_keep_38 hl (k := 0) rfl (by rw [nI_succ]; rfl) (by decide) rfl (fun ls hl => ?_)
            refine lv_goto (tgt := 15) hx hb dX11_keep_41 (by decide) ?_
            exact ih15 (k + 1) A_8 (by omega) (fun j hj => by rw [eA_8, q2_row]; by_cases hz : j = k; (subst hz; rw [upd_s]); (rw [upd_o _ _ (by omega)]; exact hr j (by omega))) (fun j hj => by rw [eA_8, q2_row, upd_o _ _ (by omega)]; exact hr0 j hj) (by rw [eA_8]; exact qfr_up hf) (by omega) _ _ _ hM hl
      exact loop15 (37 - 0 + 1) 0 A (by omega) (fun j hj => absurd hj (Nat.not_lt_zero _)) (fun _ _ => rfl) (fun _ _ => rfl) (Nat.lt_succ_self _) _ _ _ hM hl
    · skip
      have c_7 : 1 = 0 := (nI_eq (a := 1) (b := 0) (by omega) (by omega)).mp c_7
      exact absurd c_7 (by decide)
  · skip
    rw [hzr_1] at er_1
    subst er_1
    refine lv_if_ne (tgt := 13) hx hb dX11_keep_7 (by decide) (fun c_7 => ?_) (fun c_7 => ?_)
    · skip
      have c_7 : ¬ (0 = 0) := fun z => c_7 ((nI_eq (a := 0) (b := 0) (by omega) (by omega)).mpr z)
      exact absurd rfl c_7
    · skip
      have c_7 : 0 = 0 := (nI_eq (a := 0) (b := 0) (by omega) (by omega)).mp c_7
      refine lv_ldc (v := (-1000000001)) hx hb C.2.2.2.1 hL5 dX11_keep_10 ?_
      exact q_iret C hM dX11_keep_12 (by exact ⟨rfl, Or.inl ⟨qir_out hir_1, rfl, rfl, rfl⟩⟩)

set_option maxHeartbeats 4000000 in
set_option maxRecDepth 100000 in
theorem c_X11_goBack (E : qE) (ad : Nat → Nat) (l : Launch) (S A : qA2) (b : qB) (a1 : Int32) : MI E ad l yX11_goBack wsX11_goBack { frames := 1, cells := 0, slots := 0, locals := 25 } [.ref (ad 188), .int a1] S A b (fun r S' A' b' => b = b' ∧ ((qir a1 0 1 = none ∧ r = (-1000000001) ∧ S = S' ∧ A = A') ∨ (∃ k, k < 2 ∧ a1 = nI k ∧ ((A 213 k = 0 ∧ r = (-1000000003) ∧ S = S' ∧ A = A') ∨ (¬ A 213 k = 0 ∧ r = 1 ∧ S' = q2 (q2 S 188 12 (A 212 (38 * k + 37))) 188 30 0 ∧ (∀ j, j < 37 → A' 193 j = A 212 (38 * k + j)) ∧ ∀ i, i ≠ 193 → A' i = A i))))) := by
  refine MI.of (cc := cX11_goBack) (maxL := 3) (ret := some .int) RX11 rfl (by decide) rfl ?_
  intro pg e s m below meth cd C hM
  have hx := C.1
  have hb := C.2.1
  have hts := C.2.2.2.2.1
  have hA : ∀ q, s.heap.size ≤ q → qAr ad s.heap.size q := fun _ h => Or.inr h
  have hi11 : ∀ w ∈ u_ws RX11 TX11 45, w ∈ wsX11_goBack := by decide +kernel
  have hL0 := hts (.fieldLink RX11 87 "CrowFencesModel" "isKept" "[Z") (by decide +kernel)
  have hL1 := hts (.fieldLink RX11 84 "CrowFencesModel" "images" "[I") (by decide +kernel)
  have hL2 := hts (.fieldLink RX11 266 "CrowFencesModel" "seed" "I") (by decide +kernel)
  have hL3 := hts (.fieldLink RX11 204 "CrowFencesModel" "undos" "I") (by decide +kernel)
  have hL4 := hts (.fieldLink RX11 22 "CrowFencesModel" "now" "[I") (by decide +kernel)
  have hL5 := hts (.constant RX11 247 (-1000000003)) (by decide +kernel)
  have hL6 := hts (.constant RX11 219 (-1000000001)) (by decide +kernel)
  have hl := lv_entry ([.ref (ad 188), .int a1]) (n := 3) (Nat.le_of_ble_eq_true rfl)
  rw [lg_entry_eq]
  generalize (lg_sl ([.ref (ad 188), .int a1]) ++ List.replicate (3 - (lg_sl ([.ref (ad 188), .int a1])).length) Slot.unset).toArray = ls at hl ⊢
  have hl : lv_has ls 3 [(0, .ref (ad 188)), (1, .int a1)] := hl
  refine lv_iload_n hx hb dX11_goBack_0 rfl (lv_at hl 1 rfl) ?_
  refine lv_i2l (v := (a1 : Int32).toInt64) hx hb dX11_goBack_1 rfl ?_
  refine lv_lconst (v := 0) hx hb dX11_goBack_2 rfl ?_
  refine lv_lconst (v := 1) hx hb dX11_goBack_3 rfl ?_
  refine q_callSI (n := 3) (As := [.long ((a1 : Int32).toInt64), .long 0, .long 1]) (rest := []) C hM hA (c_X11_in E ad l S A b ((a1 : Int32).toInt64) 0 1) gX11_goBack_X11_in rfl rfl rfl (by decide +kernel) ⟨Nat.le_of_ble_eq_true rfl, Nat.le_of_ble_eq_true rfl⟩ rfl hl.1 rfl (Nat.le_of_ble_eq_true rfl) ⟨Nat.zero_le _, Nat.zero_le _⟩ dX11_goBack_4 (fun r_1 S_2 A_3 b_4 H locs qr_1 hM => ?_)
  obtain ⟨⟨e1, e2, e3⟩, er_1⟩ := qr_1
  subst e1; subst e2; subst e3
  rw [q64 (x := a1) (lo := 0) (hi := 1) (by first | rfl | decide) (by first | rfl | decide)] at er_1
  rcases q01_cases (0 ≤ a1 ∧ a1 ≤ 1) with ⟨hzr_1, hir_1⟩ | ⟨hzr_1, hir_1⟩
  · skip
    rw [hzr_1] at er_1
    subst er_1
    obtain ⟨ka1, hloka1, hhika1, eka1⟩ := qin_of (l := 0) (h := 1) rfl rfl (by omega) (by omega) hir_1
    subst eka1
    refine lv_if_ne (tgt := 13) hx hb dX11_goBack_7 (by decide) (fun c_7 => ?_) (fun c_7 => ?_)
    · skip
      have c_7 : ¬ (1 = 0) := fun z => c_7 ((nI_eq (a := 1) (b := 0) (by omega) (by omega)).mpr z)
      refine lv_aload_n hx hb dX11_goBack_13 rfl (lv_at hl 0 rfl) ?_
      refine q_get (o := 188) (ci := 11) (k := 44) (T := TX11) (v := .ref (ad 213)) C hM (qmem_11 E ad S A b (show qk 188 = 11 from by decide +kernel)) (by decide) rfl hi11 (by decide) hL0 rfl rfl dX11_goBack_14 ?_
      refine lv_iload_n hx hb dX11_goBack_17 rfl (lv_at hl 1 rfl) ?_
      refine q_zald (v := A 213 ka1) C hM (show qk 213 = 13 from by decide +kernel) (by rw [(show ql 213 = 2 from by decide +kernel)]; exact vp_nI (by omega) (by omega)) (by rw [nIc (by omega)]) dX11_goBack_18 ?_
      refine lv_if_ne (tgt := 25) hx hb dX11_goBack_19 (by decide) (fun c_19 => ?_) (fun c_19 => ?_)
      · skip
        refine lv_iconst (v := 0) hx hb dX11_goBack_25 (by decide) ?_
        refine lv_istore_n (lv' := [(2, .int 0), (0, .ref (ad 188)), (1, .int (nI ka1))]) hx hb dX11_goBack_26 rfl hl (by decide) rfl (fun ls hl => ?_)
        have loop27 : ∀ (fu : Nat) (k : Nat) (A27 : qA2) (hk : k ≤ 37) (hr : ∀ j, j < k → A27 193 j = A 212 (38 * ka1 + j)) (hf : ∀ i, i ≠ 193 → A27 i = A i), 37 - k < fu → ∀ (H : Heap) (locs : List Loc) (ls : Array Slot), qM E ad S A27 b (qAr ad s.heap.size) s H locs → lv_has ls 3 [(2, .int (nI k)), (0, .ref (ad 188)), (1, .int (nI ka1))] → W pg l e (headSpec wsX11_goBack { frames := 1, cells := 0, slots := 0, locals := 25 }).room s m ([.ref (ad 188), .int (nI ka1)] : List Value).toArray below meth cd H locs 0 0 (MQ below (qQi E ad s.heap.size (fun r S' A' b' => b = b' ∧ ((qir (nI ka1) 0 1 = none ∧ r = (-1000000001) ∧ S = S' ∧ A = A') ∨ (∃ k, k < 2 ∧ (nI ka1) = nI k ∧ ((A 213 k = 0 ∧ r = (-1000000003) ∧ S = S' ∧ A = A') ∨ (¬ A 213 k = 0 ∧ r = 1 ∧ S' = q2 (q2 S 188 12 (A 212 (38 * k + 37))) 188 30 0 ∧ (∀ j, j < 37 → A' 193 j = A 212 (38 * k + j)) ∧ ∀ i, i ≠ 193 → A' i = A i)))))) ([.ref (ad 188), .int (nI ka1)] : List Value).toArray s 0 0 (qAr ad s.heap.size)) (F0 m 27 ls []) := by
          intro fu
          induction fu with
          | zero => intro k A27 hk hr hf hn; exact absurd hn (Nat.not_lt_zero _)
          | succ fu ih27 =>
            intro k A27 hk hr hf hn H locs ls hM hl
            refine lv_iload_n hx hb dX11_goBack_27 rfl (lv_at hl 0 rfl) ?_
            refine lv_bipush (v := 37) hx hb dX11_goBack_28 (by decide) ?_
            refine lv_icmp_ge (tgt := 56) hx hb dX11_goBack_30 (by decide) (fun c_30 => ?_) (fun c_30 => ?_)
            · skip
              have c_30 : 37 ≤ k := (nI_leI (a := 37) (b := k) (by omega) (by omega)).mp c_30
              refine lv_aload_n hx hb dX11_goBack_56 rfl (lv_at hl 1 rfl) ?_
              refine lv_aload_n hx hb dX11_goBack_57 rfl (lv_at hl 1 rfl) ?_
              refine q_get (o := 188) (ci := 11) (k := 43) (T := TX11) (v := .ref (ad 212)) C hM (qmem_11 E ad S A27 b (show qk 188 = 11 from by decide +kernel)) (by decide) rfl hi11 (by decide) hL1 rfl rfl dX11_goBack_58 ?_
              refine lv_bipush (v := 38) hx hb dX11_goBack_61 (by decide) ?_
              refine lv_iload_n hx hb dX11_goBack_63 rfl (lv_at hl 2 rfl) ?_
              refine lv_imul hx hb dX11_goBack_64 ?_
              refine lv_as (y := nI (38 * ka1)) (pk_mul _ _) ?_
              refine lv_bipush (v := 37) hx hb dX11_goBack_65 (by decide) ?_
              refine lv_iadd hx hb dX11_goBack_67 ?_
              refine lv_as (y := nI ((38 * ka1) + 37)) (nI_add _ _) ?_
              refine q_iald (v := A 212 ((38 * ka1) + 37)) C hM (show qk 212 = 12 from by decide +kernel) (by rw [(show ql 212 = 76 from by decide +kernel)]; exact vp_nI (by omega) (by omega)) (by rw [nIc (by omega)]; exact (show A27 212 ((38 * ka1) + 37) = A 212 ((38 * ka1) + 37) from by rw [hf 212 (by omega)])) dX11_goBack_68 ?_
              refine lv_topi (fun v_5 ev_5 => ?_)
              refine q_put (o := 188) (ci := 11) (k := 12) (T := TX11) (ty := .int) (v := v_5) C hM (qmem_11 E ad S A27 b (show qk 188 = 11 from by decide +kernel)) (by decide) rfl hi11 tyX11 tyX11_ok nmX11 (by decide) hL2 rfl rfl (by decide +kernel) rfl rfl (Nat.le_of_ble_eq_true rfl) (qs_11_12 E ad S A27 b (show qk 188 = 11 from by decide +kernel) v_5) dX11_goBack_69 (fun H locs hM => ?_)
              obtain ⟨S_6, eS_6⟩ : ∃ zz, zz = q2 S 188 12 v_5 := ⟨_, rfl⟩
              rw [← eS_6] at hM
              refine lv_aload_n hx hb dX11_goBack_72 rfl (lv_at hl 1 rfl) ?_
              refine lv_iconst (v := 0) hx hb dX11_goBack_73 (by decide) ?_
              refine q_put (o := 188) (ci := 11) (k := 30) (T := TX11) (ty := .int) (v := 0) C hM (qmem_11 E ad S_6 A27 b (show qk 188 = 11 from by decide +kernel)) (by decide) rfl hi11 tyX11 tyX11_ok nmX11 (by decide) hL3 rfl rfl (by decide +kernel) rfl rfl (Nat.le_of_ble_eq_true rfl) (qs_11_30 E ad S_6 A27 b (show qk 188 = 11 from by decide +kernel) 0) dX11_goBack_74 (fun H locs hM => ?_)
              obtain ⟨S_7, eS_7⟩ : ∃ zz, zz = q2 S_6 188 30 0 := ⟨_, rfl⟩
              rw [← eS_7] at hM
              refine lv_iconst (v := 1) hx hb dX11_goBack_77 (by decide) ?_
              exact q_iret C hM dX11_goBack_78 (by exact ⟨rfl, Or.inr ⟨ka1, by omega, rfl, Or.inr ⟨c_19, rfl, by subst_vars; rfl, fun j hj => hr j (by omega), hf⟩⟩⟩)
            · skip
              have c_30 : ¬ (37 ≤ k) := fun z => c_30 ((nI_leI (a := 37) (b := k) (by omega) (by omega)).mpr z)
              refine lv_aload_n hx hb dX11_goBack_33 rfl (lv_at hl 1 rfl) ?_
              refine q_get (o := 188) (ci := 11) (k := 11) (T := TX11) (v := .ref (ad 193)) C hM (qmem_11 E ad S A27 b (show qk 188 = 11 from by decide +kernel)) (by decide) rfl hi11 (by decide) hL4 rfl rfl dX11_goBack_34 ?_
              refine lv_iload_n hx hb dX11_goBack_37 rfl (lv_at hl 0 rfl) ?_
              refine lv_aload_n hx hb dX11_goBack_38 rfl (lv_at hl 1 rfl) ?_
              refine q_get (o := 188) (ci := 11) (k := 43) (T := TX11) (v := .ref (ad 212)) C hM (qmem_11 E ad S A27 b (show qk 188 = 11 from by decide +kernel)) (by decide) rfl hi11 (by decide) hL1 rfl rfl dX11_goBack_39 ?_
              refine lv_bipush (v := 38) hx hb dX11_goBack_42 (by decide) ?_
              refine lv_iload_n hx hb dX11_goBack_44 rfl (lv_at hl 2 rfl) ?_
              refine lv_imul hx hb dX11_goBack_45 ?_
              refine lv_as (y := nI (38 * ka1)) (pk_mul _ _) ?_
              refine lv_iload_n hx hb dX11_goBack_46 rfl (lv_at hl 0 rfl) ?_
              refine lv_iadd hx hb dX11_goBack_47 ?_
              refine lv_as (y := nI ((38 * ka1) + k)) (nI_add _ _) ?_
              refine q_iald (v := A 212 ((38 * ka1) + k)) C hM (show qk 212 = 12 from by decide +kernel) (by rw [(show ql 212 = 76 from by decide +kernel)]; exact vp_nI (by omega) (by omega)) (by rw [nIc (by omega)]; exact (show A27 212 ((38 * ka1) + k) = A 212 ((38 * ka1) + k) from by rw [hf 212 (by omega)])) dX11_goBack_48 ?_
              refine lv_topi (fun v_8 ev_8 => ?_)
              refine q_iast C hM (show qk 193 = 12 from by decide +kernel) (by rw [(show ql 193 = 37 from by decide +kernel)]; exact vp_nI (by omega) (by omega)) dX11_goBack_49 (fun H locs hM => ?_)
              rw [nIc (by omega)] at hM
              obtain ⟨A_9, eA_9⟩ : ∃ zz, zz = q2 A27 193 k v_8 := ⟨_, rfl⟩
              rw [← eA_9] at hM
              refine lv_iinc (v := nI (k + 1)) (lv' := [(2, .int (nI (k + 1))), (0, .ref (ad 188)), (1, .int (nI ka1))]) hx hb dX11_goBack_50 hl (k := 0) rfl (by rw [nI_succ]; rfl) (by decide) rfl (fun ls hl => ?_)
              refine lv_goto (tgt := 27) hx hb dX11_goBack_53 (by decide) ?_
              exact ih27 (k + 1) A_9 (by omega) (fun j hj => by rw [eA_9, q2_row]; by_cases hz : j = k; (subst hz; rw [upd_s]; exact ev_8); (rw [upd_o _ _ (by omega)]; exact hr j (by omega))) (by rw [eA_9]; exact qfr_up hf) (by omega) _ _ _ hM hl
        exact loop27 (37 - 0 + 1) 0 A (by omega) (fun j hj => absurd hj (Nat.not_lt_zero _)) (fun _ _ => rfl) (Nat.lt_succ_self _) _ _ _ hM hl
      · skip
        refine lv_ldc (v := (-1000000003)) hx hb C.2.2.2.1 hL5 dX11_goBack_22 ?_
        exact q_iret C hM dX11_goBack_24 (by exact ⟨rfl, Or.inr ⟨ka1, by omega, rfl, Or.inl ⟨c_19, rfl, rfl, rfl⟩⟩⟩)
    · skip
      have c_7 : 1 = 0 := (nI_eq (a := 1) (b := 0) (by omega) (by omega)).mp c_7
      exact absurd c_7 (by decide)
  · skip
    rw [hzr_1] at er_1
    subst er_1
    refine lv_if_ne (tgt := 13) hx hb dX11_goBack_7 (by decide) (fun c_7 => ?_) (fun c_7 => ?_)
    · skip
      have c_7 : ¬ (0 = 0) := fun z => c_7 ((nI_eq (a := 0) (b := 0) (by omega) (by omega)).mpr z)
      exact absurd rfl c_7
    · skip
      have c_7 : 0 = 0 := (nI_eq (a := 0) (b := 0) (by omega) (by omega)).mp c_7
      refine lv_ldc (v := (-1000000001)) hx hb C.2.2.2.1 hL6 dX11_goBack_10 ?_
      exact q_iret C hM dX11_goBack_12 (by exact ⟨rfl, Or.inl ⟨qir_out hir_1, rfl, rfl, rfl⟩⟩)

set_option maxHeartbeats 4000000 in
set_option maxRecDepth 100000 in
theorem c_X11_seenAt (E : qE) (ad : Nat → Nat) (l : Launch) (S A : qA2) (b : qB) (np : Nat) (hnp : np < 6) (nS : Nat) (hS : S 188 36 = nI nS) (hSb : nS ≤ 6) (sp : Nat → Nat) (hsp : ∀ k, k < nS → A 208 k = nI (sp k) ∧ sp k < 6) : MI E ad l yX11_seenAt wsX11_seenAt { frames := 0, cells := 0, slots := 0, locals := 0 } [.ref (ad 188), .int (nI np)] S A b (fun r S' A' b' => (S = S' ∧ A = A' ∧ b = b') ∧ r = qsat (A 207) sp np nS) := by
  refine MI.of (cc := cX11_seenAt) (maxL := 4) (ret := some .int) RX11 rfl (by decide) rfl ?_
  intro pg e s m below meth cd C hM
  have hx := C.1
  have hb := C.2.1
  have hts := C.2.2.2.2.1
  have hA : ∀ q, s.heap.size ≤ q → qAr ad s.heap.size q := fun _ h => Or.inr h
  have hi11 : ∀ w ∈ u_ws RX11 TX11 45, w ∈ wsX11_seenAt := by decide +kernel
  have hL0 := hts (.fieldLink RX11 198 "CrowFencesModel" "seen" "I") (by decide +kernel)
  have hL1 := hts (.fieldLink RX11 72 "CrowFencesModel" "seenOn" "[I") (by decide +kernel)
  have hL2 := hts (.fieldLink RX11 69 "CrowFencesModel" "seenWho" "[I") (by decide +kernel)
  have hl := lv_entry ([.ref (ad 188), .int (nI np)]) (n := 4) (Nat.le_of_ble_eq_true rfl)
  rw [lg_entry_eq]
  generalize (lg_sl ([.ref (ad 188), .int (nI np)]) ++ List.replicate (4 - (lg_sl ([.ref (ad 188), .int (nI np)])).length) Slot.unset).toArray = ls at hl ⊢
  have hl : lv_has ls 4 [(0, .ref (ad 188)), (1, .int (nI np))] := hl
  refine lv_iconst (v := 0) hx hb dX11_seenAt_0 (by decide) ?_
  refine lv_istore_n (lv' := [(2, .int 0), (0, .ref (ad 188)), (1, .int (nI np))]) hx hb dX11_seenAt_1 rfl hl (by decide) rfl (fun ls hl => ?_)
  refine lv_iconst (v := 0) hx hb dX11_seenAt_2 (by decide) ?_
  refine lv_istore_n (lv' := [(3, .int 0), (2, .int 0), (0, .ref (ad 188)), (1, .int (nI np))]) hx hb dX11_seenAt_3 rfl hl (by decide) rfl (fun ls hl => ?_)
  have loop4 : ∀ (fu : Nat) (t : Int32) (k : Nat) (hk : k ≤ nS) (ht : t = qsat (A 207) sp np k), nS - k < fu → ∀ (H : Heap) (locs : List Loc) (ls : Array Slot), qM E ad S A b (qAr ad s.heap.size) s H locs → lv_has ls 4 [(3, .int (nI k)), (2, .int t), (0, .ref (ad 188)), (1, .int (nI np))] → W pg l e (headSpec wsX11_seenAt { frames := 0, cells := 0, slots := 0, locals := 0 }).room s m ([.ref (ad 188), .int (nI np)] : List Value).toArray below meth cd H locs 0 0 (MQ below (qQi E ad s.heap.size (fun r S' A' b' => (S = S' ∧ A = A' ∧ b = b') ∧ r = qsat (A 207) sp np nS)) ([.ref (ad 188), .int (nI np)] : List Value).toArray s 0 0 (qAr ad s.heap.size)) (F0 m 4 ls []) := by
    intro fu
    induction fu with
    | zero => intro t k hk ht hn; exact absurd hn (Nat.not_lt_zero _)
    | succ fu ih4 =>
      intro t k hk ht hn H locs ls hM hl
      refine lv_iload_n hx hb dX11_seenAt_4 rfl (lv_at hl 0 rfl) ?_
      refine lv_aload_n hx hb dX11_seenAt_5 rfl (lv_at hl 2 rfl) ?_
      refine q_get (o := 188) (ci := 11) (k := 36) (T := TX11) (v := .int (S 188 36)) C hM (qmem_11 E ad S A b (show qk 188 = 11 from by decide +kernel)) (by decide) rfl hi11 (by decide) hL0 rfl rfl dX11_seenAt_6 ?_
      refine lv_as (y := nI nS) hS ?_
      refine lv_icmp_ge (tgt := 43) hx hb dX11_seenAt_9 (by decide) (fun c_9 => ?_) (fun c_9 => ?_)
      · skip
        have c_9 : nS ≤ k := (nI_leI (a := nS) (b := k) (by omega) (by omega)).mp c_9
        refine lv_iload_n hx hb dX11_seenAt_43 rfl (lv_at hl 1 rfl) ?_
        exact q_iret C hM dX11_seenAt_44 (by exact ⟨⟨rfl, rfl, rfl⟩, (by rw [ht, show k = nS by omega])⟩)
      · skip
        have c_9 : ¬ (nS ≤ k) := fun z => c_9 ((nI_leI (a := nS) (b := k) (by omega) (by omega)).mpr z)
        refine lv_iload_n hx hb dX11_seenAt_12 rfl (lv_at hl 1 rfl) ?_
        refine lv_aload_n hx hb dX11_seenAt_13 rfl (lv_at hl 2 rfl) ?_
        refine q_get (o := 188) (ci := 11) (k := 38) (T := TX11) (v := .ref (ad 208)) C hM (qmem_11 E ad S A b (show qk 188 = 11 from by decide +kernel)) (by decide) rfl hi11 (by decide) hL1 rfl rfl dX11_seenAt_14 ?_
        refine lv_iload_n hx hb dX11_seenAt_17 rfl (lv_at hl 0 rfl) ?_
        refine q_iald (v := A 208 k) C hM (show qk 208 = 12 from by decide +kernel) (by rw [(show ql 208 = 6 from by decide +kernel)]; exact vp_nI (by omega) (by omega)) (by rw [nIc (by omega)]) dX11_seenAt_18 ?_
        refine lv_as (y := nI (sp k)) (hsp k (by omega)).1 ?_
        have hb6 := (hsp k (by omega)).2
        refine lv_iload_n hx hb dX11_seenAt_19 rfl (lv_at hl 3 rfl) ?_
        refine lv_icmp_ne (tgt := 34) hx hb dX11_seenAt_20 (by decide) (fun c_20 => ?_) (fun c_20 => ?_)
        · skip
          have c_20 : ¬ (sp k = np) := fun z => c_20 ((nI_eq (a := sp k) (b := np) (by omega) (by omega)).mpr z)
          refine lv_iconst (v := 0) hx hb dX11_seenAt_34 (by decide) ?_
          refine lv_ior hx hb dX11_seenAt_35 ?_
          refine lv_topi (fun x2_1 ex2_1 => ?_)
          refine lv_istore_n (lv' := [(2, .int x2_1), (3, .int (nI k)), (0, .ref (ad 188)), (1, .int (nI np))]) hx hb dX11_seenAt_36 rfl hl (by decide) rfl (fun ls hl => ?_)
          refine lv_iinc (v := nI (k + 1)) (lv' := [(3, .int (nI (k + 1))), (2, .int x2_1), (0, .ref (ad 188)), (1, .int (nI np))]) hx hb dX11_seenAt_37 hl (k := 1) rfl (by rw [nI_succ]; rfl) (by decide) rfl (fun ls hl => ?_)
          refine lv_goto (tgt := 4) hx hb dX11_seenAt_40 (by decide) ?_
          exact ih4 x2_1 (k + 1) (by omega) (by rw [qsat_s, if_neg c_20, ex2_1, ht, i32_or0]) (by omega) _ _ _ hM hl
        · skip
          have c_20 : sp k = np := (nI_eq (a := sp k) (b := np) (by omega) (by omega)).mp c_20
          refine lv_iconst (v := 1) hx hb dX11_seenAt_23 (by decide) ?_
          refine lv_aload_n hx hb dX11_seenAt_24 rfl (lv_at hl 2 rfl) ?_
          refine q_get (o := 188) (ci := 11) (k := 37) (T := TX11) (v := .ref (ad 207)) C hM (qmem_11 E ad S A b (show qk 188 = 11 from by decide +kernel)) (by decide) rfl hi11 (by decide) hL2 rfl rfl dX11_seenAt_25 ?_
          refine lv_iload_n hx hb dX11_seenAt_28 rfl (lv_at hl 0 rfl) ?_
          refine q_iald (v := A 207 k) C hM (show qk 207 = 12 from by decide +kernel) (by rw [(show ql 207 = 6 from by decide +kernel)]; exact vp_nI (by omega) (by omega)) (by rw [nIc (by omega)]) dX11_seenAt_29 ?_
          refine lv_ishl hx hb dX11_seenAt_30 ?_
          refine lv_goto (tgt := 35) hx hb dX11_seenAt_31 (by decide) ?_
          refine lv_ior hx hb dX11_seenAt_35 ?_
          refine lv_topi (fun x2_2 ex2_2 => ?_)
          refine lv_istore_n (lv' := [(2, .int x2_2), (3, .int (nI k)), (0, .ref (ad 188)), (1, .int (nI np))]) hx hb dX11_seenAt_36 rfl hl (by decide) rfl (fun ls hl => ?_)
          refine lv_iinc (v := nI (k + 1)) (lv' := [(3, .int (nI (k + 1))), (2, .int x2_2), (0, .ref (ad 188)), (1, .int (nI np))]) hx hb dX11_seenAt_37 hl (k := 1) rfl (by rw [nI_succ]; rfl) (by decide) rfl (fun ls hl => ?_)
          refine lv_goto (tgt := 4) hx hb dX11_seenAt_40 (by decide) ?_
          exact ih4 x2_2 (k + 1) (by omega) (by rw [qsat_s, if_pos c_20, ex2_2, ht]; rfl) (by omega) _ _ _ hM hl
  exact loop4 (nS - 0 + 1) 0 0 (by omega) rfl (Nat.lt_succ_self _) _ _ _ hM hl

set_option maxHeartbeats 4000000 in
set_option maxRecDepth 100000 in
theorem c_X11_allSeen (E : qE) (ad : Nat → Nat) (l : Launch) (S A : qA2) (b : qB) (nS : Nat) (hS : S 188 36 = nI nS) (hSb : nS ≤ 6) : MI E ad l yX11_allSeen wsX11_allSeen { frames := 0, cells := 0, slots := 0, locals := 0 } [.ref (ad 188)] S A b (fun r S' A' b' => (S = S' ∧ A = A' ∧ b = b') ∧ r = qsall (A 207) nS) := by
  refine MI.of (cc := cX11_allSeen) (maxL := 3) (ret := some .int) RX11 rfl (by decide) rfl ?_
  intro pg e s m below meth cd C hM
  have hx := C.1
  have hb := C.2.1
  have hts := C.2.2.2.2.1
  have hA : ∀ q, s.heap.size ≤ q → qAr ad s.heap.size q := fun _ h => Or.inr h
  have hi11 : ∀ w ∈ u_ws RX11 TX11 45, w ∈ wsX11_allSeen := by decide +kernel
  have hL0 := hts (.fieldLink RX11 198 "CrowFencesModel" "seen" "I") (by decide +kernel)
  have hL1 := hts (.fieldLink RX11 69 "CrowFencesModel" "seenWho" "[I") (by decide +kernel)
  have hl := lv_entry ([.ref (ad 188)]) (n := 3) (Nat.le_of_ble_eq_true rfl)
  rw [lg_entry_eq]
  generalize (lg_sl ([.ref (ad 188)]) ++ List.replicate (3 - (lg_sl ([.ref (ad 188)])).length) Slot.unset).toArray = ls at hl ⊢
  have hl : lv_has ls 3 [(0, .ref (ad 188))] := hl
  refine lv_iconst (v := 0) hx hb dX11_allSeen_0 (by decide) ?_
  refine lv_istore_n (lv' := [(1, .int 0), (0, .ref (ad 188))]) hx hb dX11_allSeen_1 rfl hl (by decide) rfl (fun ls hl => ?_)
  refine lv_iconst (v := 0) hx hb dX11_allSeen_2 (by decide) ?_
  refine lv_istore_n (lv' := [(2, .int 0), (1, .int 0), (0, .ref (ad 188))]) hx hb dX11_allSeen_3 rfl hl (by decide) rfl (fun ls hl => ?_)
  have loop4 : ∀ (fu : Nat) (t : Int32) (k : Nat) (hk : k ≤ nS) (ht : t = qsall (A 207) k), nS - k < fu → ∀ (H : Heap) (locs : List Loc) (ls : Array Slot), qM E ad S A b (qAr ad s.heap.size) s H locs → lv_has ls 3 [(2, .int (nI k)), (1, .int t), (0, .ref (ad 188))] → W pg l e (headSpec wsX11_allSeen { frames := 0, cells := 0, slots := 0, locals := 0 }).room s m ([.ref (ad 188)] : List Value).toArray below meth cd H locs 0 0 (MQ below (qQi E ad s.heap.size (fun r S' A' b' => (S = S' ∧ A = A' ∧ b = b') ∧ r = qsall (A 207) nS)) ([.ref (ad 188)] : List Value).toArray s 0 0 (qAr ad s.heap.size)) (F0 m 4 ls []) := by
    intro fu
    induction fu with
    | zero => intro t k hk ht hn; exact absurd hn (Nat.not_lt_zero _)
    | succ fu ih4 =>
      intro t k hk ht hn H locs ls hM hl
      refine lv_iload_n hx hb dX11_allSeen_4 rfl (lv_at hl 0 rfl) ?_
      refine lv_aload_n hx hb dX11_allSeen_5 rfl (lv_at hl 2 rfl) ?_
      refine q_get (o := 188) (ci := 11) (k := 36) (T := TX11) (v := .int (S 188 36)) C hM (qmem_11 E ad S A b (show qk 188 = 11 from by decide +kernel)) (by decide) rfl hi11 (by decide) hL0 rfl rfl dX11_allSeen_6 ?_
      refine lv_as (y := nI nS) hS ?_
      refine lv_icmp_ge (tgt := 29) hx hb dX11_allSeen_9 (by decide) (fun c_9 => ?_) (fun c_9 => ?_)
      · skip
        have c_9 : nS ≤ k := (nI_leI (a := nS) (b := k) (by omega) (by omega)).mp c_9
        refine lv_iload_n hx hb dX11_allSeen_29 rfl (lv_at hl 1 rfl) ?_
        exact q_iret C hM dX11_allSeen_30 (by exact ⟨⟨rfl, rfl, rfl⟩, (by rw [ht, show k = nS by omega])⟩)
      · skip
        have c_9 : ¬ (nS ≤ k) := fun z => c_9 ((nI_leI (a := nS) (b := k) (by omega) (by omega)).mpr z)
        refine lv_iload_n hx hb dX11_allSeen_12 rfl (lv_at hl 1 rfl) ?_
        refine lv_iconst (v := 1) hx hb dX11_allSeen_13 (by decide) ?_
        refine lv_aload_n hx hb dX11_allSeen_14 rfl (lv_at hl 2 rfl) ?_
        refine q_get (o := 188) (ci := 11) (k := 37) (T := TX11) (v := .ref (ad 207)) C hM (qmem_11 E ad S A b (show qk 188 = 11 from by decide +kernel)) (by decide) rfl hi11 (by decide) hL1 rfl rfl dX11_allSeen_15 ?_
        refine lv_iload_n hx hb dX11_allSeen_18 rfl (lv_at hl 0 rfl) ?_
        refine q_iald (v := A 207 k) C hM (show qk 207 = 12 from by decide +kernel) (by rw [(show ql 207 = 6 from by decide +kernel)]; exact vp_nI (by omega) (by omega)) (by rw [nIc (by omega)]) dX11_allSeen_19 ?_
        refine lv_ishl hx hb dX11_allSeen_20 ?_
        refine lv_ior hx hb dX11_allSeen_21 ?_
        refine lv_topi (fun x1_1 ex1_1 => ?_)
        refine lv_istore_n (lv' := [(1, .int x1_1), (2, .int (nI k)), (0, .ref (ad 188))]) hx hb dX11_allSeen_22 rfl hl (by decide) rfl (fun ls hl => ?_)
        refine lv_iinc (v := nI (k + 1)) (lv' := [(2, .int (nI (k + 1))), (1, .int x1_1), (0, .ref (ad 188))]) hx hb dX11_allSeen_23 hl (k := 1) rfl (by rw [nI_succ]; rfl) (by decide) rfl (fun ls hl => ?_)
        refine lv_goto (tgt := 4) hx hb dX11_allSeen_26 (by decide) ?_
        exact ih4 x1_1 (k + 1) (by omega) (by rw [ex1_1, ht]; rfl) (by omega) _ _ _ hM hl
  exact loop4 (nS - 0 + 1) 0 0 (by omega) rfl (Nat.lt_succ_self _) _ _ _ hM hl

set_option maxHeartbeats 4000000 in
set_option maxRecDepth 100000 in
theorem c_X11_sublets (E : qE) (ad : Nat → Nat) (l : Launch) (S A : qA2) (b : qB) (a1 : Int32) (nP : Nat) (hPo : S 188 4 = nI nP) (hPb : nP ≤ 6) (nS : Nat) (hS : S 188 36 = nI nS) (hSb : nS ≤ 6) (sp : Nat → Nat) (hsp : ∀ k, k < nS → A 208 k = nI (sp k) ∧ sp k < 6) : MI E ad l yX11_sublets wsX11_sublets { frames := 1, cells := 0, slots := 0, locals := 25 } [.ref (ad 188), .int a1] S A b (fun r S' A' b' => (S = S' ∧ A = A' ∧ b = b') ∧ r = (if a1 = 0 then msub (A 193) (fun p => qsat (A 207) sp p nS) nP else if a1 = 1 then mgst (A 193) (fun p => qsat (A 207) sp p nS) nP else (-1000000002))) := by
  refine MI.of (cc := cX11_sublets) (maxL := 7) (ret := some .int) RX11 rfl (by decide) rfl ?_
  intro pg e s m below meth cd C hM
  have hx := C.1
  have hb := C.2.1
  have hts := C.2.2.2.2.1
  have hA : ∀ q, s.heap.size ≤ q → qAr ad s.heap.size q := fun _ h => Or.inr h
  have hi11 : ∀ w ∈ u_ws RX11 TX11 45, w ∈ wsX11_sublets := by decide +kernel
  have hL0 := hts (.fieldLink RX11 97 "CrowFencesModel" "posts" "I") (by decide +kernel)
  have hL1 := hts (.fieldLink RX11 22 "CrowFencesModel" "now" "[I") (by decide +kernel)
  have hL2 := hts (.constant RX11 105 (-1000000002)) (by decide +kernel)
  have hl := lv_entry ([.ref (ad 188), .int a1]) (n := 7) (Nat.le_of_ble_eq_true rfl)
  rw [lg_entry_eq]
  generalize (lg_sl ([.ref (ad 188), .int a1]) ++ List.replicate (7 - (lg_sl ([.ref (ad 188), .int a1])).length) Slot.unset).toArray = ls at hl ⊢
  have hl : lv_has ls 7 [(0, .ref (ad 188)), (1, .int a1)] := hl
  refine lv_iload_n hx hb dX11_sublets_0 rfl (lv_at hl 1 rfl) ?_
  refine lv_i2l (v := (a1 : Int32).toInt64) hx hb dX11_sublets_1 rfl ?_
  refine lv_lconst (v := 0) hx hb dX11_sublets_2 rfl ?_
  refine lv_lconst (v := 1) hx hb dX11_sublets_3 rfl ?_
  refine q_callSI (n := 3) (As := [.long ((a1 : Int32).toInt64), .long 0, .long 1]) (rest := []) C hM hA (c_X11_in E ad l S A b ((a1 : Int32).toInt64) 0 1) gX11_sublets_X11_in rfl rfl rfl (by decide +kernel) ⟨Nat.le_of_ble_eq_true rfl, Nat.le_of_ble_eq_true rfl⟩ rfl hl.1 rfl (Nat.le_of_ble_eq_true rfl) ⟨Nat.zero_le _, Nat.zero_le _⟩ dX11_sublets_4 (fun r_1 S_2 A_3 b_4 H locs qr_1 hM => ?_)
  obtain ⟨⟨e1, e2, e3⟩, er_1⟩ := qr_1
  subst e1; subst e2; subst e3
  rw [q64 (x := a1) (lo := 0) (hi := 1) (by first | rfl | decide) (by first | rfl | decide)] at er_1
  rcases q01_cases (0 ≤ a1 ∧ a1 ≤ 1) with ⟨hzr_1, hir_1⟩ | ⟨hzr_1, hir_1⟩
  · skip
    rw [hzr_1] at er_1
    subst er_1
    obtain ⟨ka1, hloka1, hhika1, eka1⟩ := qin_of (l := 0) (h := 1) rfl rfl (by omega) (by omega) hir_1
    subst eka1
    refine lv_if_ne (tgt := 13) hx hb dX11_sublets_7 (by decide) (fun c_7 => ?_) (fun c_7 => ?_)
    · skip
      have c_7 : ¬ (1 = 0) := fun z => c_7 ((nI_eq (a := 1) (b := 0) (by omega) (by omega)).mpr z)
      refine lv_iconst (v := 0) hx hb dX11_sublets_13 (by decide) ?_
      refine lv_istore_n (lv' := [(2, .int 0), (0, .ref (ad 188)), (1, .int (nI ka1))]) hx hb dX11_sublets_14 rfl hl (by decide) rfl (fun ls hl => ?_)
      refine lv_iconst (v := 0) hx hb dX11_sublets_15 (by decide) ?_
      refine lv_istore_n (lv' := [(3, .int 0), (2, .int 0), (0, .ref (ad 188)), (1, .int (nI ka1))]) hx hb dX11_sublets_16 rfl hl (by decide) rfl (fun ls hl => ?_)
      refine lv_iconst (v := 0) hx hb dX11_sublets_17 (by decide) ?_
      refine lv_istore (lv' := [(4, .int 0), (3, .int 0), (2, .int 0), (0, .ref (ad 188)), (1, .int (nI ka1))]) hx hb dX11_sublets_18 hl (by decide) rfl (fun ls hl => ?_)
      have loop20 : ∀ (fu : Nat) (t : Int32) (g : Int32) (k : Nat) (hk : k ≤ nP) (ht : t = msub (A 193) (fun p => qsat (A 207) sp p nS) k) (hg : g = mgst (A 193) (fun p => qsat (A 207) sp p nS) k), nP - k < fu → ∀ (H : Heap) (locs : List Loc) (ls : Array Slot), qM E ad S A b (qAr ad s.heap.size) s H locs → lv_has ls 7 [(4, .int (nI k)), (3, .int g), (2, .int t), (0, .ref (ad 188)), (1, .int (nI ka1))] → W pg l e (headSpec wsX11_sublets { frames := 1, cells := 0, slots := 0, locals := 25 }).room s m ([.ref (ad 188), .int (nI ka1)] : List Value).toArray below meth cd H locs 0 0 (MQ below (qQi E ad s.heap.size (fun r S' A' b' => (S = S' ∧ A = A' ∧ b = b') ∧ r = (if (nI ka1) = 0 then msub (A 193) (fun p => qsat (A 207) sp p nS) nP else if (nI ka1) = 1 then mgst (A 193) (fun p => qsat (A 207) sp p nS) nP else (-1000000002)))) ([.ref (ad 188), .int (nI ka1)] : List Value).toArray s 0 0 (qAr ad s.heap.size)) (F0 m 20 ls []) := by
        intro fu
        induction fu with
        | zero => intro t g k hk ht hg hn; exact absurd hn (Nat.not_lt_zero _)
        | succ fu ih20 =>
          intro t g k hk ht hg hn H locs ls hM hl
          refine lv_iload hx hb dX11_sublets_20 (lv_at hl 0 rfl) ?_
          refine lv_aload_n hx hb dX11_sublets_22 rfl (lv_at hl 3 rfl) ?_
          refine q_get (o := 188) (ci := 11) (k := 4) (T := TX11) (v := .int (S 188 4)) C hM (qmem_11 E ad S A b (show qk 188 = 11 from by decide +kernel)) (by decide) rfl hi11 (by decide) hL0 rfl rfl dX11_sublets_23 ?_
          refine lv_as (y := nI nP) hPo ?_
          refine lv_icmp_ge (tgt := 98) hx hb dX11_sublets_26 (by decide) (fun c_26 => ?_) (fun c_26 => ?_)
          · skip
            have c_26 : nP ≤ k := (nI_leI (a := nP) (b := k) (by omega) (by omega)).mp c_26
            refine lv_iload_n hx hb dX11_sublets_98 rfl (lv_at hl 4 rfl) ?_
            refine lv_if_ne (tgt := 106) hx hb dX11_sublets_99 (by decide) (fun c_99 => ?_) (fun c_99 => ?_)
            · skip
              have c_99 : ¬ (ka1 = 0) := fun z => c_99 ((nI_eq (a := ka1) (b := 0) (by omega) (by omega)).mpr z)
              refine lv_iload_n hx hb dX11_sublets_106 rfl (lv_at hl 1 rfl) ?_
              exact q_iret C hM dX11_sublets_107 (by exact ⟨⟨rfl, rfl, rfl⟩, (by rw [if_neg (show ¬ nI ka1 = 0 from fun z => c_99 ((nI_eq (a := ka1) (b := 0) (by omega) (by omega)).mp z)), show ka1 = 1 by omega, if_pos (show nI 1 = 1 from rfl), hg, show k = nP by omega])⟩)
            · skip
              have c_99 : ka1 = 0 := (nI_eq (a := ka1) (b := 0) (by omega) (by omega)).mp c_99
              refine lv_iload_n hx hb dX11_sublets_102 rfl (lv_at hl 2 rfl) ?_
              refine lv_goto (tgt := 107) hx hb dX11_sublets_103 (by decide) ?_
              exact q_iret C hM dX11_sublets_107 (by exact ⟨⟨rfl, rfl, rfl⟩, (by rw [c_99, if_pos (show nI 0 = 0 from rfl), ht, show k = nP by omega])⟩)
          · skip
            have c_26 : ¬ (nP ≤ k) := fun z => c_26 ((nI_leI (a := nP) (b := k) (by omega) (by omega)).mpr z)
            refine lv_aload_n hx hb dX11_sublets_29 rfl (lv_at hl 3 rfl) ?_
            refine q_get (o := 188) (ci := 11) (k := 11) (T := TX11) (v := .ref (ad 193)) C hM (qmem_11 E ad S A b (show qk 188 = 11 from by decide +kernel)) (by decide) rfl hi11 (by decide) hL1 rfl rfl dX11_sublets_30 ?_
            refine lv_bipush (v := 18) hx hb dX11_sublets_33 (by decide) ?_
            refine lv_iload hx hb dX11_sublets_35 (lv_at hl 0 rfl) ?_
            refine lv_iadd hx hb dX11_sublets_37 ?_
            refine lv_as (y := nI (18 + k)) (nI_add _ _) ?_
            refine q_iald (v := A 193 (18 + k)) C hM (show qk 193 = 12 from by decide +kernel) (by rw [(show ql 193 = 37 from by decide +kernel)]; exact vp_nI (by omega) (by omega)) (by rw [nIc (by omega)]) dX11_sublets_38 ?_
            refine lv_istore (lv' := [(5, .int (A 193 (18 + k))), (4, .int (nI k)), (3, .int g), (2, .int t), (0, .ref (ad 188)), (1, .int (nI ka1))]) hx hb dX11_sublets_39 hl (by decide) rfl (fun ls hl => ?_)
            refine lv_aload_n hx hb dX11_sublets_41 rfl (lv_at hl 4 rfl) ?_
            refine lv_iload hx hb dX11_sublets_42 (lv_at hl 1 rfl) ?_
            refine q_callVI (n := 1) (o := 188) (As := [.int (nI k)]) (rest := []) C hM hA (c_X11_seenAt E ad l S A b k (by omega) nS hS (by omega) sp hsp) (qmem_11 E ad S A b (show qk 188 = 11 from by decide +kernel)) (by decide) rfl gX11_sublets_X11_seenAt rfl rfl rfl (by decide +kernel) ⟨Nat.le_of_ble_eq_true rfl, Nat.le_of_ble_eq_true rfl⟩ rfl hl.1 rfl (Nat.le_of_ble_eq_true rfl) ⟨Nat.zero_le _, Nat.zero_le _⟩ dX11_sublets_44 (fun r_5 S_6 A_7 b_8 H locs qr_5 hM => ?_)
            obtain ⟨⟨e1, e2, e3⟩, er_5⟩ := qr_5
            subst e1; subst e2; subst e3
            refine lv_istore (lv' := [(6, .int r_5), (5, .int (A 193 (18 + k))), (4, .int (nI k)), (3, .int g), (2, .int t), (0, .ref (ad 188)), (1, .int (nI ka1))]) hx hb dX11_sublets_47 hl (by decide) rfl (fun ls hl => ?_)
            refine lv_iload hx hb dX11_sublets_49 (lv_at hl 1 rfl) ?_
            refine lv_if_lt (tgt := 92) hx hb dX11_sublets_51 (by decide) (fun c_51 => ?_) (fun c_51 => ?_)
            · skip
              refine lv_iinc (v := nI (k + 1)) (lv' := [(4, .int (nI (k + 1))), (6, .int r_5), (5, .int (A 193 (18 + k))), (3, .int g), (2, .int t), (0, .ref (ad 188)), (1, .int (nI ka1))]) hx hb dX11_sublets_92 hl (k := 2) rfl (by rw [nI_succ]; rfl) (by decide) rfl (fun ls hl => ?_)
              refine lv_goto (tgt := 20) hx hb dX11_sublets_95 (by decide) ?_
              exact ih20 t g (k + 1) (by omega) (by rw [ht]; simp only [msub, qor]; rw [if_pos c_51, i32_or0]) (by rw [hg]; simp only [mgst, qor]; rw [if_pos c_51, i32_or0]) (by omega) _ _ _ hM (lv_sub hl [0, 3, 4, 5, 6] rfl)
            · skip
              refine lv_iload_n hx hb dX11_sublets_54 rfl (lv_at hl 4 rfl) ?_
              refine lv_iload hx hb dX11_sublets_55 (lv_at hl 0 rfl) ?_
              refine lv_if_eq (tgt := 77) hx hb dX11_sublets_57 (by decide) (fun c_57 => ?_) (fun c_57 => ?_)
              · skip
                refine lv_iconst (v := 0) hx hb dX11_sublets_77 (by decide) ?_
                refine lv_ior hx hb dX11_sublets_78 ?_
                refine lv_topi (fun x2_9 ex2_9 => ?_)
                refine lv_istore_n (lv' := [(2, .int x2_9), (6, .int r_5), (5, .int (A 193 (18 + k))), (4, .int (nI k)), (3, .int g), (0, .ref (ad 188)), (1, .int (nI ka1))]) hx hb dX11_sublets_79 rfl hl (by decide) rfl (fun ls hl => ?_)
                refine lv_iload_n hx hb dX11_sublets_80 rfl (lv_at hl 4 rfl) ?_
                refine lv_iload hx hb dX11_sublets_81 (lv_at hl 1 rfl) ?_
                refine lv_iconst (v := 1) hx hb dX11_sublets_83 (by decide) ?_
                refine lv_iload hx hb dX11_sublets_84 (lv_at hl 2 rfl) ?_
                refine lv_ishl hx hb dX11_sublets_86 ?_
                refine lv_iconst (v := (-1)) hx hb dX11_sublets_87 (by decide) ?_
                refine lv_ixor hx hb dX11_sublets_88 ?_
                refine lv_iand hx hb dX11_sublets_89 ?_
                refine lv_ior hx hb dX11_sublets_90 ?_
                refine lv_topi (fun x3_10 ex3_10 => ?_)
                refine lv_istore_n (lv' := [(3, .int x3_10), (2, .int x2_9), (6, .int r_5), (5, .int (A 193 (18 + k))), (4, .int (nI k)), (0, .ref (ad 188)), (1, .int (nI ka1))]) hx hb dX11_sublets_91 rfl hl (by decide) rfl (fun ls hl => ?_)
                refine lv_iinc (v := nI (k + 1)) (lv' := [(4, .int (nI (k + 1))), (3, .int x3_10), (2, .int x2_9), (6, .int r_5), (5, .int (A 193 (18 + k))), (0, .ref (ad 188)), (1, .int (nI ka1))]) hx hb dX11_sublets_92 hl (k := 4) rfl (by rw [nI_succ]; rfl) (by decide) rfl (fun ls hl => ?_)
                refine lv_goto (tgt := 20) hx hb dX11_sublets_95 (by decide) ?_
                exact ih20 x2_9 x3_10 (k + 1) (by omega) (by rw [ex2_9, ht]; simp only [msub, qor]; rw [if_neg c_51, if_pos (er_5.symm.trans c_57)]) (by rw [ex3_10, hg, er_5]; simp only [mgst, qor]; rw [if_neg c_51]; rfl) (by omega) _ _ _ hM (lv_sub hl [0, 1, 2, 5, 6] rfl)
              · skip
                refine lv_iload hx hb dX11_sublets_60 (lv_at hl 0 rfl) ?_
                refine lv_iload hx hb dX11_sublets_62 (lv_at hl 1 rfl) ?_
                refine q_callSI (n := 2) (As := [.int r_5, .int (A 193 (18 + k))]) (rest := [.int t]) C hM hA (c_X11_has E ad l S A b r_5 (A 193 (18 + k))) gX11_sublets_X11_has rfl rfl rfl (by decide +kernel) ⟨Nat.le_of_ble_eq_true rfl, Nat.le_of_ble_eq_true rfl⟩ rfl hl.1 rfl (Nat.le_of_ble_eq_true rfl) ⟨Nat.zero_le _, Nat.zero_le _⟩ dX11_sublets_64 (fun r_11 S_12 A_13 b_14 H locs qr_11 hM => ?_)
                obtain ⟨⟨e1, e2, e3⟩, er_11⟩ := qr_11
                subst e1; subst e2; subst e3
                refine lv_if_ne (tgt := 77) hx hb dX11_sublets_67 (by decide) (fun c_67 => ?_) (fun c_67 => ?_)
                · skip
                  refine lv_iconst (v := 0) hx hb dX11_sublets_77 (by decide) ?_
                  refine lv_ior hx hb dX11_sublets_78 ?_
                  refine lv_topi (fun x2_15 ex2_15 => ?_)
                  refine lv_istore_n (lv' := [(2, .int x2_15), (6, .int r_5), (5, .int (A 193 (18 + k))), (4, .int (nI k)), (3, .int g), (0, .ref (ad 188)), (1, .int (nI ka1))]) hx hb dX11_sublets_79 rfl hl (by decide) rfl (fun ls hl => ?_)
                  refine lv_iload_n hx hb dX11_sublets_80 rfl (lv_at hl 4 rfl) ?_
                  refine lv_iload hx hb dX11_sublets_81 (lv_at hl 1 rfl) ?_
                  refine lv_iconst (v := 1) hx hb dX11_sublets_83 (by decide) ?_
                  refine lv_iload hx hb dX11_sublets_84 (lv_at hl 2 rfl) ?_
                  refine lv_ishl hx hb dX11_sublets_86 ?_
                  refine lv_iconst (v := (-1)) hx hb dX11_sublets_87 (by decide) ?_
                  refine lv_ixor hx hb dX11_sublets_88 ?_
                  refine lv_iand hx hb dX11_sublets_89 ?_
                  refine lv_ior hx hb dX11_sublets_90 ?_
                  refine lv_topi (fun x3_16 ex3_16 => ?_)
                  refine lv_istore_n (lv' := [(3, .int x3_16), (2, .int x2_15), (6, .int r_5), (5, .int (A 193 (18 + k))), (4, .int (nI k)), (0, .ref (ad 188)), (1, .int (nI ka1))]) hx hb dX11_sublets_91 rfl hl (by decide) rfl (fun ls hl => ?_)
                  refine lv_iinc (v := nI (k + 1)) (lv' := [(4, .int (nI (k + 1))), (3, .int x3_16), (2, .int x2_15), (6, .int r_5), (5, .int (A 193 (18 + k))), (0, .ref (ad 188)), (1, .int (nI ka1))]) hx hb dX11_sublets_92 hl (k := 4) rfl (by rw [nI_succ]; rfl) (by decide) rfl (fun ls hl => ?_)
                  refine lv_goto (tgt := 20) hx hb dX11_sublets_95 (by decide) ?_
                  exact ih20 x2_15 x3_16 (k + 1) (by omega) (by rw [er_11, er_5] at c_67; rw [ex2_15, ht]; simp only [msub, qor]; rw [if_neg c_51, if_neg (fun z => c_57 (er_5.trans z)), if_neg (q01_ne0.mp c_67)]) (by rw [ex3_16, hg, er_5]; simp only [mgst, qor]; rw [if_neg c_51]; rfl) (by omega) _ _ _ hM (lv_sub hl [0, 1, 2, 5, 6] rfl)
                · skip
                  refine lv_iconst (v := 1) hx hb dX11_sublets_70 (by decide) ?_
                  refine lv_iload hx hb dX11_sublets_71 (lv_at hl 1 rfl) ?_
                  refine lv_ishl hx hb dX11_sublets_73 ?_
                  refine lv_goto (tgt := 78) hx hb dX11_sublets_74 (by decide) ?_
                  refine lv_ior hx hb dX11_sublets_78 ?_
                  refine lv_topi (fun x2_17 ex2_17 => ?_)
                  refine lv_istore_n (lv' := [(2, .int x2_17), (6, .int r_5), (5, .int (A 193 (18 + k))), (4, .int (nI k)), (3, .int g), (0, .ref (ad 188)), (1, .int (nI ka1))]) hx hb dX11_sublets_79 rfl hl (by decide) rfl (fun ls hl => ?_)
                  refine lv_iload_n hx hb dX11_sublets_80 rfl (lv_at hl 4 rfl) ?_
                  refine lv_iload hx hb dX11_sublets_81 (lv_at hl 1 rfl) ?_
                  refine lv_iconst (v := 1) hx hb dX11_sublets_83 (by decide) ?_
                  refine lv_iload hx hb dX11_sublets_84 (lv_at hl 2 rfl) ?_
                  refine lv_ishl hx hb dX11_sublets_86 ?_
                  refine lv_iconst (v := (-1)) hx hb dX11_sublets_87 (by decide) ?_
                  refine lv_ixor hx hb dX11_sublets_88 ?_
                  refine lv_iand hx hb dX11_sublets_89 ?_
                  refine lv_ior hx hb dX11_sublets_90 ?_
                  refine lv_topi (fun x3_18 ex3_18 => ?_)
                  refine lv_istore_n (lv' := [(3, .int x3_18), (2, .int x2_17), (6, .int r_5), (5, .int (A 193 (18 + k))), (4, .int (nI k)), (0, .ref (ad 188)), (1, .int (nI ka1))]) hx hb dX11_sublets_91 rfl hl (by decide) rfl (fun ls hl => ?_)
                  refine lv_iinc (v := nI (k + 1)) (lv' := [(4, .int (nI (k + 1))), (3, .int x3_18), (2, .int x2_17), (6, .int r_5), (5, .int (A 193 (18 + k))), (0, .ref (ad 188)), (1, .int (nI ka1))]) hx hb dX11_sublets_92 hl (k := 4) rfl (by rw [nI_succ]; rfl) (by decide) rfl (fun ls hl => ?_)
                  refine lv_goto (tgt := 20) hx hb dX11_sublets_95 (by decide) ?_
                  exact ih20 x2_17 x3_18 (k + 1) (by omega) (by rw [er_11, er_5] at c_67; rw [ex2_17, ht]; simp only [msub, qor]; rw [if_neg c_51, if_neg (fun z => c_57 (er_5.trans z)), if_pos (Classical.not_not.mp (q01_eq0.mp c_67))]; rfl) (by rw [ex3_18, hg, er_5]; simp only [mgst, qor]; rw [if_neg c_51]; rfl) (by omega) _ _ _ hM (lv_sub hl [0, 1, 2, 5, 6] rfl)
      exact loop20 (nP - 0 + 1) 0 0 0 (by omega) rfl rfl (Nat.lt_succ_self _) _ _ _ hM hl
    · skip
      have c_7 : 1 = 0 := (nI_eq (a := 1) (b := 0) (by omega) (by omega)).mp c_7
      exact absurd c_7 (by decide)
  · skip
    rw [hzr_1] at er_1
    subst er_1
    refine lv_if_ne (tgt := 13) hx hb dX11_sublets_7 (by decide) (fun c_7 => ?_) (fun c_7 => ?_)
    · skip
      have c_7 : ¬ (0 = 0) := fun z => c_7 ((nI_eq (a := 0) (b := 0) (by omega) (by omega)).mpr z)
      exact absurd rfl c_7
    · skip
      have c_7 : 0 = 0 := (nI_eq (a := 0) (b := 0) (by omega) (by omega)).mp c_7
      refine lv_ldc (v := (-1000000002)) hx hb C.2.2.2.1 hL2 dX11_sublets_10 ?_
      exact q_iret C hM dX11_sublets_12 (by exact ⟨⟨rfl, rfl, rfl⟩, (by rw [if_neg (fun z => hir_1 (by rw [z]; decide)), if_neg (fun z => hir_1 (by rw [z]; decide))])⟩)

set_option maxHeartbeats 4000000 in
set_option maxRecDepth 100000 in
theorem c_X11_waysToLet (E : qE) (ad : Nat → Nat) (l : Launch) (S A : qA2) (b : qB) (nP : Nat) (hPo : S 188 4 = nI nP) (hPb : nP ≤ 6) : MI E ad l yX11_waysToLet wsX11_waysToLet { frames := 0, cells := 0, slots := 0, locals := 0 } [.ref (ad 188)] S A b (fun r S' A' b' => (S = S' ∧ A = A' ∧ b = b') ∧ r = nI (6 ^ nP)) := by
  refine MI.of (cc := cX11_waysToLet) (maxL := 3) (ret := some .int) RX11 rfl (by decide) rfl ?_
  intro pg e s m below meth cd C hM
  have hx := C.1
  have hb := C.2.1
  have hts := C.2.2.2.2.1
  have hA : ∀ q, s.heap.size ≤ q → qAr ad s.heap.size q := fun _ h => Or.inr h
  have hi11 : ∀ w ∈ u_ws RX11 TX11 45, w ∈ wsX11_waysToLet := by decide +kernel
  have hL0 := hts (.fieldLink RX11 97 "CrowFencesModel" "posts" "I") (by decide +kernel)
  have hl := lv_entry ([.ref (ad 188)]) (n := 3) (Nat.le_of_ble_eq_true rfl)
  rw [lg_entry_eq]
  generalize (lg_sl ([.ref (ad 188)]) ++ List.replicate (3 - (lg_sl ([.ref (ad 188)])).length) Slot.unset).toArray = ls at hl ⊢
  have hl : lv_has ls 3 [(0, .ref (ad 188))] := hl
  refine lv_iconst (v := 1) hx hb dX11_waysToLet_0 (by decide) ?_
  refine lv_istore_n (lv' := [(1, .int 1), (0, .ref (ad 188))]) hx hb dX11_waysToLet_1 rfl hl (by decide) rfl (fun ls hl => ?_)
  refine lv_iconst (v := 0) hx hb dX11_waysToLet_2 (by decide) ?_
  refine lv_istore_n (lv' := [(2, .int 0), (1, .int 1), (0, .ref (ad 188))]) hx hb dX11_waysToLet_3 rfl hl (by decide) rfl (fun ls hl => ?_)
  have loop4 : ∀ (fu : Nat) (t : Int32) (k : Nat) (hk : k ≤ nP) (ht : t = nI (6 ^ k)), nP - k < fu → ∀ (H : Heap) (locs : List Loc) (ls : Array Slot), qM E ad S A b (qAr ad s.heap.size) s H locs → lv_has ls 3 [(2, .int (nI k)), (1, .int t), (0, .ref (ad 188))] → W pg l e (headSpec wsX11_waysToLet { frames := 0, cells := 0, slots := 0, locals := 0 }).room s m ([.ref (ad 188)] : List Value).toArray below meth cd H locs 0 0 (MQ below (qQi E ad s.heap.size (fun r S' A' b' => (S = S' ∧ A = A' ∧ b = b') ∧ r = nI (6 ^ nP))) ([.ref (ad 188)] : List Value).toArray s 0 0 (qAr ad s.heap.size)) (F0 m 4 ls []) := by
    intro fu
    induction fu with
    | zero => intro t k hk ht hn; exact absurd hn (Nat.not_lt_zero _)
    | succ fu ih4 =>
      intro t k hk ht hn H locs ls hM hl
      refine lv_iload_n hx hb dX11_waysToLet_4 rfl (lv_at hl 0 rfl) ?_
      refine lv_aload_n hx hb dX11_waysToLet_5 rfl (lv_at hl 2 rfl) ?_
      refine q_get (o := 188) (ci := 11) (k := 4) (T := TX11) (v := .int (S 188 4)) C hM (qmem_11 E ad S A b (show qk 188 = 11 from by decide +kernel)) (by decide) rfl hi11 (by decide) hL0 rfl rfl dX11_waysToLet_6 ?_
      refine lv_as (y := nI nP) hPo ?_
      refine lv_icmp_ge (tgt := 23) hx hb dX11_waysToLet_9 (by decide) (fun c_9 => ?_) (fun c_9 => ?_)
      · skip
        have c_9 : nP ≤ k := (nI_leI (a := nP) (b := k) (by omega) (by omega)).mp c_9
        refine lv_iload_n hx hb dX11_waysToLet_23 rfl (lv_at hl 1 rfl) ?_
        exact q_iret C hM dX11_waysToLet_24 (by exact ⟨⟨rfl, rfl, rfl⟩, (by rw [ht, show k = nP by omega])⟩)
      · skip
        have c_9 : ¬ (nP ≤ k) := fun z => c_9 ((nI_leI (a := nP) (b := k) (by omega) (by omega)).mpr z)
        refine lv_iload_n hx hb dX11_waysToLet_12 rfl (lv_at hl 1 rfl) ?_
        refine lv_bipush (v := 6) hx hb dX11_waysToLet_13 (by decide) ?_
        refine lv_imul hx hb dX11_waysToLet_15 ?_
        refine lv_topi (fun x1_1 ex1_1 => ?_)
        refine lv_istore_n (lv' := [(1, .int x1_1), (2, .int (nI k)), (0, .ref (ad 188))]) hx hb dX11_waysToLet_16 rfl hl (by decide) rfl (fun ls hl => ?_)
        refine lv_iinc (v := nI (k + 1)) (lv' := [(2, .int (nI (k + 1))), (1, .int x1_1), (0, .ref (ad 188))]) hx hb dX11_waysToLet_17 hl (k := 1) rfl (by rw [nI_succ]; rfl) (by decide) rfl (fun ls hl => ?_)
        refine lv_goto (tgt := 4) hx hb dX11_waysToLet_20 (by decide) ?_
        exact ih4 x1_1 (k + 1) (by omega) (by rw [ex1_1, ht, Nat.pow_succ]; exact pk_mul _ _) (by omega) _ _ _ hM hl
  exact loop4 (nP - 0 + 1) 1 0 (by omega) rfl (Nat.lt_succ_self _) _ _ _ hM hl

set_option maxHeartbeats 4000000 in
set_option maxRecDepth 100000 in
theorem c_X11_takeGiven (E : qE) (ad : Nat → Nat) (l : Launch) (S A : qA2) (b : qB) (mc : Nat) (hmc : mc < 50000) (nP : Nat) (hPo : S 188 4 = nI nP) (hPb : nP ≤ 6) (nK : Nat) (hK : S 188 6 = nI nK) (hKb : nK ≤ 5) : MI E ad l yX11_takeGiven wsX11_takeGiven { frames := 1, cells := 0, slots := 0, locals := 21 } [.ref (ad 188), .int (nI mc)] S A b (fun r S' A' b' => (S = S' ∧ b = b') ∧ ((r = 1 ∧ mG nP nK mc 0) ∨ (r = 0 ∧ ¬ mG nP nK mc 0)) ∧ (∀ q, q < nP → A' 205 q = mway nP mc q) ∧ ∀ i, i ≠ 205 → A' i = A i) := by
  refine MI.of (cc := cX11_takeGiven) (maxL := 7) (ret := some .boolean) RX11 rfl (by decide) rfl ?_
  intro pg e s m below meth cd C hM
  have hx := C.1
  have hb := C.2.1
  have hts := C.2.2.2.2.1
  have hA : ∀ q, s.heap.size ≤ q → qAr ad s.heap.size q := fun _ h => Or.inr h
  have hi11 : ∀ w ∈ u_ws RX11 TX11 45, w ∈ wsX11_takeGiven := by decide +kernel
  have hL0 := hts (.fieldLink RX11 97 "CrowFencesModel" "posts" "I") (by decide +kernel)
  have hL1 := hts (.fieldLink RX11 63 "CrowFencesModel" "given" "[I") (by decide +kernel)
  have hL2 := hts (.fieldLink RX11 100 "CrowFencesModel" "crows" "I") (by decide +kernel)
  have hl := lv_entry ([.ref (ad 188), .int (nI mc)]) (n := 7) (Nat.le_of_ble_eq_true rfl)
  rw [lg_entry_eq]
  generalize (lg_sl ([.ref (ad 188), .int (nI mc)]) ++ List.replicate (7 - (lg_sl ([.ref (ad 188), .int (nI mc)])).length) Slot.unset).toArray = ls at hl ⊢
  have hl : lv_has ls 7 [(0, .ref (ad 188)), (1, .int (nI mc))] := hl
  refine lv_iload_n hx hb dX11_takeGiven_0 rfl (lv_at hl 1 rfl) ?_
  refine lv_istore_n (lv' := [(2, .int (nI mc)), (0, .ref (ad 188)), (1, .int (nI mc))]) hx hb dX11_takeGiven_1 rfl hl (by decide) rfl (fun ls hl => ?_)
  refine lv_iconst (v := 0) hx hb dX11_takeGiven_2 (by decide) ?_
  refine lv_istore_n (lv' := [(3, .int 0), (2, .int (nI mc)), (0, .ref (ad 188)), (1, .int (nI mc))]) hx hb dX11_takeGiven_3 rfl hl (by decide) rfl (fun ls hl => ?_)
  refine lv_iconst (v := 1) hx hb dX11_takeGiven_4 (by decide) ?_
  refine lv_istore (lv' := [(4, .int 1), (3, .int 0), (2, .int (nI mc)), (0, .ref (ad 188)), (1, .int (nI mc))]) hx hb dX11_takeGiven_5 hl (by decide) rfl (fun ls hl => ?_)
  refine lv_aload_n hx hb dX11_takeGiven_7 rfl (lv_at hl 3 rfl) ?_
  refine q_get (o := 188) (ci := 11) (k := 4) (T := TX11) (v := .int (S 188 4)) C hM (qmem_11 E ad S A b (show qk 188 = 11 from by decide +kernel)) (by decide) rfl hi11 (by decide) hL0 rfl rfl dX11_takeGiven_8 ?_
  refine lv_as (y := nI nP) hPo ?_
  refine lv_iconst (v := 1) hx hb dX11_takeGiven_11 (by decide) ?_
  refine lv_isub hx hb dX11_takeGiven_12 ?_
  refine lv_istore (lv' := [(5, .int ((nI nP) - 1)), (4, .int 1), (3, .int 0), (2, .int (nI mc)), (0, .ref (ad 188)), (1, .int (nI mc))]) hx hb dX11_takeGiven_13 hl (by decide) rfl (fun ls hl => ?_)
  have loop15 : ∀ (fu : Nat) (lf : Nat) (tk : Int32) (gd : Int32) (j : Nat) (A15 : qA2) (hj : j ≤ nP) (hlf : lf = mc / 6 ^ (nP - j)) (hlb : lf ≤ mc) (hT : mT nP mc j tk) (hg : (gd = 1 ∧ mG nP nK mc j) ∨ (gd = 0 ∧ ¬ mG nP nK mc j)) (hr : ∀ q, j ≤ q → q < nP → A15 205 q = mway nP mc q) (hf : ∀ i, i ≠ 205 → A15 i = A i), j < fu → ∀ (H : Heap) (locs : List Loc) (ls : Array Slot), qM E ad S A15 b (qAr ad s.heap.size) s H locs → lv_has ls 7 [(5, .int (nI j - 1)), (4, .int gd), (3, .int tk), (2, .int (nI lf)), (0, .ref (ad 188))] → W pg l e (headSpec wsX11_takeGiven { frames := 1, cells := 0, slots := 0, locals := 21 }).room s m ([.ref (ad 188), .int (nI mc)] : List Value).toArray below meth cd H locs 0 0 (MQ below (qQi E ad s.heap.size (fun r S' A' b' => (S = S' ∧ b = b') ∧ ((r = 1 ∧ mG nP nK mc 0) ∨ (r = 0 ∧ ¬ mG nP nK mc 0)) ∧ (∀ q, q < nP → A' 205 q = mway nP mc q) ∧ ∀ i, i ≠ 205 → A' i = A i)) ([.ref (ad 188), .int (nI mc)] : List Value).toArray s 0 0 (qAr ad s.heap.size)) (F0 m 15 ls []) := by
    intro fu
    induction fu with
    | zero => intro lf tk gd j A15 hj hlf hlb hT hg hr hf hn; exact absurd hn (Nat.not_lt_zero _)
    | succ fu ih15 =>
      intro lf tk gd j A15 hj hlf hlb hT hg hr hf hn H locs ls hM hl
      refine lv_iload hx hb dX11_takeGiven_15 (lv_at hl 0 rfl) ?_
      refine lv_if_lt (tgt := 99) hx hb dX11_takeGiven_17 (by decide) (fun c_17 => ?_) (fun c_17 => ?_)
      · skip
        have c_17 : j = 0 := (nI_m1_lt (by omega)).mp c_17
        refine lv_iload hx hb dX11_takeGiven_99 (lv_at hl 1 rfl) ?_
        exact q_zret C hM dX11_takeGiven_101 (nar01 (hg.elim (fun z => Or.inr z.1) (fun z => Or.inl z.1))) (by exact ⟨⟨rfl, rfl⟩, by rw [show (0 : Nat) = j from c_17.symm]; exact hg, fun q hq => hr q (by omega) hq, hf⟩)
      · skip
        have c_17 : ¬ j = 0 := fun z => c_17 ((nI_m1_lt (by omega)).mpr z)
        rw [nI_m1 c_17] at hl
        refine lv_iload_n hx hb dX11_takeGiven_20 rfl (lv_at hl 3 rfl) ?_
        refine lv_bipush (v := 6) hx hb dX11_takeGiven_21 (by decide) ?_
        refine lv_irem hx hb dX11_takeGiven_23 (by decide) ?_
        have hd6 : lf % 6 = mdg nP mc (j - 1) := mdg_at c_17 hj hlf
        have hd7 := mdg_lt nP mc (j - 1)
        refine lv_as (y := nI (lf % 6)) (pk_rem (a := lf) (d := 6) (by omega) (by decide) (by decide)) ?_
        refine lv_istore (lv' := [(6, .int (nI (lf % 6))), (5, .int (nI (j - 1))), (4, .int gd), (3, .int tk), (2, .int (nI lf)), (0, .ref (ad 188))]) hx hb dX11_takeGiven_24 hl (by decide) rfl (fun ls hl => ?_)
        refine lv_iload_n hx hb dX11_takeGiven_26 rfl (lv_at hl 4 rfl) ?_
        refine lv_bipush (v := 6) hx hb dX11_takeGiven_27 (by decide) ?_
        refine lv_idiv hx hb dX11_takeGiven_29 (by decide) ?_
        refine lv_as (y := nI (lf / 6)) (pk_div (a := lf) (d := 6) (by omega) (by decide) (by decide)) ?_
        refine lv_istore_n (lv' := [(2, .int (nI (lf / 6))), (6, .int (nI (lf % 6))), (5, .int (nI (j - 1))), (4, .int gd), (3, .int tk), (0, .ref (ad 188))]) hx hb dX11_takeGiven_30 rfl hl (by decide) rfl (fun ls hl => ?_)
        refine lv_aload_n hx hb dX11_takeGiven_31 rfl (lv_at hl 5 rfl) ?_
        refine q_get (o := 188) (ci := 11) (k := 34) (T := TX11) (v := .ref (ad 205)) C hM (qmem_11 E ad S A15 b (show qk 188 = 11 from by decide +kernel)) (by decide) rfl hi11 (by decide) hL1 rfl rfl dX11_takeGiven_32 ?_
        refine lv_iload hx hb dX11_takeGiven_35 (lv_at hl 2 rfl) ?_
        refine lv_iload hx hb dX11_takeGiven_37 (lv_at hl 1 rfl) ?_
        refine lv_iconst (v := 5) hx hb dX11_takeGiven_39 (by decide) ?_
        refine lv_icmp_ne (tgt := 47) hx hb dX11_takeGiven_40 (by decide) (fun c_40 => ?_) (fun c_40 => ?_)
        · skip
          have c_40 : ¬ (lf % 6 = 5) := fun z => c_40 ((nI_eq (a := lf % 6) (b := 5) (by omega) (by omega)).mpr z)
          refine lv_iload hx hb dX11_takeGiven_47 (lv_at hl 1 rfl) ?_
          refine q_iast C hM (show qk 205 = 12 from by decide +kernel) (by rw [(show ql 205 = 6 from by decide +kernel)]; exact vp_nI (by omega) (by omega)) dX11_takeGiven_49 (fun H locs hM => ?_)
          rw [nIc (by omega)] at hM
          obtain ⟨A_1, eA_1⟩ : ∃ zz, zz = q2 A15 205 (j - 1) (nI (lf % 6)) := ⟨_, rfl⟩
          rw [← eA_1] at hM
          refine lv_iload hx hb dX11_takeGiven_50 (lv_at hl 3 rfl) ?_
          refine lv_if_eq (tgt := 83) hx hb dX11_takeGiven_52 (by decide) (fun c_52 => ?_) (fun c_52 => ?_)
          · skip
            refine lv_iconst (v := 0) hx hb dX11_takeGiven_83 (by decide) ?_
            refine lv_istore (lv' := [(4, .int 0), (2, .int (nI (lf / 6))), (6, .int (nI (lf % 6))), (5, .int (nI (j - 1))), (3, .int tk), (0, .ref (ad 188))]) hx hb dX11_takeGiven_84 hl (by decide) rfl (fun ls hl => ?_)
            refine lv_iload_n hx hb dX11_takeGiven_86 rfl (lv_at hl 4 rfl) ?_
            refine lv_iconst (v := 1) hx hb dX11_takeGiven_87 (by decide) ?_
            refine lv_iload hx hb dX11_takeGiven_88 (lv_at hl 2 rfl) ?_
            refine lv_ishl hx hb dX11_takeGiven_90 ?_
            refine lv_ior hx hb dX11_takeGiven_91 ?_
            refine lv_topi (fun x3_2 ex3_2 => ?_)
            refine lv_istore_n (lv' := [(3, .int x3_2), (4, .int 0), (2, .int (nI (lf / 6))), (6, .int (nI (lf % 6))), (5, .int (nI (j - 1))), (0, .ref (ad 188))]) hx hb dX11_takeGiven_92 rfl hl (by decide) rfl (fun ls hl => ?_)
            refine lv_iinc (v := nI (j - 1) - 1) (lv' := [(5, .int (nI (j - 1) - 1)), (3, .int x3_2), (4, .int 0), (2, .int (nI (lf / 6))), (6, .int (nI (lf % 6))), (0, .ref (ad 188))]) hx hb dX11_takeGiven_93 hl (k := 4) rfl (by rw [Int32.sub_eq_add_neg]; rfl) (by decide) rfl (fun ls hl => ?_)
            refine lv_goto (tgt := 15) hx hb dX11_takeGiven_96 (by decide) ?_
            exact ih15 (lf / 6) x3_2 0 (j - 1) A_1 (by omega) (mdg_next c_17 hj hlf) (Nat.le_trans (Nat.div_le_self _ _) hlb) (by rw [ex3_2, hd6]; exact mT_step c_17 hj hT) (Or.inr ⟨rfl, fun z => (hg.elim (fun q => absurd (q.1.symm.trans c_52) (by decide)) (fun q => q.2)) ((mG_step c_17 hj).mp z).1⟩) (fun q h1 h2 => by rw [eA_1, q2_row]; by_cases hz : q = j - 1; (subst hz; rw [upd_s]; unfold mway mdv; rw [if_neg (by omega), hd6]); (rw [upd_o _ _ hz]; exact hr q (by omega) h2)) (by rw [eA_1]; exact qfr_up hf) (by omega) _ _ _ hM (lv_sub hl [0, 2, 1, 3, 5] rfl)
          · skip
            refine lv_iload hx hb dX11_takeGiven_55 (lv_at hl 1 rfl) ?_
            refine lv_iconst (v := 5) hx hb dX11_takeGiven_57 (by decide) ?_
            refine lv_icmp_eq (tgt := 79) hx hb dX11_takeGiven_58 (by decide) (fun c_58 => ?_) (fun c_58 => ?_)
            · skip
              have c_58 : lf % 6 = 5 := (nI_eq (a := lf % 6) (b := 5) (by omega) (by omega)).mp c_58
              omega
            · skip
              have c_58 : ¬ (lf % 6 = 5) := fun z => c_58 ((nI_eq (a := lf % 6) (b := 5) (by omega) (by omega)).mpr z)
              refine lv_iload hx hb dX11_takeGiven_61 (lv_at hl 1 rfl) ?_
              refine lv_aload_n hx hb dX11_takeGiven_63 rfl (lv_at hl 5 rfl) ?_
              refine q_get (o := 188) (ci := 11) (k := 6) (T := TX11) (v := .int (S 188 6)) C hM (qmem_11 E ad S A_1 b (show qk 188 = 11 from by decide +kernel)) (by decide) rfl hi11 (by decide) hL2 rfl rfl dX11_takeGiven_64 ?_
              refine lv_as (y := nI nK) hK ?_
              refine lv_icmp_ge (tgt := 83) hx hb dX11_takeGiven_67 (by decide) (fun c_67 => ?_) (fun c_67 => ?_)
              · skip
                have c_67 : nK ≤ lf % 6 := (nI_leI (a := nK) (b := lf % 6) (by omega) (by omega)).mp c_67
                refine lv_iconst (v := 0) hx hb dX11_takeGiven_83 (by decide) ?_
                refine lv_istore (lv' := [(4, .int 0), (2, .int (nI (lf / 6))), (6, .int (nI (lf % 6))), (5, .int (nI (j - 1))), (3, .int tk), (0, .ref (ad 188))]) hx hb dX11_takeGiven_84 hl (by decide) rfl (fun ls hl => ?_)
                refine lv_iload_n hx hb dX11_takeGiven_86 rfl (lv_at hl 4 rfl) ?_
                refine lv_iconst (v := 1) hx hb dX11_takeGiven_87 (by decide) ?_
                refine lv_iload hx hb dX11_takeGiven_88 (lv_at hl 2 rfl) ?_
                refine lv_ishl hx hb dX11_takeGiven_90 ?_
                refine lv_ior hx hb dX11_takeGiven_91 ?_
                refine lv_topi (fun x3_3 ex3_3 => ?_)
                refine lv_istore_n (lv' := [(3, .int x3_3), (4, .int 0), (2, .int (nI (lf / 6))), (6, .int (nI (lf % 6))), (5, .int (nI (j - 1))), (0, .ref (ad 188))]) hx hb dX11_takeGiven_92 rfl hl (by decide) rfl (fun ls hl => ?_)
                refine lv_iinc (v := nI (j - 1) - 1) (lv' := [(5, .int (nI (j - 1) - 1)), (3, .int x3_3), (4, .int 0), (2, .int (nI (lf / 6))), (6, .int (nI (lf % 6))), (0, .ref (ad 188))]) hx hb dX11_takeGiven_93 hl (k := 4) rfl (by rw [Int32.sub_eq_add_neg]; rfl) (by decide) rfl (fun ls hl => ?_)
                refine lv_goto (tgt := 15) hx hb dX11_takeGiven_96 (by decide) ?_
                exact ih15 (lf / 6) x3_3 0 (j - 1) A_1 (by omega) (mdg_next c_17 hj hlf) (Nat.le_trans (Nat.div_le_self _ _) hlb) (by rw [ex3_3, hd6]; exact mT_step c_17 hj hT) (Or.inr ⟨rfl, fun z => ((mG_step c_17 hj).mp z).2.elim (fun q => by omega) (fun q => by have := q.1; omega)⟩) (fun q h1 h2 => by rw [eA_1, q2_row]; by_cases hz : q = j - 1; (subst hz; rw [upd_s]; unfold mway mdv; rw [if_neg (by omega), hd6]); (rw [upd_o _ _ hz]; exact hr q (by omega) h2)) (by rw [eA_1]; exact qfr_up hf) (by omega) _ _ _ hM (lv_sub hl [0, 2, 1, 3, 5] rfl)
              · skip
                have c_67 : ¬ (nK ≤ lf % 6) := fun z => c_67 ((nI_leI (a := nK) (b := lf % 6) (by omega) (by omega)).mpr z)
                refine lv_iload_n hx hb dX11_takeGiven_70 rfl (lv_at hl 4 rfl) ?_
                refine lv_iload hx hb dX11_takeGiven_71 (lv_at hl 1 rfl) ?_
                refine q_callSI (n := 2) (As := [.int tk, .int (nI (lf % 6))]) (rest := []) C hM hA (c_X11_has E ad l S A_1 b tk (nI (lf % 6))) gX11_takeGiven_X11_has rfl rfl rfl (by decide +kernel) ⟨Nat.le_of_ble_eq_true rfl, Nat.le_of_ble_eq_true rfl⟩ rfl hl.1 rfl (Nat.le_of_ble_eq_true rfl) ⟨Nat.zero_le _, Nat.zero_le _⟩ dX11_takeGiven_73 (fun r_4 S_5 A_6 b_7 H locs qr_4 hM => ?_)
                obtain ⟨⟨e1, e2, e3⟩, er_4⟩ := qr_4
                subst e1; subst e2; subst e3
                refine lv_if_ne (tgt := 83) hx hb dX11_takeGiven_76 (by decide) (fun c_76 => ?_) (fun c_76 => ?_)
                · skip
                  refine lv_iconst (v := 0) hx hb dX11_takeGiven_83 (by decide) ?_
                  refine lv_istore (lv' := [(4, .int 0), (2, .int (nI (lf / 6))), (6, .int (nI (lf % 6))), (5, .int (nI (j - 1))), (3, .int tk), (0, .ref (ad 188))]) hx hb dX11_takeGiven_84 hl (by decide) rfl (fun ls hl => ?_)
                  refine lv_iload_n hx hb dX11_takeGiven_86 rfl (lv_at hl 4 rfl) ?_
                  refine lv_iconst (v := 1) hx hb dX11_takeGiven_87 (by decide) ?_
                  refine lv_iload hx hb dX11_takeGiven_88 (lv_at hl 2 rfl) ?_
                  refine lv_ishl hx hb dX11_takeGiven_90 ?_
                  refine lv_ior hx hb dX11_takeGiven_91 ?_
                  refine lv_topi (fun x3_8 ex3_8 => ?_)
                  refine lv_istore_n (lv' := [(3, .int x3_8), (4, .int 0), (2, .int (nI (lf / 6))), (6, .int (nI (lf % 6))), (5, .int (nI (j - 1))), (0, .ref (ad 188))]) hx hb dX11_takeGiven_92 rfl hl (by decide) rfl (fun ls hl => ?_)
                  refine lv_iinc (v := nI (j - 1) - 1) (lv' := [(5, .int (nI (j - 1) - 1)), (3, .int x3_8), (4, .int 0), (2, .int (nI (lf / 6))), (6, .int (nI (lf % 6))), (0, .ref (ad 188))]) hx hb dX11_takeGiven_93 hl (k := 4) rfl (by rw [Int32.sub_eq_add_neg]; rfl) (by decide) rfl (fun ls hl => ?_)
                  refine lv_goto (tgt := 15) hx hb dX11_takeGiven_96 (by decide) ?_
                  exact ih15 (lf / 6) x3_8 0 (j - 1) A_1 (by omega) (mdg_next c_17 hj hlf) (Nat.le_trans (Nat.div_le_self _ _) hlb) (by rw [ex3_8, hd6]; exact mT_step c_17 hj hT) (Or.inr ⟨rfl, fun z => ((mG_step c_17 hj).mp z).2.elim (fun q => by omega) (fun q => (q01_ne0.mp (fun y => c_76 (er_4.trans y))) ((hT _ (by omega)).mpr (fun q2 h2 h3 => by rw [hd6]; exact q.2 q2 h2 h3)))⟩) (fun q h1 h2 => by rw [eA_1, q2_row]; by_cases hz : q = j - 1; (subst hz; rw [upd_s]; unfold mway mdv; rw [if_neg (by omega), hd6]); (rw [upd_o _ _ hz]; exact hr q (by omega) h2)) (by rw [eA_1]; exact qfr_up hf) (by omega) _ _ _ hM (lv_sub hl [0, 2, 1, 3, 5] rfl)
                · skip
                  refine lv_iconst (v := 1) hx hb dX11_takeGiven_79 (by decide) ?_
                  refine lv_goto (tgt := 84) hx hb dX11_takeGiven_80 (by decide) ?_
                  refine lv_istore (lv' := [(4, .int 1), (2, .int (nI (lf / 6))), (6, .int (nI (lf % 6))), (5, .int (nI (j - 1))), (3, .int tk), (0, .ref (ad 188))]) hx hb dX11_takeGiven_84 hl (by decide) rfl (fun ls hl => ?_)
                  refine lv_iload_n hx hb dX11_takeGiven_86 rfl (lv_at hl 4 rfl) ?_
                  refine lv_iconst (v := 1) hx hb dX11_takeGiven_87 (by decide) ?_
                  refine lv_iload hx hb dX11_takeGiven_88 (lv_at hl 2 rfl) ?_
                  refine lv_ishl hx hb dX11_takeGiven_90 ?_
                  refine lv_ior hx hb dX11_takeGiven_91 ?_
                  refine lv_topi (fun x3_9 ex3_9 => ?_)
                  refine lv_istore_n (lv' := [(3, .int x3_9), (4, .int 1), (2, .int (nI (lf / 6))), (6, .int (nI (lf % 6))), (5, .int (nI (j - 1))), (0, .ref (ad 188))]) hx hb dX11_takeGiven_92 rfl hl (by decide) rfl (fun ls hl => ?_)
                  refine lv_iinc (v := nI (j - 1) - 1) (lv' := [(5, .int (nI (j - 1) - 1)), (3, .int x3_9), (4, .int 1), (2, .int (nI (lf / 6))), (6, .int (nI (lf % 6))), (0, .ref (ad 188))]) hx hb dX11_takeGiven_93 hl (k := 4) rfl (by rw [Int32.sub_eq_add_neg]; rfl) (by decide) rfl (fun ls hl => ?_)
                  refine lv_goto (tgt := 15) hx hb dX11_takeGiven_96 (by decide) ?_
                  exact ih15 (lf / 6) x3_9 1 (j - 1) A_1 (by omega) (mdg_next c_17 hj hlf) (Nat.le_trans (Nat.div_le_self _ _) hlb) (by rw [ex3_9, hd6]; exact mT_step c_17 hj hT) (Or.inl ⟨rfl, (mG_step c_17 hj).mpr ⟨(hg.elim (fun q => q.2) (fun q => absurd q.1 c_52)), Or.inr ⟨by omega, fun q2 h2 h3 => by rw [← hd6]; exact (hT _ (by omega)).mp (Classical.not_not.mp (q01_eq0.mp (er_4.symm.trans c_76))) q2 h2 h3⟩⟩⟩) (fun q h1 h2 => by rw [eA_1, q2_row]; by_cases hz : q = j - 1; (subst hz; rw [upd_s]; unfold mway mdv; rw [if_neg (by omega), hd6]); (rw [upd_o _ _ hz]; exact hr q (by omega) h2)) (by rw [eA_1]; exact qfr_up hf) (by omega) _ _ _ hM (lv_sub hl [0, 2, 1, 3, 5] rfl)
        · skip
          have c_40 : lf % 6 = 5 := (nI_eq (a := lf % 6) (b := 5) (by omega) (by omega)).mp c_40
          refine lv_iconst (v := (-1)) hx hb dX11_takeGiven_43 (by decide) ?_
          refine lv_goto (tgt := 49) hx hb dX11_takeGiven_44 (by decide) ?_
          refine q_iast C hM (show qk 205 = 12 from by decide +kernel) (by rw [(show ql 205 = 6 from by decide +kernel)]; exact vp_nI (by omega) (by omega)) dX11_takeGiven_49 (fun H locs hM => ?_)
          rw [nIc (by omega)] at hM
          obtain ⟨A_10, eA_10⟩ : ∃ zz, zz = q2 A15 205 (j - 1) (-1) := ⟨_, rfl⟩
          rw [← eA_10] at hM
          refine lv_iload hx hb dX11_takeGiven_50 (lv_at hl 3 rfl) ?_
          refine lv_if_eq (tgt := 83) hx hb dX11_takeGiven_52 (by decide) (fun c_52 => ?_) (fun c_52 => ?_)
          · skip
            refine lv_iconst (v := 0) hx hb dX11_takeGiven_83 (by decide) ?_
            refine lv_istore (lv' := [(4, .int 0), (2, .int (nI (lf / 6))), (6, .int (nI (lf % 6))), (5, .int (nI (j - 1))), (3, .int tk), (0, .ref (ad 188))]) hx hb dX11_takeGiven_84 hl (by decide) rfl (fun ls hl => ?_)
            refine lv_iload_n hx hb dX11_takeGiven_86 rfl (lv_at hl 4 rfl) ?_
            refine lv_iconst (v := 1) hx hb dX11_takeGiven_87 (by decide) ?_
            refine lv_iload hx hb dX11_takeGiven_88 (lv_at hl 2 rfl) ?_
            refine lv_ishl hx hb dX11_takeGiven_90 ?_
            refine lv_ior hx hb dX11_takeGiven_91 ?_
            refine lv_topi (fun x3_11 ex3_11 => ?_)
            refine lv_istore_n (lv' := [(3, .int x3_11), (4, .int 0), (2, .int (nI (lf / 6))), (6, .int (nI (lf % 6))), (5, .int (nI (j - 1))), (0, .ref (ad 188))]) hx hb dX11_takeGiven_92 rfl hl (by decide) rfl (fun ls hl => ?_)
            refine lv_iinc (v := nI (j - 1) - 1) (lv' := [(5, .int (nI (j - 1) - 1)), (3, .int x3_11), (4, .int 0), (2, .int (nI (lf / 6))), (6, .int (nI (lf % 6))), (0, .ref (ad 188))]) hx hb dX11_takeGiven_93 hl (k := 4) rfl (by rw [Int32.sub_eq_add_neg]; rfl) (by decide) rfl (fun ls hl => ?_)
            refine lv_goto (tgt := 15) hx hb dX11_takeGiven_96 (by decide) ?_
            exact ih15 (lf / 6) x3_11 0 (j - 1) A_10 (by omega) (mdg_next c_17 hj hlf) (Nat.le_trans (Nat.div_le_self _ _) hlb) (by rw [ex3_11, hd6]; exact mT_step c_17 hj hT) (Or.inr ⟨rfl, fun z => (hg.elim (fun q => absurd (q.1.symm.trans c_52) (by decide)) (fun q => q.2)) ((mG_step c_17 hj).mp z).1⟩) (fun q h1 h2 => by rw [eA_10, q2_row]; by_cases hz : q = j - 1; (subst hz; rw [upd_s]; unfold mway mdv; rw [if_pos (by omega)]); (rw [upd_o _ _ hz]; exact hr q (by omega) h2)) (by rw [eA_10]; exact qfr_up hf) (by omega) _ _ _ hM (lv_sub hl [0, 2, 1, 3, 5] rfl)
          · skip
            refine lv_iload hx hb dX11_takeGiven_55 (lv_at hl 1 rfl) ?_
            refine lv_iconst (v := 5) hx hb dX11_takeGiven_57 (by decide) ?_
            refine lv_icmp_eq (tgt := 79) hx hb dX11_takeGiven_58 (by decide) (fun c_58 => ?_) (fun c_58 => ?_)
            · skip
              have c_58 : lf % 6 = 5 := (nI_eq (a := lf % 6) (b := 5) (by omega) (by omega)).mp c_58
              refine lv_iconst (v := 1) hx hb dX11_takeGiven_79 (by decide) ?_
              refine lv_goto (tgt := 84) hx hb dX11_takeGiven_80 (by decide) ?_
              refine lv_istore (lv' := [(4, .int 1), (2, .int (nI (lf / 6))), (6, .int (nI (lf % 6))), (5, .int (nI (j - 1))), (3, .int tk), (0, .ref (ad 188))]) hx hb dX11_takeGiven_84 hl (by decide) rfl (fun ls hl => ?_)
              refine lv_iload_n hx hb dX11_takeGiven_86 rfl (lv_at hl 4 rfl) ?_
              refine lv_iconst (v := 1) hx hb dX11_takeGiven_87 (by decide) ?_
              refine lv_iload hx hb dX11_takeGiven_88 (lv_at hl 2 rfl) ?_
              refine lv_ishl hx hb dX11_takeGiven_90 ?_
              refine lv_ior hx hb dX11_takeGiven_91 ?_
              refine lv_topi (fun x3_12 ex3_12 => ?_)
              refine lv_istore_n (lv' := [(3, .int x3_12), (4, .int 1), (2, .int (nI (lf / 6))), (6, .int (nI (lf % 6))), (5, .int (nI (j - 1))), (0, .ref (ad 188))]) hx hb dX11_takeGiven_92 rfl hl (by decide) rfl (fun ls hl => ?_)
              refine lv_iinc (v := nI (j - 1) - 1) (lv' := [(5, .int (nI (j - 1) - 1)), (3, .int x3_12), (4, .int 1), (2, .int (nI (lf / 6))), (6, .int (nI (lf % 6))), (0, .ref (ad 188))]) hx hb dX11_takeGiven_93 hl (k := 4) rfl (by rw [Int32.sub_eq_add_neg]; rfl) (by decide) rfl (fun ls hl => ?_)
              refine lv_goto (tgt := 15) hx hb dX11_takeGiven_96 (by decide) ?_
              exact ih15 (lf / 6) x3_12 1 (j - 1) A_10 (by omega) (mdg_next c_17 hj hlf) (Nat.le_trans (Nat.div_le_self _ _) hlb) (by rw [ex3_12, hd6]; exact mT_step c_17 hj hT) (Or.inl ⟨rfl, (mG_step c_17 hj).mpr ⟨(hg.elim (fun q => q.2) (fun q => absurd q.1 c_52)), Or.inl (by omega)⟩⟩) (fun q h1 h2 => by rw [eA_10, q2_row]; by_cases hz : q = j - 1; (subst hz; rw [upd_s]; unfold mway mdv; rw [if_pos (by omega)]); (rw [upd_o _ _ hz]; exact hr q (by omega) h2)) (by rw [eA_10]; exact qfr_up hf) (by omega) _ _ _ hM (lv_sub hl [0, 2, 1, 3, 5] rfl)
            · skip
              have c_58 : ¬ (lf % 6 = 5) := fun z => c_58 ((nI_eq (a := lf % 6) (b := 5) (by omega) (by omega)).mpr z)
              omega
  exact loop15 (nP + 1) mc 0 1 nP A (by omega) (by rw [Nat.sub_self, Nat.pow_zero, Nat.div_one]) (by omega) (mT_n _ _) (Or.inl ⟨rfl, mG_n _ _ _⟩) (fun q h1 h2 => absurd h2 (Nat.not_lt.mpr h1)) (fun _ _ => rfl) (Nat.lt_succ_self _) _ _ _ hM (lv_sub hl [0, 1, 2, 3, 4] rfl)

set_option maxHeartbeats 4000000 in
set_option maxRecDepth 100000 in
theorem c_X11_givenSet (E : qE) (ad : Nat → Nat) (l : Launch) (S A : qA2) (b : qB) (nP : Nat) (hPo : S 188 4 = nI nP) (hPb : nP ≤ 6) (hgv : ∀ q, q < nP → qcw 5 (A 205 q)) : MI E ad l yX11_givenSet wsX11_givenSet { frames := 0, cells := 0, slots := 0, locals := 0 } [.ref (ad 188)] S A b (fun r S' A' b' => (S = S' ∧ A = A' ∧ b = b') ∧ r = qlets (A 205) nP) := by
  refine MI.of (cc := cX11_givenSet) (maxL := 3) (ret := some .int) RX11 rfl (by decide) rfl ?_
  intro pg e s m below meth cd C hM
  have hx := C.1
  have hb := C.2.1
  have hts := C.2.2.2.2.1
  have hA : ∀ q, s.heap.size ≤ q → qAr ad s.heap.size q := fun _ h => Or.inr h
  have hi11 : ∀ w ∈ u_ws RX11 TX11 45, w ∈ wsX11_givenSet := by decide +kernel
  have hL0 := hts (.fieldLink RX11 97 "CrowFencesModel" "posts" "I") (by decide +kernel)
  have hL1 := hts (.fieldLink RX11 63 "CrowFencesModel" "given" "[I") (by decide +kernel)
  have hl := lv_entry ([.ref (ad 188)]) (n := 3) (Nat.le_of_ble_eq_true rfl)
  rw [lg_entry_eq]
  generalize (lg_sl ([.ref (ad 188)]) ++ List.replicate (3 - (lg_sl ([.ref (ad 188)])).length) Slot.unset).toArray = ls at hl ⊢
  have hl : lv_has ls 3 [(0, .ref (ad 188))] := hl
  refine lv_iconst (v := 0) hx hb dX11_givenSet_0 (by decide) ?_
  refine lv_istore_n (lv' := [(1, .int 0), (0, .ref (ad 188))]) hx hb dX11_givenSet_1 rfl hl (by decide) rfl (fun ls hl => ?_)
  refine lv_iconst (v := 0) hx hb dX11_givenSet_2 (by decide) ?_
  refine lv_istore_n (lv' := [(2, .int 0), (1, .int 0), (0, .ref (ad 188))]) hx hb dX11_givenSet_3 rfl hl (by decide) rfl (fun ls hl => ?_)
  have loop4 : ∀ (fu : Nat) (t : Int32) (k : Nat) (hk : k ≤ nP) (ht : t = qlets (A 205) k), nP - k < fu → ∀ (H : Heap) (locs : List Loc) (ls : Array Slot), qM E ad S A b (qAr ad s.heap.size) s H locs → lv_has ls 3 [(2, .int (nI k)), (1, .int t), (0, .ref (ad 188))] → W pg l e (headSpec wsX11_givenSet { frames := 0, cells := 0, slots := 0, locals := 0 }).room s m ([.ref (ad 188)] : List Value).toArray below meth cd H locs 0 0 (MQ below (qQi E ad s.heap.size (fun r S' A' b' => (S = S' ∧ A = A' ∧ b = b') ∧ r = qlets (A 205) nP)) ([.ref (ad 188)] : List Value).toArray s 0 0 (qAr ad s.heap.size)) (F0 m 4 ls []) := by
    intro fu
    induction fu with
    | zero => intro t k hk ht hn; exact absurd hn (Nat.not_lt_zero _)
    | succ fu ih4 =>
      intro t k hk ht hn H locs ls hM hl
      refine lv_iload_n hx hb dX11_givenSet_4 rfl (lv_at hl 0 rfl) ?_
      refine lv_aload_n hx hb dX11_givenSet_5 rfl (lv_at hl 2 rfl) ?_
      refine q_get (o := 188) (ci := 11) (k := 4) (T := TX11) (v := .int (S 188 4)) C hM (qmem_11 E ad S A b (show qk 188 = 11 from by decide +kernel)) (by decide) rfl hi11 (by decide) hL0 rfl rfl dX11_givenSet_6 ?_
      refine lv_as (y := nI nP) hPo ?_
      refine lv_icmp_ge (tgt := 37) hx hb dX11_givenSet_9 (by decide) (fun c_9 => ?_) (fun c_9 => ?_)
      · skip
        have c_9 : nP ≤ k := (nI_leI (a := nP) (b := k) (by omega) (by omega)).mp c_9
        refine lv_iload_n hx hb dX11_givenSet_37 rfl (lv_at hl 1 rfl) ?_
        exact q_iret C hM dX11_givenSet_38 (by exact ⟨⟨rfl, rfl, rfl⟩, (by rw [ht, show k = nP by omega])⟩)
      · skip
        have c_9 : ¬ (nP ≤ k) := fun z => c_9 ((nI_leI (a := nP) (b := k) (by omega) (by omega)).mpr z)
        refine lv_iload_n hx hb dX11_givenSet_12 rfl (lv_at hl 1 rfl) ?_
        refine lv_aload_n hx hb dX11_givenSet_13 rfl (lv_at hl 2 rfl) ?_
        refine q_get (o := 188) (ci := 11) (k := 34) (T := TX11) (v := .ref (ad 205)) C hM (qmem_11 E ad S A b (show qk 188 = 11 from by decide +kernel)) (by decide) rfl hi11 (by decide) hL1 rfl rfl dX11_givenSet_14 ?_
        refine lv_iload_n hx hb dX11_givenSet_17 rfl (lv_at hl 0 rfl) ?_
        refine q_iald (v := A 205 k) C hM (show qk 205 = 12 from by decide +kernel) (by rw [(show ql 205 = 6 from by decide +kernel)]; exact vp_nI (by omega) (by omega)) (by rw [nIc (by omega)]) dX11_givenSet_18 ?_
        refine lv_if_lt (tgt := 28) hx hb dX11_givenSet_19 (by decide) (fun c_19 => ?_) (fun c_19 => ?_)
        · skip
          refine lv_iconst (v := 0) hx hb dX11_givenSet_28 (by decide) ?_
          refine lv_ior hx hb dX11_givenSet_29 ?_
          refine lv_topi (fun x1_1 ex1_1 => ?_)
          refine lv_istore_n (lv' := [(1, .int x1_1), (2, .int (nI k)), (0, .ref (ad 188))]) hx hb dX11_givenSet_30 rfl hl (by decide) rfl (fun ls hl => ?_)
          refine lv_iinc (v := nI (k + 1)) (lv' := [(2, .int (nI (k + 1))), (1, .int x1_1), (0, .ref (ad 188))]) hx hb dX11_givenSet_31 hl (k := 1) rfl (by rw [nI_succ]; rfl) (by decide) rfl (fun ls hl => ?_)
          refine lv_goto (tgt := 4) hx hb dX11_givenSet_34 (by decide) ?_
          exact ih4 x1_1 (k + 1) (by omega) (by rw [ex1_1, ht, i32_or0]; simp only [qlets, qor]; rw [if_pos ((qcw_neg (by omega) (hgv k (by omega))).mp c_19), i32_or0]) (by omega) _ _ _ hM hl
        · skip
          refine lv_iconst (v := 1) hx hb dX11_givenSet_22 (by decide) ?_
          refine lv_iload_n hx hb dX11_givenSet_23 rfl (lv_at hl 0 rfl) ?_
          refine lv_ishl hx hb dX11_givenSet_24 ?_
          refine lv_goto (tgt := 29) hx hb dX11_givenSet_25 (by decide) ?_
          refine lv_ior hx hb dX11_givenSet_29 ?_
          refine lv_topi (fun x1_2 ex1_2 => ?_)
          refine lv_istore_n (lv' := [(1, .int x1_2), (2, .int (nI k)), (0, .ref (ad 188))]) hx hb dX11_givenSet_30 rfl hl (by decide) rfl (fun ls hl => ?_)
          refine lv_iinc (v := nI (k + 1)) (lv' := [(2, .int (nI (k + 1))), (1, .int x1_2), (0, .ref (ad 188))]) hx hb dX11_givenSet_31 hl (k := 1) rfl (by rw [nI_succ]; rfl) (by decide) rfl (fun ls hl => ?_)
          refine lv_goto (tgt := 4) hx hb dX11_givenSet_34 (by decide) ?_
          exact ih4 x1_2 (k + 1) (by omega) (by rw [ex1_2, ht]; simp only [qlets, qor]; rw [if_neg (fun z => c_19 ((qcw_neg (by omega) (hgv k (by omega))).mpr z))]; rfl) (by omega) _ _ _ hM hl
  exact loop4 (nP - 0 + 1) 0 0 (by omega) rfl (Nat.lt_succ_self _) _ _ _ hM hl

set_option maxHeartbeats 4000000 in
set_option maxRecDepth 100000 in
theorem c_X11_givenSpoons (E : qE) (ad : Nat → Nat) (l : Launch) (S A : qA2) (b : qB) (nP : Nat) (hPo : S 188 4 = nI nP) (hPb : nP ≤ 6) (hgv : ∀ q, q < nP → qcw 5 (A 205 q)) : MI E ad l yX11_givenSpoons wsX11_givenSpoons { frames := 1, cells := 0, slots := 0, locals := 22 } [.ref (ad 188)] S A b (fun r S' A' b' => (S = S' ∧ A = A' ∧ b = b') ∧ r = qspoons (A 205) (fun c => A 193 (25 + c)) (A 190) (A 189) nP) := by
  refine MI.of (cc := cX11_givenSpoons) (maxL := 3) (ret := some .int) RX11 rfl (by decide) rfl ?_
  intro pg e s m below meth cd C hM
  have hx := C.1
  have hb := C.2.1
  have hts := C.2.2.2.2.1
  have hA : ∀ q, s.heap.size ≤ q → qAr ad s.heap.size q := fun _ h => Or.inr h
  have hi11 : ∀ w ∈ u_ws RX11 TX11 45, w ∈ wsX11_givenSpoons := by decide +kernel
  have hL0 := hts (.fieldLink RX11 97 "CrowFencesModel" "posts" "I") (by decide +kernel)
  have hL1 := hts (.fieldLink RX11 63 "CrowFencesModel" "given" "[I") (by decide +kernel)
  have hl := lv_entry ([.ref (ad 188)]) (n := 3) (Nat.le_of_ble_eq_true rfl)
  rw [lg_entry_eq]
  generalize (lg_sl ([.ref (ad 188)]) ++ List.replicate (3 - (lg_sl ([.ref (ad 188)])).length) Slot.unset).toArray = ls at hl ⊢
  have hl : lv_has ls 3 [(0, .ref (ad 188))] := hl
  refine lv_iconst (v := 0) hx hb dX11_givenSpoons_0 (by decide) ?_
  refine lv_istore_n (lv' := [(1, .int 0), (0, .ref (ad 188))]) hx hb dX11_givenSpoons_1 rfl hl (by decide) rfl (fun ls hl => ?_)
  refine lv_iconst (v := 0) hx hb dX11_givenSpoons_2 (by decide) ?_
  refine lv_istore_n (lv' := [(2, .int 0), (1, .int 0), (0, .ref (ad 188))]) hx hb dX11_givenSpoons_3 rfl hl (by decide) rfl (fun ls hl => ?_)
  have loop4 : ∀ (fu : Nat) (t : Int32) (k : Nat) (hk : k ≤ nP) (ht : t = qspoons (A 205) (fun c => A 193 (25 + c)) (A 190) (A 189) k), nP - k < fu → ∀ (H : Heap) (locs : List Loc) (ls : Array Slot), qM E ad S A b (qAr ad s.heap.size) s H locs → lv_has ls 3 [(2, .int (nI k)), (1, .int t), (0, .ref (ad 188))] → W pg l e (headSpec wsX11_givenSpoons { frames := 1, cells := 0, slots := 0, locals := 22 }).room s m ([.ref (ad 188)] : List Value).toArray below meth cd H locs 0 0 (MQ below (qQi E ad s.heap.size (fun r S' A' b' => (S = S' ∧ A = A' ∧ b = b') ∧ r = qspoons (A 205) (fun c => A 193 (25 + c)) (A 190) (A 189) nP)) ([.ref (ad 188)] : List Value).toArray s 0 0 (qAr ad s.heap.size)) (F0 m 4 ls []) := by
    intro fu
    induction fu with
    | zero => intro t k hk ht hn; exact absurd hn (Nat.not_lt_zero _)
    | succ fu ih4 =>
      intro t k hk ht hn H locs ls hM hl
      refine lv_iload_n hx hb dX11_givenSpoons_4 rfl (lv_at hl 0 rfl) ?_
      refine lv_aload_n hx hb dX11_givenSpoons_5 rfl (lv_at hl 2 rfl) ?_
      refine q_get (o := 188) (ci := 11) (k := 4) (T := TX11) (v := .int (S 188 4)) C hM (qmem_11 E ad S A b (show qk 188 = 11 from by decide +kernel)) (by decide) rfl hi11 (by decide) hL0 rfl rfl dX11_givenSpoons_6 ?_
      refine lv_as (y := nI nP) hPo ?_
      refine lv_icmp_ge (tgt := 45) hx hb dX11_givenSpoons_9 (by decide) (fun c_9 => ?_) (fun c_9 => ?_)
      · skip
        have c_9 : nP ≤ k := (nI_leI (a := nP) (b := k) (by omega) (by omega)).mp c_9
        refine lv_iload_n hx hb dX11_givenSpoons_45 rfl (lv_at hl 1 rfl) ?_
        exact q_iret C hM dX11_givenSpoons_46 (by exact ⟨⟨rfl, rfl, rfl⟩, (by rw [ht, show k = nP by omega])⟩)
      · skip
        have c_9 : ¬ (nP ≤ k) := fun z => c_9 ((nI_leI (a := nP) (b := k) (by omega) (by omega)).mpr z)
        refine lv_iload_n hx hb dX11_givenSpoons_12 rfl (lv_at hl 1 rfl) ?_
        refine lv_aload_n hx hb dX11_givenSpoons_13 rfl (lv_at hl 2 rfl) ?_
        refine q_get (o := 188) (ci := 11) (k := 34) (T := TX11) (v := .ref (ad 205)) C hM (qmem_11 E ad S A b (show qk 188 = 11 from by decide +kernel)) (by decide) rfl hi11 (by decide) hL1 rfl rfl dX11_givenSpoons_14 ?_
        refine lv_iload_n hx hb dX11_givenSpoons_17 rfl (lv_at hl 0 rfl) ?_
        refine q_iald (v := A 205 k) C hM (show qk 205 = 12 from by decide +kernel) (by rw [(show ql 205 = 6 from by decide +kernel)]; exact vp_nI (by omega) (by omega)) (by rw [nIc (by omega)]) dX11_givenSpoons_18 ?_
        refine lv_if_lt (tgt := 36) hx hb dX11_givenSpoons_19 (by decide) (fun c_19 => ?_) (fun c_19 => ?_)
        · skip
          refine lv_iconst (v := 0) hx hb dX11_givenSpoons_36 (by decide) ?_
          refine lv_iadd hx hb dX11_givenSpoons_37 ?_
          refine lv_topi (fun x1_1 ex1_1 => ?_)
          refine lv_istore_n (lv' := [(1, .int x1_1), (2, .int (nI k)), (0, .ref (ad 188))]) hx hb dX11_givenSpoons_38 rfl hl (by decide) rfl (fun ls hl => ?_)
          refine lv_iinc (v := nI (k + 1)) (lv' := [(2, .int (nI (k + 1))), (1, .int x1_1), (0, .ref (ad 188))]) hx hb dX11_givenSpoons_39 hl (k := 1) rfl (by rw [nI_succ]; rfl) (by decide) rfl (fun ls hl => ?_)
          refine lv_goto (tgt := 4) hx hb dX11_givenSpoons_42 (by decide) ?_
          exact ih4 x1_1 (k + 1) (by omega) (by rw [ex1_1, ht, Int32.add_zero]; simp only [qspoons, qsum]; rw [if_pos ((qcw_neg (by omega) (hgv k (by omega))).mp c_19), Int32.add_zero]) (by omega) _ _ _ hM hl
        · skip
          refine lv_aload_n hx hb dX11_givenSpoons_22 rfl (lv_at hl 2 rfl) ?_
          refine lv_iload_n hx hb dX11_givenSpoons_23 rfl (lv_at hl 0 rfl) ?_
          refine lv_aload_n hx hb dX11_givenSpoons_24 rfl (lv_at hl 2 rfl) ?_
          refine q_get (o := 188) (ci := 11) (k := 34) (T := TX11) (v := .ref (ad 205)) C hM (qmem_11 E ad S A b (show qk 188 = 11 from by decide +kernel)) (by decide) rfl hi11 (by decide) hL1 rfl rfl dX11_givenSpoons_25 ?_
          refine lv_iload_n hx hb dX11_givenSpoons_28 rfl (lv_at hl 0 rfl) ?_
          refine q_iald (v := A 205 k) C hM (show qk 205 = 12 from by decide +kernel) (by rw [(show ql 205 = 6 from by decide +kernel)]; exact vp_nI (by omega) (by omega)) (by rw [nIc (by omega)]) dX11_givenSpoons_29 ?_
          obtain ⟨hc1, hc2⟩ := qcw_nat (by omega) (hgv k (by omega)) (fun z => c_19 ((qcw_neg (by omega) (hgv k (by omega))).mpr z))
          refine lv_as (y := nI (A 205 k).toNatClampNeg) hc1 ?_
          refine q_callVI (n := 2) (o := 188) (As := [.int (nI k), .int (nI (A 205 k).toNatClampNeg)]) (rest := [.int t]) C hM hA (c_X11_bid E ad l S A b k ((A 205 k).toNatClampNeg) (by omega) (by omega)) (qmem_11 E ad S A b (show qk 188 = 11 from by decide +kernel)) (by decide) rfl gX11_givenSpoons_X11_bid rfl rfl rfl (by decide +kernel) ⟨Nat.le_of_ble_eq_true rfl, Nat.le_of_ble_eq_true rfl⟩ rfl hl.1 rfl (Nat.le_of_ble_eq_true rfl) ⟨Nat.zero_le _, Nat.zero_le _⟩ dX11_givenSpoons_30 (fun r_2 S_3 A_4 b_5 H locs qr_2 hM => ?_)
          obtain ⟨⟨e1, e2, e3⟩, er_2⟩ := qr_2
          subst e1; subst e2; subst e3
          refine lv_goto (tgt := 37) hx hb dX11_givenSpoons_33 (by decide) ?_
          refine lv_iadd hx hb dX11_givenSpoons_37 ?_
          refine lv_topi (fun x1_6 ex1_6 => ?_)
          refine lv_istore_n (lv' := [(1, .int x1_6), (2, .int (nI k)), (0, .ref (ad 188))]) hx hb dX11_givenSpoons_38 rfl hl (by decide) rfl (fun ls hl => ?_)
          refine lv_iinc (v := nI (k + 1)) (lv' := [(2, .int (nI (k + 1))), (1, .int x1_6), (0, .ref (ad 188))]) hx hb dX11_givenSpoons_39 hl (k := 1) rfl (by rw [nI_succ]; rfl) (by decide) rfl (fun ls hl => ?_)
          refine lv_goto (tgt := 4) hx hb dX11_givenSpoons_42 (by decide) ?_
          exact ih4 x1_6 (k + 1) (by omega) (by rw [ex1_6, er_2, ht]; simp only [qspoons, qsum]; rw [if_neg (fun z => c_19 ((qcw_neg (by omega) (hgv k (by omega))).mpr z))]) (by omega) _ _ _ hM hl
  exact loop4 (nP - 0 + 1) 0 0 (by omega) rfl (Nat.lt_succ_self _) _ _ _ hM hl

set_option maxHeartbeats 4000000 in
set_option maxRecDepth 100000 in
theorem c_X11_couldBe (E : qE) (ad : Nat → Nat) (l : Launch) (S A : qA2) (b : qB) (nP : Nat) (hPo : S 188 4 = nI nP) (hPb : nP ≤ 6) (nS : Nat) (hS : S 188 36 = nI nS) (hSb : nS ≤ 6) (sp : Nat → Nat) (hsp : ∀ k, k < nS → A 208 k = nI (sp k) ∧ sp k < 6) (hgv : ∀ q, q < nP → qcw 5 (A 205 q)) : MI E ad l yX11_couldBe wsX11_couldBe { frames := 1, cells := 0, slots := 0, locals := 23 } [.ref (ad 188)] S A b (fun r S' A' b' => (S = S' ∧ A = A' ∧ b = b') ∧ ((r = 1 ∧ qfits nP (fun p => qsat (A 207) sp p nS) (qsall (A 207) nS) (A 205)) ∨ (r = 0 ∧ ¬ qfits nP (fun p => qsat (A 207) sp p nS) (qsall (A 207) nS) (A 205)))) := by
  refine MI.of (cc := cX11_couldBe) (maxL := 5) (ret := some .boolean) RX11 rfl (by decide) rfl ?_
  intro pg e s m below meth cd C hM
  have hx := C.1
  have hb := C.2.1
  have hts := C.2.2.2.2.1
  have hA : ∀ q, s.heap.size ≤ q → qAr ad s.heap.size q := fun _ h => Or.inr h
  have hi11 : ∀ w ∈ u_ws RX11 TX11 45, w ∈ wsX11_couldBe := by decide +kernel
  have hL0 := hts (.fieldLink RX11 97 "CrowFencesModel" "posts" "I") (by decide +kernel)
  have hL1 := hts (.fieldLink RX11 63 "CrowFencesModel" "given" "[I") (by decide +kernel)
  have hl := lv_entry ([.ref (ad 188)]) (n := 5) (Nat.le_of_ble_eq_true rfl)
  rw [lg_entry_eq]
  generalize (lg_sl ([.ref (ad 188)]) ++ List.replicate (5 - (lg_sl ([.ref (ad 188)])).length) Slot.unset).toArray = ls at hl ⊢
  have hl : lv_has ls 5 [(0, .ref (ad 188))] := hl
  refine lv_iconst (v := 1) hx hb dX11_couldBe_0 (by decide) ?_
  refine lv_istore_n (lv' := [(1, .int 1), (0, .ref (ad 188))]) hx hb dX11_couldBe_1 rfl hl (by decide) rfl (fun ls hl => ?_)
  refine lv_iconst (v := 0) hx hb dX11_couldBe_2 (by decide) ?_
  refine lv_istore_n (lv' := [(2, .int 0), (1, .int 1), (0, .ref (ad 188))]) hx hb dX11_couldBe_3 rfl hl (by decide) rfl (fun ls hl => ?_)
  have loop4 : ∀ (fu : Nat) (t : Int32) (k : Nat) (hk : k ≤ nP) (ht : (t = 1 ∧ qfits k (fun p => qsat (A 207) sp p nS) (qsall (A 207) nS) (A 205)) ∨ (t = 0 ∧ ¬ qfits k (fun p => qsat (A 207) sp p nS) (qsall (A 207) nS) (A 205))), nP - k < fu → ∀ (H : Heap) (locs : List Loc) (ls : Array Slot), qM E ad S A b (qAr ad s.heap.size) s H locs → lv_has ls 5 [(2, .int (nI k)), (1, .int t), (0, .ref (ad 188))] → W pg l e (headSpec wsX11_couldBe { frames := 1, cells := 0, slots := 0, locals := 23 }).room s m ([.ref (ad 188)] : List Value).toArray below meth cd H locs 0 0 (MQ below (qQi E ad s.heap.size (fun r S' A' b' => (S = S' ∧ A = A' ∧ b = b') ∧ ((r = 1 ∧ qfits nP (fun p => qsat (A 207) sp p nS) (qsall (A 207) nS) (A 205)) ∨ (r = 0 ∧ ¬ qfits nP (fun p => qsat (A 207) sp p nS) (qsall (A 207) nS) (A 205))))) ([.ref (ad 188)] : List Value).toArray s 0 0 (qAr ad s.heap.size)) (F0 m 4 ls []) := by
    intro fu
    induction fu with
    | zero => intro t k hk ht hn; exact absurd hn (Nat.not_lt_zero _)
    | succ fu ih4 =>
      intro t k hk ht hn H locs ls hM hl
      refine lv_iload_n hx hb dX11_couldBe_4 rfl (lv_at hl 0 rfl) ?_
      refine lv_aload_n hx hb dX11_couldBe_5 rfl (lv_at hl 2 rfl) ?_
      refine q_get (o := 188) (ci := 11) (k := 4) (T := TX11) (v := .int (S 188 4)) C hM (qmem_11 E ad S A b (show qk 188 = 11 from by decide +kernel)) (by decide) rfl hi11 (by decide) hL0 rfl rfl dX11_couldBe_6 ?_
      refine lv_as (y := nI nP) hPo ?_
      refine lv_icmp_ge (tgt := 72) hx hb dX11_couldBe_9 (by decide) (fun c_9 => ?_) (fun c_9 => ?_)
      · skip
        have c_9 : nP ≤ k := (nI_leI (a := nP) (b := k) (by omega) (by omega)).mp c_9
        refine lv_iload_n hx hb dX11_couldBe_72 rfl (lv_at hl 1 rfl) ?_
        exact q_zret C hM dX11_couldBe_73 (nar01 (ht.elim (fun z => Or.inr z.1) (fun z => Or.inl z.1))) (by exact ⟨⟨rfl, rfl, rfl⟩, by rw [show nP = k by omega]; exact ht⟩)
      · skip
        have c_9 : ¬ (nP ≤ k) := fun z => c_9 ((nI_leI (a := nP) (b := k) (by omega) (by omega)).mpr z)
        refine lv_aload_n hx hb dX11_couldBe_12 rfl (lv_at hl 2 rfl) ?_
        refine lv_iload_n hx hb dX11_couldBe_13 rfl (lv_at hl 0 rfl) ?_
        refine q_callVI (n := 1) (o := 188) (As := [.int (nI k)]) (rest := []) C hM hA (c_X11_seenAt E ad l S A b k (by omega) nS hS (by omega) sp hsp) (qmem_11 E ad S A b (show qk 188 = 11 from by decide +kernel)) (by decide) rfl gX11_couldBe_X11_seenAt rfl rfl rfl (by decide +kernel) ⟨Nat.le_of_ble_eq_true rfl, Nat.le_of_ble_eq_true rfl⟩ rfl hl.1 rfl (Nat.le_of_ble_eq_true rfl) ⟨Nat.zero_le _, Nat.zero_le _⟩ dX11_couldBe_14 (fun r_1 S_2 A_3 b_4 H locs qr_1 hM => ?_)
        obtain ⟨⟨e1, e2, e3⟩, er_1⟩ := qr_1
        subst e1; subst e2; subst e3
        refine lv_istore_n (lv' := [(3, .int r_1), (2, .int (nI k)), (1, .int t), (0, .ref (ad 188))]) hx hb dX11_couldBe_17 rfl hl (by decide) rfl (fun ls hl => ?_)
        refine lv_aload_n hx hb dX11_couldBe_18 rfl (lv_at hl 3 rfl) ?_
        refine q_get (o := 188) (ci := 11) (k := 34) (T := TX11) (v := .ref (ad 205)) C hM (qmem_11 E ad S A b (show qk 188 = 11 from by decide +kernel)) (by decide) rfl hi11 (by decide) hL1 rfl rfl dX11_couldBe_19 ?_
        refine lv_iload_n hx hb dX11_couldBe_22 rfl (lv_at hl 1 rfl) ?_
        refine q_iald (v := A 205 k) C hM (show qk 205 = 12 from by decide +kernel) (by rw [(show ql 205 = 6 from by decide +kernel)]; exact vp_nI (by omega) (by omega)) (by rw [nIc (by omega)]) dX11_couldBe_23 ?_
        refine lv_istore (lv' := [(4, .int (A 205 k)), (3, .int r_1), (2, .int (nI k)), (1, .int t), (0, .ref (ad 188))]) hx hb dX11_couldBe_24 hl (by decide) rfl (fun ls hl => ?_)
        refine lv_iload_n hx hb dX11_couldBe_26 rfl (lv_at hl 3 rfl) ?_
        refine lv_if_eq (tgt := 64) hx hb dX11_couldBe_27 (by decide) (fun c_27 => ?_) (fun c_27 => ?_)
        · skip
          refine lv_iconst (v := 0) hx hb dX11_couldBe_64 (by decide) ?_
          refine lv_istore_n (lv' := [(1, .int 0), (4, .int (A 205 k)), (3, .int r_1), (2, .int (nI k)), (0, .ref (ad 188))]) hx hb dX11_couldBe_65 rfl hl (by decide) rfl (fun ls hl => ?_)
          refine lv_iinc (v := nI (k + 1)) (lv' := [(2, .int (nI (k + 1))), (1, .int 0), (4, .int (A 205 k)), (3, .int r_1), (0, .ref (ad 188))]) hx hb dX11_couldBe_66 hl (k := 3) rfl (by rw [nI_succ]; rfl) (by decide) rfl (fun ls hl => ?_)
          refine lv_goto (tgt := 4) hx hb dX11_couldBe_69 (by decide) ?_
          exact ih4 0 (k + 1) (by omega) (Or.inr ⟨rfl, fun z => (ht.elim (fun q => absurd (q.1.symm.trans c_27) (by decide)) (fun q => q.2)) (qfits_s.mp z).1⟩) (by omega) _ _ _ hM (lv_sub hl [0, 1, 4] rfl)
        · skip
          refine lv_iload_n hx hb dX11_couldBe_30 rfl (lv_at hl 1 rfl) ?_
          refine lv_if_eq (tgt := 60) hx hb dX11_couldBe_31 (by decide) (fun c_31 => ?_) (fun c_31 => ?_)
          · skip
            refine lv_iconst (v := 1) hx hb dX11_couldBe_60 (by decide) ?_
            refine lv_goto (tgt := 65) hx hb dX11_couldBe_61 (by decide) ?_
            refine lv_istore_n (lv' := [(1, .int 1), (4, .int (A 205 k)), (3, .int r_1), (2, .int (nI k)), (0, .ref (ad 188))]) hx hb dX11_couldBe_65 rfl hl (by decide) rfl (fun ls hl => ?_)
            refine lv_iinc (v := nI (k + 1)) (lv' := [(2, .int (nI (k + 1))), (1, .int 1), (4, .int (A 205 k)), (3, .int r_1), (0, .ref (ad 188))]) hx hb dX11_couldBe_66 hl (k := 3) rfl (by rw [nI_succ]; rfl) (by decide) rfl (fun ls hl => ?_)
            refine lv_goto (tgt := 4) hx hb dX11_couldBe_69 (by decide) ?_
            exact ih4 1 (k + 1) (by omega) (Or.inl ⟨rfl, qfits_s.mpr ⟨(ht.elim (fun q => q.2) (fun q => absurd q.1 c_27)), fun z => absurd (er_1.symm.trans c_31) z⟩⟩) (by omega) _ _ _ hM (lv_sub hl [0, 1, 4] rfl)
          · skip
            refine lv_iload hx hb dX11_couldBe_34 (lv_at hl 0 rfl) ?_
            refine lv_if_lt (tgt := 64) hx hb dX11_couldBe_36 (by decide) (fun c_36 => ?_) (fun c_36 => ?_)
            · skip
              refine lv_iconst (v := 0) hx hb dX11_couldBe_64 (by decide) ?_
              refine lv_istore_n (lv' := [(1, .int 0), (4, .int (A 205 k)), (3, .int r_1), (2, .int (nI k)), (0, .ref (ad 188))]) hx hb dX11_couldBe_65 rfl hl (by decide) rfl (fun ls hl => ?_)
              refine lv_iinc (v := nI (k + 1)) (lv' := [(2, .int (nI (k + 1))), (1, .int 0), (4, .int (A 205 k)), (3, .int r_1), (0, .ref (ad 188))]) hx hb dX11_couldBe_66 hl (k := 3) rfl (by rw [nI_succ]; rfl) (by decide) rfl (fun ls hl => ?_)
              refine lv_goto (tgt := 4) hx hb dX11_couldBe_69 (by decide) ?_
              exact ih4 0 (k + 1) (by omega) (Or.inr ⟨rfl, fun z => ((qfits_s.mp z).2 (fun y => c_31 (er_1.trans y))).1 ((qcw_neg (by omega) (hgv k (by omega))).mp c_36)⟩) (by omega) _ _ _ hM (lv_sub hl [0, 1, 4] rfl)
            · skip
              refine lv_iload_n hx hb dX11_couldBe_39 rfl (lv_at hl 1 rfl) ?_
              refine lv_iload hx hb dX11_couldBe_40 (lv_at hl 0 rfl) ?_
              refine q_callSI (n := 2) (As := [.int r_1, .int (A 205 k)]) (rest := []) C hM hA (c_X11_has E ad l S A b r_1 (A 205 k)) gX11_couldBe_X11_has rfl rfl rfl (by decide +kernel) ⟨Nat.le_of_ble_eq_true rfl, Nat.le_of_ble_eq_true rfl⟩ rfl hl.1 rfl (Nat.le_of_ble_eq_true rfl) ⟨Nat.zero_le _, Nat.zero_le _⟩ dX11_couldBe_42 (fun r_5 S_6 A_7 b_8 H locs qr_5 hM => ?_)
              obtain ⟨⟨e1, e2, e3⟩, er_5⟩ := qr_5
              subst e1; subst e2; subst e3
              refine lv_if_ne (tgt := 60) hx hb dX11_couldBe_45 (by decide) (fun c_45 => ?_) (fun c_45 => ?_)
              · skip
                refine lv_iconst (v := 1) hx hb dX11_couldBe_60 (by decide) ?_
                refine lv_goto (tgt := 65) hx hb dX11_couldBe_61 (by decide) ?_
                refine lv_istore_n (lv' := [(1, .int 1), (4, .int (A 205 k)), (3, .int r_1), (2, .int (nI k)), (0, .ref (ad 188))]) hx hb dX11_couldBe_65 rfl hl (by decide) rfl (fun ls hl => ?_)
                refine lv_iinc (v := nI (k + 1)) (lv' := [(2, .int (nI (k + 1))), (1, .int 1), (4, .int (A 205 k)), (3, .int r_1), (0, .ref (ad 188))]) hx hb dX11_couldBe_66 hl (k := 3) rfl (by rw [nI_succ]; rfl) (by decide) rfl (fun ls hl => ?_)
                refine lv_goto (tgt := 4) hx hb dX11_couldBe_69 (by decide) ?_
                exact ih4 1 (k + 1) (by omega) (Or.inl ⟨rfl, qfits_s.mpr ⟨(ht.elim (fun q => q.2) (fun q => absurd q.1 c_27)), fun z => ⟨(fun y => c_36 ((qcw_neg (by omega) (hgv k (by omega))).mpr y)), Or.inl (by rw [er_5, er_1] at c_45; exact q01_ne0.mp c_45)⟩⟩⟩) (by omega) _ _ _ hM (lv_sub hl [0, 1, 4] rfl)
              · skip
                refine lv_aload_n hx hb dX11_couldBe_48 rfl (lv_at hl 4 rfl) ?_
                refine q_callVI (n := 0) (o := 188) (As := []) (rest := []) C hM hA (c_X11_allSeen E ad l S A b nS hS (by omega)) (qmem_11 E ad S A b (show qk 188 = 11 from by decide +kernel)) (by decide) rfl gX11_couldBe_X11_allSeen rfl rfl rfl (by decide +kernel) ⟨Nat.le_of_ble_eq_true rfl, Nat.le_of_ble_eq_true rfl⟩ rfl hl.1 rfl (Nat.le_of_ble_eq_true rfl) ⟨Nat.zero_le _, Nat.zero_le _⟩ dX11_couldBe_49 (fun r_9 S_10 A_11 b_12 H locs qr_9 hM => ?_)
                obtain ⟨⟨e1, e2, e3⟩, er_9⟩ := qr_9
                subst e1; subst e2; subst e3
                refine lv_iload hx hb dX11_couldBe_52 (lv_at hl 0 rfl) ?_
                refine q_callSI (n := 2) (As := [.int r_9, .int (A 205 k)]) (rest := []) C hM hA (c_X11_has E ad l S A b r_9 (A 205 k)) gX11_couldBe_X11_has rfl rfl rfl (by decide +kernel) ⟨Nat.le_of_ble_eq_true rfl, Nat.le_of_ble_eq_true rfl⟩ rfl hl.1 rfl (Nat.le_of_ble_eq_true rfl) ⟨Nat.zero_le _, Nat.zero_le _⟩ dX11_couldBe_54 (fun r_13 S_14 A_15 b_16 H locs qr_13 hM => ?_)
                obtain ⟨⟨e1, e2, e3⟩, er_13⟩ := qr_13
                subst e1; subst e2; subst e3
                refine lv_if_ne (tgt := 64) hx hb dX11_couldBe_57 (by decide) (fun c_57 => ?_) (fun c_57 => ?_)
                · skip
                  refine lv_iconst (v := 0) hx hb dX11_couldBe_64 (by decide) ?_
                  refine lv_istore_n (lv' := [(1, .int 0), (4, .int (A 205 k)), (3, .int r_1), (2, .int (nI k)), (0, .ref (ad 188))]) hx hb dX11_couldBe_65 rfl hl (by decide) rfl (fun ls hl => ?_)
                  refine lv_iinc (v := nI (k + 1)) (lv' := [(2, .int (nI (k + 1))), (1, .int 0), (4, .int (A 205 k)), (3, .int r_1), (0, .ref (ad 188))]) hx hb dX11_couldBe_66 hl (k := 3) rfl (by rw [nI_succ]; rfl) (by decide) rfl (fun ls hl => ?_)
                  refine lv_goto (tgt := 4) hx hb dX11_couldBe_69 (by decide) ?_
                  exact ih4 0 (k + 1) (by omega) (Or.inr ⟨rfl, fun z => ((qfits_s.mp z).2 (fun y => c_31 (er_1.trans y))).2.elim (fun q => by rw [er_5, er_1] at c_45; exact (q01_eq0.mp c_45) q) (fun q => by rw [er_13, er_9] at c_57; exact (q01_ne0.mp c_57) q)⟩) (by omega) _ _ _ hM (lv_sub hl [0, 1, 4] rfl)
                · skip
                  refine lv_iconst (v := 1) hx hb dX11_couldBe_60 (by decide) ?_
                  refine lv_goto (tgt := 65) hx hb dX11_couldBe_61 (by decide) ?_
                  refine lv_istore_n (lv' := [(1, .int 1), (4, .int (A 205 k)), (3, .int r_1), (2, .int (nI k)), (0, .ref (ad 188))]) hx hb dX11_couldBe_65 rfl hl (by decide) rfl (fun ls hl => ?_)
                  refine lv_iinc (v := nI (k + 1)) (lv' := [(2, .int (nI (k + 1))), (1, .int 1), (4, .int (A 205 k)), (3, .int r_1), (0, .ref (ad 188))]) hx hb dX11_couldBe_66 hl (k := 3) rfl (by rw [nI_succ]; rfl) (by decide) rfl (fun ls hl => ?_)
                  refine lv_goto (tgt := 4) hx hb dX11_couldBe_69 (by decide) ?_
                  exact ih4 1 (k + 1) (by omega) (Or.inl ⟨rfl, qfits_s.mpr ⟨(ht.elim (fun q => q.2) (fun q => absurd q.1 c_27)), fun z => ⟨(fun y => c_36 ((qcw_neg (by omega) (hgv k (by omega))).mpr y)), Or.inr (by rw [er_13, er_9] at c_57; exact Classical.not_not.mp (q01_eq0.mp c_57))⟩⟩⟩) (by omega) _ _ _ hM (lv_sub hl [0, 1, 4] rfl)
  exact loop4 (nP - 0 + 1) 1 0 (by omega) (Or.inl ⟨rfl, fun p hp => absurd hp (Nat.not_lt_zero _)⟩) (Nat.lt_succ_self _) _ _ _ hM hl
