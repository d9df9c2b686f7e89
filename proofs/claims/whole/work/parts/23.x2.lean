set_option maxHeartbeats 4000000 in
set_option maxRecDepth 100000 in
theorem c_X0_enter (E : qE) (ad : Nat → Nat) (l : Launch) (S A : qA2) (b : qB) (a1 a2 : Int32) (nB : Nat) (hN : S 171 0 = nI nB) (hNb : nB < 15) : MV E ad l yX0_enter wsX0_enter { frames := 0, cells := 0, slots := 0, locals := 0 } [.ref (ad 171), .int a1, .int a2] S A b (fun S' A' b' => S' = q2 S 171 0 (nI (nB + 1)) ∧ A' = q2 (q2 A 172 nB a1) 173 nB a2 ∧ b = b') := by
  refine MV.of (cc := cX0_enter) (maxL := 3) (ret := none) RX0 rfl (by decide) rfl ?_
  intro pg e s m below meth cd C hM
  have hx := C.1
  have hb := C.2.1
  have hts := C.2.2.2.2.1
  have hA : ∀ q, s.heap.size ≤ q → qAr ad s.heap.size q := fun _ h => Or.inr h
  have hi0 : ∀ w ∈ u_ws RX0 TX0 3, w ∈ wsX0_enter := by decide +kernel
  have hL0 := hts (.fieldLink RX0 9 "CrowFences$Book" "cell" "[I") (by decide +kernel)
  have hL1 := hts (.fieldLink RX0 18 "CrowFences$Book" "count" "I") (by decide +kernel)
  have hL2 := hts (.fieldLink RX0 15 "CrowFences$Book" "snow" "[I") (by decide +kernel)
  have hl := lv_entry ([.ref (ad 171), .int a1, .int a2]) (n := 3) (Nat.le_of_ble_eq_true rfl)
  rw [lg_entry_eq]
  generalize (lg_sl ([.ref (ad 171), .int a1, .int a2]) ++ List.replicate (3 - (lg_sl ([.ref (ad 171), .int a1, .int a2])).length) Slot.unset).toArray = ls at hl ⊢
  have hl : lv_has ls 3 [(0, .ref (ad 171)), (1, .int a1), (2, .int a2)] := hl
  refine lv_aload_n hx hb dX0_enter_0 rfl (lv_at hl 0 rfl) ?_
  refine q_get (o := 171) (ci := 0) (k := 1) (T := TX0) (v := .ref (ad 172)) C hM (qmem_0 E ad S A b (show qk 171 = 0 from by decide +kernel)) (by decide) rfl hi0 (by decide) hL0 rfl rfl dX0_enter_1 ?_
  refine lv_aload_n hx hb dX0_enter_4 rfl (lv_at hl 0 rfl) ?_
  refine q_get (o := 171) (ci := 0) (k := 0) (T := TX0) (v := .int (S 171 0)) C hM (qmem_0 E ad S A b (show qk 171 = 0 from by decide +kernel)) (by decide) rfl hi0 (by decide) hL1 rfl rfl dX0_enter_5 ?_
  refine lv_as (y := nI nB) hN ?_
  refine lv_iload_n hx hb dX0_enter_8 rfl (lv_at hl 1 rfl) ?_
  refine q_iast C hM (show qk 172 = 12 from by decide +kernel) (by rw [(show ql 172 = 15 from by decide +kernel)]; exact vp_nI (by omega) (by omega)) dX0_enter_9 (fun H locs hM => ?_)
  rw [nIc (by omega)] at hM
  obtain ⟨A_1, eA_1⟩ : ∃ zz, zz = q2 A 172 nB a1 := ⟨_, rfl⟩
  rw [← eA_1] at hM
  refine lv_aload_n hx hb dX0_enter_10 rfl (lv_at hl 0 rfl) ?_
  refine q_get (o := 171) (ci := 0) (k := 2) (T := TX0) (v := .ref (ad 173)) C hM (qmem_0 E ad S A_1 b (show qk 171 = 0 from by decide +kernel)) (by decide) rfl hi0 (by decide) hL2 rfl rfl dX0_enter_11 ?_
  refine lv_aload_n hx hb dX0_enter_14 rfl (lv_at hl 0 rfl) ?_
  refine q_get (o := 171) (ci := 0) (k := 0) (T := TX0) (v := .int (S 171 0)) C hM (qmem_0 E ad S A_1 b (show qk 171 = 0 from by decide +kernel)) (by decide) rfl hi0 (by decide) hL1 rfl rfl dX0_enter_15 ?_
  refine lv_as (y := nI nB) hN ?_
  refine lv_iload_n hx hb dX0_enter_18 rfl (lv_at hl 2 rfl) ?_
  refine q_iast C hM (show qk 173 = 12 from by decide +kernel) (by rw [(show ql 173 = 15 from by decide +kernel)]; exact vp_nI (by omega) (by omega)) dX0_enter_19 (fun H locs hM => ?_)
  rw [nIc (by omega)] at hM
  obtain ⟨A_2, eA_2⟩ : ∃ zz, zz = q2 A_1 173 nB a2 := ⟨_, rfl⟩
  rw [← eA_2] at hM
  refine lv_aload_n hx hb dX0_enter_20 rfl (lv_at hl 0 rfl) ?_
  refine lv_dup hx hb dX0_enter_21 rfl ?_
  refine q_get (o := 171) (ci := 0) (k := 0) (T := TX0) (v := .int (S 171 0)) C hM (qmem_0 E ad S A_2 b (show qk 171 = 0 from by decide +kernel)) (by decide) rfl hi0 (by decide) hL1 rfl rfl dX0_enter_22 ?_
  refine lv_as (y := nI nB) hN ?_
  refine lv_iconst (v := 1) hx hb dX0_enter_25 (by decide) ?_
  refine lv_iadd hx hb dX0_enter_26 ?_
  refine lv_as (y := nI (nB + 1)) (nI_add _ _) ?_
  refine q_put (o := 171) (ci := 0) (k := 0) (T := TX0) (ty := .int) (v := nI (nB + 1)) C hM (qmem_0 E ad S A_2 b (show qk 171 = 0 from by decide +kernel)) (by decide) rfl hi0 tyX0 tyX0_ok nmX0 (by decide) hL1 rfl rfl (by decide +kernel) rfl rfl (Nat.le_of_ble_eq_true rfl) (qs_0_0 E ad S A_2 b (show qk 171 = 0 from by decide +kernel) (nI (nB + 1))) dX0_enter_27 (fun H locs hM => ?_)
  obtain ⟨S_3, eS_3⟩ : ∃ zz, zz = q2 S 171 0 (nI (nB + 1)) := ⟨_, rfl⟩
  rw [← eS_3] at hM
  exact q_vret C hM dX0_enter_30 (by subst_vars; exact ⟨rfl, rfl, rfl⟩)

set_option maxHeartbeats 4000000 in
set_option maxRecDepth 100000 in
theorem c_X0_firstWrong (E : qE) (ad : Nat → Nat) (l : Launch) (S A : qA2) (b : qB) (w : Nat) (hw : qw w) (nB : Nat) (hN : S 171 0 = nI nB) (hNb : nB ≤ 15) (bc : Nat → Nat) (hbc : ∀ k, k < nB → A 172 k = nI (bc k) ∧ bc k < 12) : MI E ad l yX0_firstWrong wsX0_firstWrong { frames := 0, cells := 0, slots := 0, locals := 0 } [.ref (ad 171), .ref (ad w)] S A b (fun r S' A' b' => (S = S' ∧ A = A' ∧ b = b') ∧ r = qwrong (A (w + 1)) bc (A 173) 0 nB) := by
  obtain ⟨⟨kw, kw1, kw2, kw3, kw4, kw5⟩, ⟨lw1, lw2, lw3, lw4, lw5⟩, bw, bw6⟩ := qw_all hw
  refine MI.of (cc := cX0_firstWrong) (maxL := 3) (ret := some .int) RX0 rfl (by decide) rfl ?_
  intro pg e s m below meth cd C hM
  have hx := C.1
  have hb := C.2.1
  have hts := C.2.2.2.2.1
  have hA : ∀ q, s.heap.size ≤ q → qAr ad s.heap.size q := fun _ h => Or.inr h
  have hi0 : ∀ w ∈ u_ws RX0 TX0 3, w ∈ wsX0_firstWrong := by decide +kernel
  have hi9 : ∀ w ∈ u_ws RX9 TX9 8, w ∈ wsX0_firstWrong := by decide +kernel
  have hL0 := hts (.fieldLink RX0 18 "CrowFences$Book" "count" "I") (by decide +kernel)
  have hL1 := hts (.fieldLink RX0 22 "CrowFences$Winter" "snow" "[I") (by decide +kernel)
  have hL2 := hts (.fieldLink RX0 9 "CrowFences$Book" "cell" "[I") (by decide +kernel)
  have hL3 := hts (.fieldLink RX0 15 "CrowFences$Book" "snow" "[I") (by decide +kernel)
  have hl := lv_entry ([.ref (ad 171), .ref (ad w)]) (n := 3) (Nat.le_of_ble_eq_true rfl)
  rw [lg_entry_eq]
  generalize (lg_sl ([.ref (ad 171), .ref (ad w)]) ++ List.replicate (3 - (lg_sl ([.ref (ad 171), .ref (ad w)])).length) Slot.unset).toArray = ls at hl ⊢
  have hl : lv_has ls 3 [(0, .ref (ad 171)), (1, .ref (ad w))] := hl
  refine lv_iconst (v := 0) hx hb dX0_firstWrong_0 (by decide) ?_
  refine lv_istore_n (lv' := [(2, .int 0), (0, .ref (ad 171)), (1, .ref (ad w))]) hx hb dX0_firstWrong_1 rfl hl (by decide) rfl (fun ls hl => ?_)
  have loop2 : ∀ (fu : Nat) (k : Nat) (hk : k ≤ nB) (hv : qwrong (A (w + 1)) bc (A 173) 0 nB = qwrong (A (w + 1)) bc (A 173) k (nB - k)), nB - k < fu → ∀ (H : Heap) (locs : List Loc) (ls : Array Slot), qM E ad S A b (qAr ad s.heap.size) s H locs → lv_has ls 3 [(2, .int (nI k)), (0, .ref (ad 171)), (1, .ref (ad w))] → W pg l e (headSpec wsX0_firstWrong { frames := 0, cells := 0, slots := 0, locals := 0 }).room s m ([.ref (ad 171), .ref (ad w)] : List Value).toArray below meth cd H locs 0 0 (MQ below (qQi E ad s.heap.size (fun r S' A' b' => (S = S' ∧ A = A' ∧ b = b') ∧ r = qwrong (A (w + 1)) bc (A 173) 0 nB)) ([.ref (ad 171), .ref (ad w)] : List Value).toArray s 0 0 (qAr ad s.heap.size)) (F0 m 2 ls []) := by
    intro fu
    induction fu with
    | zero => intro k hk hv hn; exact absurd hn (Nat.not_lt_zero _)
    | succ fu ih2 =>
      intro k hk hv hn H locs ls hM hl
      refine lv_iload_n hx hb dX0_firstWrong_2 rfl (lv_at hl 0 rfl) ?_
      refine lv_aload_n hx hb dX0_firstWrong_3 rfl (lv_at hl 1 rfl) ?_
      refine q_get (o := 171) (ci := 0) (k := 0) (T := TX0) (v := .int (S 171 0)) C hM (qmem_0 E ad S A b (show qk 171 = 0 from by decide +kernel)) (by decide) rfl hi0 (by decide) hL0 rfl rfl dX0_firstWrong_4 ?_
      refine lv_as (y := nI nB) hN ?_
      refine lv_icmp_ge (tgt := 38) hx hb dX0_firstWrong_7 (by decide) (fun c_7 => ?_) (fun c_7 => ?_)
      · skip
        have c_7 : nB ≤ k := (nI_leI (a := nB) (b := k) (by omega) (by omega)).mp c_7
        refine lv_iconst (v := (-1)) hx hb dX0_firstWrong_38 (by decide) ?_
        exact q_iret C hM dX0_firstWrong_39 (by exact ⟨⟨rfl, rfl, rfl⟩, (by rw [hv, show nB - k = 0 by omega]; rfl)⟩)
      · skip
        have c_7 : ¬ (nB ≤ k) := fun z => c_7 ((nI_leI (a := nB) (b := k) (by omega) (by omega)).mpr z)
        refine lv_aload_n hx hb dX0_firstWrong_10 rfl (lv_at hl 2 rfl) ?_
        refine q_get (o := w) (ci := 9) (k := 0) (T := TX9) (v := .ref (ad (w + 1))) C hM (qmem_9 E ad S A b kw) (by omega) rfl hi9 (by decide) hL1 rfl rfl dX0_firstWrong_11 ?_
        refine lv_aload_n hx hb dX0_firstWrong_14 rfl (lv_at hl 1 rfl) ?_
        refine q_get (o := 171) (ci := 0) (k := 1) (T := TX0) (v := .ref (ad 172)) C hM (qmem_0 E ad S A b (show qk 171 = 0 from by decide +kernel)) (by decide) rfl hi0 (by decide) hL2 rfl rfl dX0_firstWrong_15 ?_
        refine lv_iload_n hx hb dX0_firstWrong_18 rfl (lv_at hl 0 rfl) ?_
        refine q_iald (v := A 172 k) C hM (show qk 172 = 12 from by decide +kernel) (by rw [(show ql 172 = 15 from by decide +kernel)]; exact vp_nI (by omega) (by omega)) (by rw [nIc (by omega)]) dX0_firstWrong_19 ?_
        obtain ⟨hbc1, hbc2⟩ := hbc k (by omega)
        refine lv_as (y := nI (bc k)) hbc1 ?_
        refine q_iald (v := A (w + 1) (bc k)) C hM kw1 (by rw [lw1]; exact vp_nI (by omega) (by omega)) (by rw [nIc (by omega)]) dX0_firstWrong_20 ?_
        refine lv_aload_n hx hb dX0_firstWrong_21 rfl (lv_at hl 1 rfl) ?_
        refine q_get (o := 171) (ci := 0) (k := 2) (T := TX0) (v := .ref (ad 173)) C hM (qmem_0 E ad S A b (show qk 171 = 0 from by decide +kernel)) (by decide) rfl hi0 (by decide) hL3 rfl rfl dX0_firstWrong_22 ?_
        refine lv_iload_n hx hb dX0_firstWrong_25 rfl (lv_at hl 0 rfl) ?_
        refine q_iald (v := A 173 k) C hM (show qk 173 = 12 from by decide +kernel) (by rw [(show ql 173 = 15 from by decide +kernel)]; exact vp_nI (by omega) (by omega)) (by rw [nIc (by omega)]) dX0_firstWrong_26 ?_
        refine lv_icmp_eq (tgt := 32) hx hb dX0_firstWrong_27 (by decide) (fun c_27 => ?_) (fun c_27 => ?_)
        · skip
          refine lv_iinc (v := nI (k + 1)) (lv' := [(2, .int (nI (k + 1))), (0, .ref (ad 171)), (1, .ref (ad w))]) hx hb dX0_firstWrong_32 hl (k := 0) rfl (by rw [nI_succ]; rfl) (by decide) rfl (fun ls hl => ?_)
          refine lv_goto (tgt := 2) hx hb dX0_firstWrong_35 (by decide) ?_
          exact ih2 (k + 1) (by omega) (by rw [hv, show nB - k = (nB - (k + 1)) + 1 by omega]; exact if_pos c_27) (by omega) _ _ _ hM hl
        · skip
          refine lv_iload_n hx hb dX0_firstWrong_30 rfl (lv_at hl 0 rfl) ?_
          exact q_iret C hM dX0_firstWrong_31 (by exact ⟨⟨rfl, rfl, rfl⟩, (by rw [hv, show nB - k = (nB - (k + 1)) + 1 by omega]; exact (if_neg c_27).symm)⟩)
  exact loop2 (nB - 0 + 1) 0 (by omega) rfl (Nat.lt_succ_self _) _ _ _ hM hl

set_option maxHeartbeats 4000000 in
set_option maxRecDepth 100000 in
theorem c_X1_below (E : qE) (ad : Nat → Nat) (l : Launch) (S A : qA2) (b : qB) (a1 : Int32) (ha : ¬ a1 ≤ 0) : MI E ad l yX1_below wsX1_below { frames := 0, cells := 0, slots := 0, locals := 0 } [.ref (ad 137), .int a1] S A b (fun r S' A' b' => (S' = q2 S 137 0 (qdraw (S 137 0)) ∧ A = A' ∧ b = b') ∧ r = qrem (qdraw (S 137 0) / 65536) a1) := by
  refine MI.of (cc := cX1_below) (maxL := 2) (ret := some .int) RX1 rfl (by decide) rfl ?_
  intro pg e s m below meth cd C hM
  have hx := C.1
  have hb := C.2.1
  have hts := C.2.2.2.2.1
  have hA : ∀ q, s.heap.size ≤ q → qAr ad s.heap.size q := fun _ h => Or.inr h
  have hi1 : ∀ w ∈ u_ws RX1 TX1 1, w ∈ wsX1_below := by decide +kernel
  have hL0 := hts (.fieldLink RX1 7 "CrowFences$Draws" "seed" "I") (by decide +kernel)
  have hL1 := hts (.constantLong RX1 13 (1103515245)) (by decide +kernel)
  have hL2 := hts (.constantLong RX1 15 (12345)) (by decide +kernel)
  have hL3 := hts (.constantLong RX1 17 (2147483648)) (by decide +kernel)
  have hL4 := hts (.constant RX1 19 (65536)) (by decide +kernel)
  have hl := lv_entry ([.ref (ad 137), .int a1]) (n := 2) (Nat.le_of_ble_eq_true rfl)
  rw [lg_entry_eq]
  generalize (lg_sl ([.ref (ad 137), .int a1]) ++ List.replicate (2 - (lg_sl ([.ref (ad 137), .int a1])).length) Slot.unset).toArray = ls at hl ⊢
  have hl : lv_has ls 2 [(0, .ref (ad 137)), (1, .int a1)] := hl
  refine lv_aload_n hx hb dX1_below_0 rfl (lv_at hl 0 rfl) ?_
  refine lv_aload_n hx hb dX1_below_1 rfl (lv_at hl 0 rfl) ?_
  refine q_get (o := 137) (ci := 1) (k := 0) (T := TX1) (v := .int (S 137 0)) C hM (qmem_1 E ad S A b (show qk 137 = 1 from by decide +kernel)) (by decide) rfl hi1 (by decide) hL0 rfl rfl dX1_below_2 ?_
  refine lv_i2l (v := (S 137 0 : Int32).toInt64) hx hb dX1_below_5 rfl ?_
  refine lv_ldc2 (v := 1103515245) hx hb C.2.2.2.1 hL1 dX1_below_6 ?_
  refine lv_lmul hx hb dX1_below_9 ?_
  refine lv_ldc2 (v := 12345) hx hb C.2.2.2.1 hL2 dX1_below_10 ?_
  refine lv_ladd hx hb dX1_below_13 ?_
  refine lv_ldc2 (v := 2147483648) hx hb C.2.2.2.1 hL3 dX1_below_14 ?_
  refine lv_lrem hx hb dX1_below_17 (by decide) ?_
  refine lv_l2i (v := (((((S 137 0 : Int32).toInt64) * 1103515245) + 12345) - ((((S 137 0 : Int32).toInt64) * 1103515245) + 12345) / 2147483648 * 2147483648 : Int64).toInt32) hx hb dX1_below_18 rfl ?_
  refine lv_topi (fun v_1 ev_1 => ?_)
  refine q_put (o := 137) (ci := 1) (k := 0) (T := TX1) (ty := .int) (v := v_1) C hM (qmem_1 E ad S A b (show qk 137 = 1 from by decide +kernel)) (by decide) rfl hi1 tyX1 tyX1_ok nmX1 (by decide) hL0 rfl rfl (by decide +kernel) rfl rfl (Nat.le_of_ble_eq_true rfl) (qs_1_0 E ad S A b (show qk 137 = 1 from by decide +kernel) v_1) dX1_below_19 (fun H locs hM => ?_)
  obtain ⟨S_2, eS_2⟩ : ∃ zz, zz = q2 S 137 0 v_1 := ⟨_, rfl⟩
  rw [← eS_2] at hM
  refine lv_iload_n hx hb dX1_below_22 rfl (lv_at hl 1 rfl) ?_
  refine lv_if_le (tgt := 38) hx hb dX1_below_23 (by decide) (fun c_23 => ?_) (fun c_23 => ?_)
  · skip
    exact absurd c_23 ha
  · skip
    refine lv_aload_n hx hb dX1_below_26 rfl (lv_at hl 0 rfl) ?_
    refine q_get (o := 137) (ci := 1) (k := 0) (T := TX1) (v := .int v_1) C hM (qmem_1 E ad S_2 A b (show qk 137 = 1 from by decide +kernel)) (by decide) rfl hi1 (by decide) hL0 rfl (congrArg (fun z => some (Value.int z)) (show S_2 137 0 = v_1 from by rw [eS_2]; exact q2_s _ _ _ _)) dX1_below_27 ?_
    refine lv_ldc (v := 65536) hx hb C.2.2.2.1 hL4 dX1_below_30 ?_
    refine lv_idiv hx hb dX1_below_32 (by decide) ?_
    refine lv_iload_n hx hb dX1_below_33 rfl (lv_at hl 1 rfl) ?_
    refine lv_irem hx hb dX1_below_34 (fun z => ha (by rw [z]; decide)) ?_
    refine lv_goto (tgt := 39) hx hb dX1_below_35 (by decide) ?_
    exact q_iret C hM dX1_below_39 (by exact ⟨⟨by rw [eS_2, ev_1]; rfl, rfl, rfl⟩, by rw [ev_1]; rfl⟩)

set_option maxHeartbeats 4000000 in
set_option maxRecDepth 100000 in
theorem c_X4_note (E : qE) (ad : Nat → Nat) (l : Launch) (S A : qA2) (b : qB) (nw nc : Nat) (hnw : S 15 2 = nI nw) (hnwb : nw < 20) (hnc : S 15 1 = nI nc) (hncb : nc ≤ 20) : MV E ad l yX4_note wsX4_note { frames := 2, cells := 0, slots := 0, locals := 39 } [.ref (ad 15), .ref (ad 3)] S A b (fun S' A' b' => b = b' ∧ (∀ w, w = 17 + 6 * ((nw + 1) % 20) → (((∀ k, k < 12 → A' (w + 1) k = A 4 k) ∧ (∀ k, k < 6 → A' (w + 2) k = A 5 k) ∧ (∀ k, k < 6 → A' (w + 3) k = A 6 k) ∧ (∀ k, k < 5 → A' (w + 4) k = A 7 k) ∧ (∀ k, k < 5 → A' (w + 5) k = A 8 k)) ∧ (S' w 5 = S 3 5 ∧ S' w 6 = S 3 6 ∧ S' w 7 = S 3 7)) ∧ (∀ i, (i ≤ w ∨ w + 5 < i) → A' i = A i) ∧ (∀ i, i ≠ w → i ≠ 15 → S' i = S i)) ∧ S' 15 2 = nI ((nw + 1) % 20) ∧ S' 15 1 = nI (min (nc + 1) 20) ∧ S' 15 0 = S 15 0) := by
  refine MV.of (cc := cX4_note) (maxL := 2) (ret := none) RX4 rfl (by decide) rfl ?_
  intro pg e s m below meth cd C hM
  have hx := C.1
  have hb := C.2.1
  have hts := C.2.2.2.2.1
  have hA : ∀ q, s.heap.size ≤ q → qAr ad s.heap.size q := fun _ h => Or.inr h
  have hi4 : ∀ w ∈ u_ws RX4 TX4 3, w ∈ wsX4_note := by decide +kernel
  have hL0 := hts (.fieldLink RX4 18 "CrowFences$Past" "newest" "I") (by decide +kernel)
  have hL1 := hts (.fieldLink RX4 11 "CrowFences$Past" "ahead" "[LCrowFences$Winter;") (by decide +kernel)
  have hL2 := hts (.fieldLink RX4 26 "CrowFences$Past" "count" "I") (by decide +kernel)
  have hL3 := hts (.methodLink RX4 29 Lib.Math.min.name) (by decide +kernel)
  have hL4 := hts (.static Lib.Math.min.name) (by decide +kernel)
  have hL5 := hts (.initialized "java/lang/Math") (by decide +kernel)
  have hL6 := hts (.code Lib.Math.min.name Lib.Math.min.code 2 (some .int)) (by decide +kernel)
  have hl := lv_entry ([.ref (ad 15), .ref (ad 3)]) (n := 2) (Nat.le_of_ble_eq_true rfl)
  rw [lg_entry_eq]
  generalize (lg_sl ([.ref (ad 15), .ref (ad 3)]) ++ List.replicate (2 - (lg_sl ([.ref (ad 15), .ref (ad 3)])).length) Slot.unset).toArray = ls at hl ⊢
  have hl : lv_has ls 2 [(0, .ref (ad 15)), (1, .ref (ad 3))] := hl
  refine lv_aload_n hx hb dX4_note_0 rfl (lv_at hl 0 rfl) ?_
  refine lv_aload_n hx hb dX4_note_1 rfl (lv_at hl 0 rfl) ?_
  refine q_get (o := 15) (ci := 4) (k := 2) (T := TX4) (v := .int (S 15 2)) C hM (qmem_4 E ad S A b (show qk 15 = 4 from by decide +kernel)) (by decide) rfl hi4 (by decide) hL0 rfl rfl dX4_note_2 ?_
  refine lv_as (y := nI nw) hnw ?_
  refine lv_iconst (v := 1) hx hb dX4_note_5 (by decide) ?_
  refine lv_iadd hx hb dX4_note_6 ?_
  refine lv_as (y := nI (nw + 1)) (nI_add _ _) ?_
  refine lv_bipush (v := 20) hx hb dX4_note_7 (by decide) ?_
  refine lv_irem hx hb dX4_note_9 (by decide) ?_
  refine lv_as (y := nI ((nw + 1) % 20)) (pk_rem (d := 20) (by omega) (by omega) (by omega)) ?_
  refine q_put (o := 15) (ci := 4) (k := 2) (T := TX4) (ty := .int) (v := nI ((nw + 1) % 20)) C hM (qmem_4 E ad S A b (show qk 15 = 4 from by decide +kernel)) (by decide) rfl hi4 tyX4 tyX4_ok nmX4 (by decide) hL0 rfl rfl (by decide +kernel) rfl rfl (Nat.le_of_ble_eq_true rfl) (qs_4_2 E ad S A b (show qk 15 = 4 from by decide +kernel) (nI ((nw + 1) % 20))) dX4_note_10 (fun H locs hM => ?_)
  obtain ⟨S_1, eS_1⟩ : ∃ zz, zz = q2 S 15 2 (nI ((nw + 1) % 20)) := ⟨_, rfl⟩
  rw [← eS_1] at hM
  refine lv_aload_n hx hb dX4_note_13 rfl (lv_at hl 0 rfl) ?_
  refine q_get (o := 15) (ci := 4) (k := 0) (T := TX4) (v := .ref (ad 16)) C hM (qmem_4 E ad S_1 A b (show qk 15 = 4 from by decide +kernel)) (by decide) rfl hi4 (by decide) hL1 rfl rfl dX4_note_14 ?_
  refine lv_aload_n hx hb dX4_note_17 rfl (lv_at hl 0 rfl) ?_
  refine q_get (o := 15) (ci := 4) (k := 2) (T := TX4) (v := .int (nI ((nw + 1) % 20))) C hM (qmem_4 E ad S_1 A b (show qk 15 = 4 from by decide +kernel)) (by decide) rfl hi4 (by decide) hL0 rfl (congrArg (fun z => some (Value.int z)) (show S_1 15 2 = nI ((nw + 1) % 20) from by rw [eS_1]; exact q2_s _ _ _ _)) dX4_note_18 ?_
  refine q_aald15 (k := (nw + 1) % 20) C hM (show qk 16 = 15 from by decide +kernel) (by rw [show ql 16 = 20 from by decide +kernel]; exact vp_nI (by omega) (by omega)) (nIc (by omega)) dX4_note_21 ?_
  obtain ⟨w, ew⟩ : ∃ y, y = 17 + 6 * ((nw + 1) % 20) := ⟨_, rfl⟩
  rw [← ew]
  have hw : qw w := by rw [ew]; exact qpast_w (by omega)
  obtain ⟨⟨kw, kw1, kw2, kw3, kw4, kw5⟩, ⟨lw1, lw2, lw3, lw4, lw5⟩, bw, bw6⟩ := qw_all hw
  refine lv_aload_n hx hb dX4_note_22 rfl (lv_at hl 1 rfl) ?_
  refine q_callVV (n := 1) (o := w) (As := [.ref (ad 3)]) (rest := []) C hM hA (c_X9_copyFrom E ad l S_1 A b w hw 3 (show 3 ∈ qwL from by decide +kernel) (by omega)) (qmem_9 E ad S_1 A b kw) (by omega) rfl gX4_note_X9_copyFrom rfl rfl rfl (by decide +kernel) ⟨Nat.le_of_ble_eq_true rfl, Nat.le_of_ble_eq_true rfl⟩ rfl hl.1 rfl (Nat.le_of_ble_eq_true rfl) ⟨Nat.zero_le _, Nat.zero_le _⟩ dX4_note_23 (fun S_3 A_4 b_5 H locs qr_2 hM => ?_)
  obtain ⟨e3, hwA_4, hfA_4, hsS_3, hgS_3⟩ := qr_2
  subst e3
  simp only [Nat.add_assoc, Nat.reduceAdd] at hwA_4 hfA_4
  refine lv_aload_n hx hb dX4_note_26 rfl (lv_at hl 0 rfl) ?_
  refine lv_bipush (v := 20) hx hb dX4_note_27 (by decide) ?_
  refine lv_aload_n hx hb dX4_note_29 rfl (lv_at hl 0 rfl) ?_
  refine q_get (o := 15) (ci := 4) (k := 1) (T := TX4) (v := .int (S 15 1)) C hM (qmem_4 E ad S_3 A_4 b (show qk 15 = 4 from by decide +kernel)) (by decide) rfl hi4 (by decide) hL2 rfl (congrArg (fun z => some (Value.int z)) (show S_3 15 1 = S 15 1 from by rw [hgS_3 15 (by omega)]; rw [eS_1, q2_k _ _ (by omega)])) dX4_note_30 ?_
  refine lv_as (y := nI nc) hnc ?_
  refine lv_iconst (v := 1) hx hb dX4_note_33 (by decide) ?_
  refine lv_iadd hx hb dX4_note_34 ?_
  refine lv_as (y := nI (nc + 1)) (nI_add _ _) ?_
  refine va_mmin hx hb (C.2.2.1.trans hl.1.symm) C.2.2.2.1 hL3 hL4 hL5 hL6 (Nat.le_of_ble_eq_true rfl) (Nat.le_of_ble_eq_true rfl) (Nat.zero_le _) (Nat.zero_le _) dX4_note_35 ?_
  refine lv_as (y := nI (min (nc + 1) 20)) (q_min20 (by omega)) ?_
  refine q_put (o := 15) (ci := 4) (k := 1) (T := TX4) (ty := .int) (v := nI (min (nc + 1) 20)) C hM (qmem_4 E ad S_3 A_4 b (show qk 15 = 4 from by decide +kernel)) (by decide) rfl hi4 tyX4 tyX4_ok nmX4 (by decide) hL2 rfl rfl (by decide +kernel) rfl rfl (Nat.le_of_ble_eq_true rfl) (qs_4_1 E ad S_3 A_4 b (show qk 15 = 4 from by decide +kernel) (nI (min (nc + 1) 20))) dX4_note_38 (fun H locs hM => ?_)
  obtain ⟨S_6, eS_6⟩ : ∃ zz, zz = q2 S_3 15 1 (nI (min (nc + 1) 20)) := ⟨_, rfl⟩
  rw [← eS_6] at hM
  exact q_vret C hM dX4_note_41 (by subst ew; exact ⟨rfl, fun w ew2 => by subst ew2; exact ⟨⟨hwA_4, by rw [eS_6, q2_o _ _ (by omega), hsS_3.1, eS_1, q2_o _ _ (by omega)], by rw [eS_6, q2_o _ _ (by omega), hsS_3.2.1, eS_1, q2_o _ _ (by omega)], by rw [eS_6, q2_o _ _ (by omega), hsS_3.2.2, eS_1, q2_o _ _ (by omega)]⟩, hfA_4, fun i h1 h2 => by rw [eS_6, q2_or _ _ h2, hgS_3 i h1, eS_1, q2_or _ _ h2]⟩, by rw [eS_6, q2_k _ _ (by omega), hgS_3 15 (by omega), eS_1, q2_s], by rw [eS_6, q2_s], by rw [eS_6, q2_k _ _ (by omega), hgS_3 15 (by omega), eS_1, q2_k _ _ (by omega)]⟩)

set_option maxHeartbeats 4000000 in
set_option maxRecDepth 100000 in
theorem c_X4_bringBack (E : qE) (ad : Nat → Nat) (l : Launch) (S A : qA2) (b : qB) (nw nc : Nat) (hnw : S 15 2 = nI nw) (hnwb : nw < 20) (hnc : S 15 1 = nI nc) (hncb : nc ≤ 20) (hnc1 : 1 ≤ nc) : MV E ad l yX4_bringBack wsX4_bringBack { frames := 2, cells := 0, slots := 0, locals := 39 } [.ref (ad 15), .ref (ad 3)] S A b (fun S' A' b' => b = b' ∧ (∀ w, w = 17 + 6 * nw → ((∀ k, k < 12 → A' 4 k = A (w + 1) k) ∧ (∀ k, k < 6 → A' 5 k = A (w + 2) k) ∧ (∀ k, k < 6 → A' 6 k = A (w + 3) k) ∧ (∀ k, k < 5 → A' 7 k = A (w + 4) k) ∧ (∀ k, k < 5 → A' 8 k = A (w + 5) k)) ∧ (S' 3 5 = S w 5 ∧ S' 3 6 = S w 6 ∧ S' 3 7 = S w 7)) ∧ (∀ i, (i ≤ 3 ∨ 8 < i) → A' i = A i) ∧ (∀ i, i ≠ 3 → i ≠ 15 → S' i = S i) ∧ S' 15 2 = nI ((nw + 19) % 20) ∧ S' 15 1 = nI (nc - 1) ∧ S' 15 0 = S 15 0) := by
  refine MV.of (cc := cX4_bringBack) (maxL := 2) (ret := none) RX4 rfl (by decide) rfl ?_
  intro pg e s m below meth cd C hM
  have hx := C.1
  have hb := C.2.1
  have hts := C.2.2.2.2.1
  have hA : ∀ q, s.heap.size ≤ q → qAr ad s.heap.size q := fun _ h => Or.inr h
  have hi4 : ∀ w ∈ u_ws RX4 TX4 3, w ∈ wsX4_bringBack := by decide +kernel
  have hL0 := hts (.fieldLink RX4 11 "CrowFences$Past" "ahead" "[LCrowFences$Winter;") (by decide +kernel)
  have hL1 := hts (.fieldLink RX4 18 "CrowFences$Past" "newest" "I") (by decide +kernel)
  have hL2 := hts (.fieldLink RX4 26 "CrowFences$Past" "count" "I") (by decide +kernel)
  have hl := lv_entry ([.ref (ad 15), .ref (ad 3)]) (n := 2) (Nat.le_of_ble_eq_true rfl)
  rw [lg_entry_eq]
  generalize (lg_sl ([.ref (ad 15), .ref (ad 3)]) ++ List.replicate (2 - (lg_sl ([.ref (ad 15), .ref (ad 3)])).length) Slot.unset).toArray = ls at hl ⊢
  have hl : lv_has ls 2 [(0, .ref (ad 15)), (1, .ref (ad 3))] := hl
  refine lv_aload_n hx hb dX4_bringBack_0 rfl (lv_at hl 1 rfl) ?_
  refine lv_aload_n hx hb dX4_bringBack_1 rfl (lv_at hl 0 rfl) ?_
  refine q_get (o := 15) (ci := 4) (k := 0) (T := TX4) (v := .ref (ad 16)) C hM (qmem_4 E ad S A b (show qk 15 = 4 from by decide +kernel)) (by decide) rfl hi4 (by decide) hL0 rfl rfl dX4_bringBack_2 ?_
  refine lv_aload_n hx hb dX4_bringBack_5 rfl (lv_at hl 0 rfl) ?_
  refine q_get (o := 15) (ci := 4) (k := 2) (T := TX4) (v := .int (S 15 2)) C hM (qmem_4 E ad S A b (show qk 15 = 4 from by decide +kernel)) (by decide) rfl hi4 (by decide) hL1 rfl rfl dX4_bringBack_6 ?_
  refine lv_as (y := nI nw) hnw ?_
  refine q_aald15 (k := nw) C hM (show qk 16 = 15 from by decide +kernel) (by rw [show ql 16 = 20 from by decide +kernel]; exact vp_nI (by omega) (by omega)) (nIc (by omega)) dX4_bringBack_9 ?_
  obtain ⟨w, ew⟩ : ∃ y, y = 17 + 6 * (nw) := ⟨_, rfl⟩
  rw [← ew]
  have hw : qw w := by rw [ew]; exact qpast_w (by omega)
  obtain ⟨⟨kw, kw1, kw2, kw3, kw4, kw5⟩, ⟨lw1, lw2, lw3, lw4, lw5⟩, bw, bw6⟩ := qw_all hw
  refine q_callVV (n := 1) (o := 3) (As := [.ref (ad w)]) (rest := []) C hM hA (c_X9_copyFrom E ad l S A b 3 (show 3 ∈ qwL from by decide +kernel) w hw (by omega)) (qmem_9 E ad S A b (show qk 3 = 9 from by decide +kernel)) (by decide) rfl gX4_bringBack_X9_copyFrom rfl rfl rfl (by decide +kernel) ⟨Nat.le_of_ble_eq_true rfl, Nat.le_of_ble_eq_true rfl⟩ rfl hl.1 rfl (Nat.le_of_ble_eq_true rfl) ⟨Nat.zero_le _, Nat.zero_le _⟩ dX4_bringBack_10 (fun S_2 A_3 b_4 H locs qr_1 hM => ?_)
  obtain ⟨e3, hwA_3, hfA_3, hsS_2, hgS_2⟩ := qr_1
  subst e3
  simp only [Nat.add_assoc, Nat.reduceAdd] at hwA_3 hfA_3
  refine lv_aload_n hx hb dX4_bringBack_13 rfl (lv_at hl 0 rfl) ?_
  refine lv_aload_n hx hb dX4_bringBack_14 rfl (lv_at hl 0 rfl) ?_
  refine q_get (o := 15) (ci := 4) (k := 2) (T := TX4) (v := .int (S 15 2)) C hM (qmem_4 E ad S_2 A_3 b (show qk 15 = 4 from by decide +kernel)) (by decide) rfl hi4 (by decide) hL1 rfl (congrArg (fun z => some (Value.int z)) (show S_2 15 2 = S 15 2 from by rw [hgS_2 15 (by omega)])) dX4_bringBack_15 ?_
  refine lv_as (y := nI nw) hnw ?_
  refine lv_bipush (v := 20) hx hb dX4_bringBack_18 (by decide) ?_
  refine lv_iadd hx hb dX4_bringBack_20 ?_
  refine lv_as (y := nI (nw + 20)) (nI_add _ _) ?_
  refine lv_iconst (v := 1) hx hb dX4_bringBack_21 (by decide) ?_
  refine lv_isub hx hb dX4_bringBack_22 ?_
  refine lv_as (y := nI ((nw + 20) - 1)) (pk_sub (a := nw + 20) (b := 1) (by omega)) ?_
  refine lv_bipush (v := 20) hx hb dX4_bringBack_23 (by decide) ?_
  refine lv_irem hx hb dX4_bringBack_25 (by decide) ?_
  refine lv_as (y := nI ((nw + 20 - 1) % 20)) (pk_rem (d := 20) (by omega) (by omega) (by omega)) ?_
  refine q_put (o := 15) (ci := 4) (k := 2) (T := TX4) (ty := .int) (v := nI ((nw + 20 - 1) % 20)) C hM (qmem_4 E ad S_2 A_3 b (show qk 15 = 4 from by decide +kernel)) (by decide) rfl hi4 tyX4 tyX4_ok nmX4 (by decide) hL1 rfl rfl (by decide +kernel) rfl rfl (Nat.le_of_ble_eq_true rfl) (qs_4_2 E ad S_2 A_3 b (show qk 15 = 4 from by decide +kernel) (nI ((nw + 20 - 1) % 20))) dX4_bringBack_26 (fun H locs hM => ?_)
  obtain ⟨S_5, eS_5⟩ : ∃ zz, zz = q2 S_2 15 2 (nI ((nw + 20 - 1) % 20)) := ⟨_, rfl⟩
  rw [← eS_5] at hM
  refine lv_aload_n hx hb dX4_bringBack_29 rfl (lv_at hl 0 rfl) ?_
  refine lv_dup hx hb dX4_bringBack_30 rfl ?_
  refine q_get (o := 15) (ci := 4) (k := 1) (T := TX4) (v := .int (S 15 1)) C hM (qmem_4 E ad S_5 A_3 b (show qk 15 = 4 from by decide +kernel)) (by decide) rfl hi4 (by decide) hL2 rfl (congrArg (fun z => some (Value.int z)) (show S_5 15 1 = S 15 1 from by rw [eS_5, q2_k _ _ (by omega)]; rw [hgS_2 15 (by omega)])) dX4_bringBack_31 ?_
  refine lv_as (y := nI nc) hnc ?_
  refine lv_iconst (v := 1) hx hb dX4_bringBack_34 (by decide) ?_
  refine lv_isub hx hb dX4_bringBack_35 ?_
  refine lv_as (y := nI (nc - 1)) (pk_sub (a := nc) (b := 1) (by omega)) ?_
  refine q_put (o := 15) (ci := 4) (k := 1) (T := TX4) (ty := .int) (v := nI (nc - 1)) C hM (qmem_4 E ad S_5 A_3 b (show qk 15 = 4 from by decide +kernel)) (by decide) rfl hi4 tyX4 tyX4_ok nmX4 (by decide) hL2 rfl rfl (by decide +kernel) rfl rfl (Nat.le_of_ble_eq_true rfl) (qs_4_1 E ad S_5 A_3 b (show qk 15 = 4 from by decide +kernel) (nI (nc - 1))) dX4_bringBack_36 (fun H locs hM => ?_)
  obtain ⟨S_6, eS_6⟩ : ∃ zz, zz = q2 S_5 15 1 (nI (nc - 1)) := ⟨_, rfl⟩
  rw [← eS_6] at hM
  exact q_vret C hM dX4_bringBack_39 (by subst ew; exact ⟨rfl, fun w ew2 => by subst ew2; exact ⟨hwA_3, by rw [eS_6, q2_o _ _ (by omega), eS_5, q2_o _ _ (by omega), hsS_2.1], by rw [eS_6, q2_o _ _ (by omega), eS_5, q2_o _ _ (by omega), hsS_2.2.1], by rw [eS_6, q2_o _ _ (by omega), eS_5, q2_o _ _ (by omega), hsS_2.2.2]⟩, hfA_3, fun i h1 h2 => by rw [eS_6, q2_or _ _ h2, eS_5, q2_or _ _ h2, hgS_2 i h1], by rw [eS_6, q2_k _ _ (by omega), eS_5, q2_s, show nw + 20 - 1 = nw + 19 by omega], by rw [eS_6, q2_s], by rw [eS_6, q2_k _ _ (by omega), eS_5, q2_k _ _ (by omega), hgS_2 15 (by omega)]⟩)

set_option maxHeartbeats 4000000 in
set_option maxRecDepth 100000 in
theorem c_X4_forget (E : qE) (ad : Nat → Nat) (l : Launch) (S A : qA2) (b : qB) : MV E ad l yX4_forget wsX4_forget { frames := 0, cells := 0, slots := 0, locals := 0 } [.ref (ad 15)] S A b (fun S' A' b' => S' = q2 S 15 1 0 ∧ A' = A ∧ b = b') := by
  refine MV.of (cc := cX4_forget) (maxL := 1) (ret := none) RX4 rfl (by decide) rfl ?_
  intro pg e s m below meth cd C hM
  have hx := C.1
  have hb := C.2.1
  have hts := C.2.2.2.2.1
  have hA : ∀ q, s.heap.size ≤ q → qAr ad s.heap.size q := fun _ h => Or.inr h
  have hi4 : ∀ w ∈ u_ws RX4 TX4 3, w ∈ wsX4_forget := by decide +kernel
  have hL0 := hts (.fieldLink RX4 26 "CrowFences$Past" "count" "I") (by decide +kernel)
  have hl := lv_entry ([.ref (ad 15)]) (n := 1) (Nat.le_of_ble_eq_true rfl)
  rw [lg_entry_eq]
  generalize (lg_sl ([.ref (ad 15)]) ++ List.replicate (1 - (lg_sl ([.ref (ad 15)])).length) Slot.unset).toArray = ls at hl ⊢
  have hl : lv_has ls 1 [(0, .ref (ad 15))] := hl
  refine lv_aload_n hx hb dX4_forget_0 rfl (lv_at hl 0 rfl) ?_
  refine lv_iconst (v := 0) hx hb dX4_forget_1 (by decide) ?_
  refine q_put (o := 15) (ci := 4) (k := 1) (T := TX4) (ty := .int) (v := 0) C hM (qmem_4 E ad S A b (show qk 15 = 4 from by decide +kernel)) (by decide) rfl hi4 tyX4 tyX4_ok nmX4 (by decide) hL0 rfl rfl (by decide +kernel) rfl rfl (Nat.le_of_ble_eq_true rfl) (qs_4_1 E ad S A b (show qk 15 = 4 from by decide +kernel) 0) dX4_forget_2 (fun H locs hM => ?_)
  obtain ⟨S_1, eS_1⟩ : ∃ zz, zz = q2 S 15 1 0 := ⟨_, rfl⟩
  rw [← eS_1] at hM
  exact q_vret C hM dX4_forget_5 (by subst_vars; exact ⟨rfl, rfl, rfl⟩)

set_option maxHeartbeats 4000000 in
set_option maxRecDepth 100000 in
theorem c_X2_take (E : qE) (ad : Nat → Nat) (l : Launch) (S A : qA2) (b : qB) (g : Nat) (hg : qg g) : MV E ad l yX2_take wsX2_take { frames := 2, cells := 0, slots := 0, locals := 39 } [.ref (ad g), .ref (ad 3), .ref (ad 137)] S A b (fun S' A' b' => b = b' ∧ (((∀ k, k < 12 → A' (g + 2) k = A 4 k) ∧ (∀ k, k < 6 → A' (g + 3) k = A 5 k) ∧ (∀ k, k < 6 → A' (g + 4) k = A 6 k) ∧ (∀ k, k < 5 → A' (g + 5) k = A 7 k) ∧ (∀ k, k < 5 → A' (g + 6) k = A 8 k)) ∧ (S' (g + 1) 5 = S 3 5 ∧ S' (g + 1) 6 = S 3 6 ∧ S' (g + 1) 7 = S 3 7)) ∧ (∀ i, (i ≤ g + 1 ∨ g + 6 < i) → A' i = A i) ∧ (∀ i, i ≠ g → i ≠ g + 1 → S' i = S i) ∧ S' g 1 = S 137 0 ∧ S' g 2 = 1 ∧ S' g 0 = S g 0) := by
  obtain ⟨kg, hg1, hg01⟩ := qg_all hg
  have kg1 := (qw_all hg1).1.1
  refine MV.of (cc := cX2_take) (maxL := 3) (ret := none) RX2 rfl (by decide) rfl ?_
  intro pg e s m below meth cd C hM
  have hx := C.1
  have hb := C.2.1
  have hts := C.2.2.2.2.1
  have hA : ∀ q, s.heap.size ≤ q → qAr ad s.heap.size q := fun _ h => Or.inr h
  have hi1 : ∀ w ∈ u_ws RX1 TX1 1, w ∈ wsX2_take := by decide +kernel
  have hi2 : ∀ w ∈ u_ws RX2 TX2 3, w ∈ wsX2_take := by decide +kernel
  have hL0 := hts (.fieldLink RX2 10 "CrowFences$Image" "winter" "LCrowFences$Winter;") (by decide +kernel)
  have hL1 := hts (.fieldLink RX2 20 "CrowFences$Draws" "seed" "I") (by decide +kernel)
  have hL2 := hts (.fieldLink RX2 26 "CrowFences$Image" "seed" "I") (by decide +kernel)
  have hL3 := hts (.fieldLink RX2 27 "CrowFences$Image" "kept" "Z") (by decide +kernel)
  have hl := lv_entry ([.ref (ad g), .ref (ad 3), .ref (ad 137)]) (n := 3) (Nat.le_of_ble_eq_true rfl)
  rw [lg_entry_eq]
  generalize (lg_sl ([.ref (ad g), .ref (ad 3), .ref (ad 137)]) ++ List.replicate (3 - (lg_sl ([.ref (ad g), .ref (ad 3), .ref (ad 137)])).length) Slot.unset).toArray = ls at hl ⊢
  have hl : lv_has ls 3 [(0, .ref (ad g)), (1, .ref (ad 3)), (2, .ref (ad 137))] := hl
  refine lv_aload_n hx hb dX2_take_0 rfl (lv_at hl 0 rfl) ?_
  refine q_get (o := g) (ci := 2) (k := 0) (T := TX2) (v := .ref (ad (g + 1))) C hM (qmem_2 E ad S A b kg) (by omega) rfl hi2 (by decide) hL0 rfl rfl dX2_take_1 ?_
  refine lv_aload_n hx hb dX2_take_4 rfl (lv_at hl 1 rfl) ?_
  refine q_callVV (n := 1) (o := g + 1) (As := [.ref (ad 3)]) (rest := []) C hM hA (c_X9_copyFrom E ad l S A b (g + 1) hg1 3 (show 3 ∈ qwL from by decide +kernel) (by omega)) (qmem_9 E ad S A b kg1) (by omega) rfl gX2_take_X9_copyFrom rfl rfl rfl (by decide +kernel) ⟨Nat.le_of_ble_eq_true rfl, Nat.le_of_ble_eq_true rfl⟩ rfl hl.1 rfl (Nat.le_of_ble_eq_true rfl) ⟨Nat.zero_le _, Nat.zero_le _⟩ dX2_take_5 (fun S_2 A_3 b_4 H locs qr_1 hM => ?_)
  obtain ⟨e3, hwA_3, hfA_3, hsS_2, hgS_2⟩ := qr_1
  subst e3
  simp only [Nat.add_assoc, Nat.reduceAdd] at hwA_3 hfA_3
  refine lv_aload_n hx hb dX2_take_8 rfl (lv_at hl 0 rfl) ?_
  refine lv_aload_n hx hb dX2_take_9 rfl (lv_at hl 2 rfl) ?_
  refine q_get (o := 137) (ci := 1) (k := 0) (T := TX1) (v := .int (S 137 0)) C hM (qmem_1 E ad S_2 A_3 b (show qk 137 = 1 from by decide +kernel)) (by decide) rfl hi1 (by decide) hL1 rfl (congrArg (fun z => some (Value.int z)) (show S_2 137 0 = S 137 0 from by rw [hgS_2 137 (by omega)])) dX2_take_10 ?_
  refine q_put (o := g) (ci := 2) (k := 1) (T := TX2) (ty := .int) (v := S 137 0) C hM (qmem_2 E ad S_2 A_3 b kg) (by omega) rfl hi2 tyX2 tyX2_ok nmX2 (by decide) hL2 rfl rfl (by decide +kernel) rfl rfl (Nat.le_of_ble_eq_true rfl) (qs_2_1 E ad S_2 A_3 b kg (S 137 0)) dX2_take_13 (fun H locs hM => ?_)
  obtain ⟨S_5, eS_5⟩ : ∃ zz, zz = q2 S_2 g 1 (S 137 0) := ⟨_, rfl⟩
  rw [← eS_5] at hM
  refine lv_aload_n hx hb dX2_take_16 rfl (lv_at hl 0 rfl) ?_
  refine lv_iconst (v := 1) hx hb dX2_take_17 (by decide) ?_
  refine q_put (o := g) (ci := 2) (k := 2) (T := TX2) (ty := .boolean) (v := 1) C hM (qmem_2 E ad S_5 A_3 b kg) (by omega) rfl hi2 tyX2 tyX2_ok nmX2 (by decide) hL3 rfl rfl (by decide +kernel) rfl rfl (Nat.le_of_ble_eq_true rfl) (qs_2_2 E ad S_5 A_3 b kg 1) dX2_take_18 (fun H locs hM => ?_)
  obtain ⟨S_6, eS_6⟩ : ∃ zz, zz = q2 S_5 g 2 1 := ⟨_, rfl⟩
  rw [← eS_6] at hM
  exact q_vret C hM dX2_take_21 (by exact ⟨rfl, ⟨hwA_3, by rw [eS_6, q2_o _ _ (by omega), eS_5, q2_o _ _ (by omega)]; exact hsS_2.1, by rw [eS_6, q2_o _ _ (by omega), eS_5, q2_o _ _ (by omega)]; exact hsS_2.2.1, by rw [eS_6, q2_o _ _ (by omega), eS_5, q2_o _ _ (by omega)]; exact hsS_2.2.2⟩, (fun i hi => hfA_3 i (by omega)), (fun i h1 h2 => by rw [eS_6, q2_or _ _ h1, eS_5, q2_or _ _ h1, hgS_2 i h2]), by rw [eS_6, q2_k _ _ (by omega), eS_5, q2_s], by rw [eS_6, q2_s], by rw [eS_6, q2_k _ _ (by omega), eS_5, q2_k _ _ (by omega), hgS_2 g (by omega)]⟩)

set_option maxHeartbeats 4000000 in
set_option maxRecDepth 100000 in
theorem c_X2_give (E : qE) (ad : Nat → Nat) (l : Launch) (S A : qA2) (b : qB) (g : Nat) (hg : qg g) : MV E ad l yX2_give wsX2_give { frames := 2, cells := 0, slots := 0, locals := 39 } [.ref (ad g), .ref (ad 3), .ref (ad 137)] S A b (fun S' A' b' => b = b' ∧ (((∀ k, k < 12 → A' 4 k = A (g + 2) k) ∧ (∀ k, k < 6 → A' 5 k = A (g + 3) k) ∧ (∀ k, k < 6 → A' 6 k = A (g + 4) k) ∧ (∀ k, k < 5 → A' 7 k = A (g + 5) k) ∧ (∀ k, k < 5 → A' 8 k = A (g + 6) k)) ∧ (S' 3 5 = S (g + 1) 5 ∧ S' 3 6 = S (g + 1) 6 ∧ S' 3 7 = S (g + 1) 7)) ∧ (∀ i, (i ≤ 3 ∨ 8 < i) → A' i = A i) ∧ (∀ i, i ≠ 3 → i ≠ 137 → S' i = S i) ∧ S' 137 0 = S g 1) := by
  obtain ⟨kg, hg1, hg01⟩ := qg_all hg
  have kg1 := (qw_all hg1).1.1
  refine MV.of (cc := cX2_give) (maxL := 3) (ret := none) RX2 rfl (by decide) rfl ?_
  intro pg e s m below meth cd C hM
  have hx := C.1
  have hb := C.2.1
  have hts := C.2.2.2.2.1
  have hA : ∀ q, s.heap.size ≤ q → qAr ad s.heap.size q := fun _ h => Or.inr h
  have hi1 : ∀ w ∈ u_ws RX1 TX1 1, w ∈ wsX2_give := by decide +kernel
  have hi2 : ∀ w ∈ u_ws RX2 TX2 3, w ∈ wsX2_give := by decide +kernel
  have hL0 := hts (.fieldLink RX2 10 "CrowFences$Image" "winter" "LCrowFences$Winter;") (by decide +kernel)
  have hL1 := hts (.fieldLink RX2 26 "CrowFences$Image" "seed" "I") (by decide +kernel)
  have hL2 := hts (.fieldLink RX2 20 "CrowFences$Draws" "seed" "I") (by decide +kernel)
  have hl := lv_entry ([.ref (ad g), .ref (ad 3), .ref (ad 137)]) (n := 3) (Nat.le_of_ble_eq_true rfl)
  rw [lg_entry_eq]
  generalize (lg_sl ([.ref (ad g), .ref (ad 3), .ref (ad 137)]) ++ List.replicate (3 - (lg_sl ([.ref (ad g), .ref (ad 3), .ref (ad 137)])).length) Slot.unset).toArray = ls at hl ⊢
  have hl : lv_has ls 3 [(0, .ref (ad g)), (1, .ref (ad 3)), (2, .ref (ad 137))] := hl
  refine lv_aload_n hx hb dX2_give_0 rfl (lv_at hl 1 rfl) ?_
  refine lv_aload_n hx hb dX2_give_1 rfl (lv_at hl 0 rfl) ?_
  refine q_get (o := g) (ci := 2) (k := 0) (T := TX2) (v := .ref (ad (g + 1))) C hM (qmem_2 E ad S A b kg) (by omega) rfl hi2 (by decide) hL0 rfl rfl dX2_give_2 ?_
  refine q_callVV (n := 1) (o := 3) (As := [.ref (ad (g + 1))]) (rest := []) C hM hA (c_X9_copyFrom E ad l S A b 3 (show 3 ∈ qwL from by decide +kernel) (g + 1) hg1 (by omega)) (qmem_9 E ad S A b (show qk 3 = 9 from by decide +kernel)) (by decide) rfl gX2_give_X9_copyFrom rfl rfl rfl (by decide +kernel) ⟨Nat.le_of_ble_eq_true rfl, Nat.le_of_ble_eq_true rfl⟩ rfl hl.1 rfl (Nat.le_of_ble_eq_true rfl) ⟨Nat.zero_le _, Nat.zero_le _⟩ dX2_give_5 (fun S_2 A_3 b_4 H locs qr_1 hM => ?_)
  obtain ⟨e3, hwA_3, hfA_3, hsS_2, hgS_2⟩ := qr_1
  subst e3
  simp only [Nat.add_assoc, Nat.reduceAdd] at hwA_3 hfA_3
  refine lv_aload_n hx hb dX2_give_8 rfl (lv_at hl 2 rfl) ?_
  refine lv_aload_n hx hb dX2_give_9 rfl (lv_at hl 0 rfl) ?_
  refine q_get (o := g) (ci := 2) (k := 1) (T := TX2) (v := .int (S g 1)) C hM (qmem_2 E ad S_2 A_3 b kg) (by omega) rfl hi2 (by decide) hL1 rfl (congrArg (fun z => some (Value.int z)) (show S_2 g 1 = S g 1 from by rw [hgS_2 g (by omega)])) dX2_give_10 ?_
  refine q_put (o := 137) (ci := 1) (k := 0) (T := TX1) (ty := .int) (v := S g 1) C hM (qmem_1 E ad S_2 A_3 b (show qk 137 = 1 from by decide +kernel)) (by decide) rfl hi1 tyX1 tyX1_ok nmX1 (by decide) hL2 rfl rfl (by decide +kernel) rfl rfl (Nat.le_of_ble_eq_true rfl) (qs_1_0 E ad S_2 A_3 b (show qk 137 = 1 from by decide +kernel) (S g 1)) dX2_give_13 (fun H locs hM => ?_)
  obtain ⟨S_5, eS_5⟩ : ∃ zz, zz = q2 S_2 137 0 (S g 1) := ⟨_, rfl⟩
  rw [← eS_5] at hM
  exact q_vret C hM dX2_give_16 (by exact ⟨rfl, ⟨hwA_3, by rw [eS_5, q2_o _ _ (by omega)]; exact hsS_2.1, by rw [eS_5, q2_o _ _ (by omega)]; exact hsS_2.2.1, by rw [eS_5, q2_o _ _ (by omega)]; exact hsS_2.2.2⟩, (fun i hi => hfA_3 i (by omega)), (fun i h1 h2 => by rw [eS_5, q2_or _ _ h2, hgS_2 i h1]), by rw [eS_5, q2_s]⟩)

set_option maxHeartbeats 4000000 in
set_option maxRecDepth 100000 in
theorem c_X8_leastFree (E : qE) (ad : Nat → Nat) (l : Launch) (S A : qA2) (b : qB) (y : Nat) (hy : qy y) (f0 : Nat) (nK : Nat) (hK : S y 4 = nI nK) (hKb : nK ≤ 5) (hf0 : f0 ≤ nK) : MI E ad l yX8_leastFree wsX8_leastFree { frames := 0, cells := 0, slots := 0, locals := 0 } [.ref (ad y), .int (nI f0)] S A b (fun r S' A' b' => (S = S' ∧ A = A' ∧ b = b') ∧ r = qleast (S y 5) f0 (nK - f0)) := by
  obtain ⟨⟨ky, ky1⟩, ly1, yb1, yb2⟩ := qy_all hy
  refine MI.of (cc := cX8_leastFree) (maxL := 3) (ret := some .int) RX8 rfl (by decide) rfl ?_
  intro pg e s m below meth cd C hM
  have hx := C.1
  have hb := C.2.1
  have hts := C.2.2.2.2.1
  have hA : ∀ q, s.heap.size ≤ q → qAr ad s.heap.size q := fun _ h => Or.inr h
  have hi8 : ∀ w ∈ u_ws RX8 TX8 6, w ∈ wsX8_leastFree := by decide +kernel
  have hL0 := hts (.fieldLink RX8 25 "CrowFences$Ways" "crows" "I") (by decide +kernel)
  have hL1 := hts (.fieldLink RX8 29 "CrowFences$Ways" "taken" "I") (by decide +kernel)
  have hl := lv_entry ([.ref (ad y), .int (nI f0)]) (n := 3) (Nat.le_of_ble_eq_true rfl)
  rw [lg_entry_eq]
  generalize (lg_sl ([.ref (ad y), .int (nI f0)]) ++ List.replicate (3 - (lg_sl ([.ref (ad y), .int (nI f0)])).length) Slot.unset).toArray = ls at hl ⊢
  have hl : lv_has ls 3 [(0, .ref (ad y)), (1, .int (nI f0))] := hl
  refine lv_iload_n hx hb dX8_leastFree_0 rfl (lv_at hl 1 rfl) ?_
  refine lv_istore_n (lv' := [(2, .int (nI f0)), (0, .ref (ad y)), (1, .int (nI f0))]) hx hb dX8_leastFree_1 rfl hl (by decide) rfl (fun ls hl => ?_)
  have loop2 : ∀ (fu : Nat) (k : Nat) (hk : k ≤ nK) (hv : qleast (S y 5) f0 (nK - f0) = qleast (S y 5) k (nK - k)), nK - k < fu → ∀ (H : Heap) (locs : List Loc) (ls : Array Slot), qM E ad S A b (qAr ad s.heap.size) s H locs → lv_has ls 3 [(2, .int (nI k)), (0, .ref (ad y)), (1, .int (nI f0))] → W pg l e (headSpec wsX8_leastFree { frames := 0, cells := 0, slots := 0, locals := 0 }).room s m ([.ref (ad y), .int (nI f0)] : List Value).toArray below meth cd H locs 0 0 (MQ below (qQi E ad s.heap.size (fun r S' A' b' => (S = S' ∧ A = A' ∧ b = b') ∧ r = qleast (S y 5) f0 (nK - f0))) ([.ref (ad y), .int (nI f0)] : List Value).toArray s 0 0 (qAr ad s.heap.size)) (F0 m 2 ls []) := by
    intro fu
    induction fu with
    | zero => intro k hk hv hn; exact absurd hn (Nat.not_lt_zero _)
    | succ fu ih2 =>
      intro k hk hv hn H locs ls hM hl
      refine lv_iload_n hx hb dX8_leastFree_2 rfl (lv_at hl 0 rfl) ?_
      refine lv_aload_n hx hb dX8_leastFree_3 rfl (lv_at hl 1 rfl) ?_
      refine q_get (o := y) (ci := 8) (k := 4) (T := TX8) (v := .int (S y 4)) C hM (qmem_8 E ad S A b ky) (by omega) rfl hi8 (by decide) hL0 rfl rfl dX8_leastFree_4 ?_
      refine lv_as (y := nI nK) hK ?_
      refine lv_icmp_ge (tgt := 29) hx hb dX8_leastFree_7 (by decide) (fun c_7 => ?_) (fun c_7 => ?_)
      · skip
        have c_7 : nK ≤ k := (nI_leI (a := nK) (b := k) (by omega) (by omega)).mp c_7
        refine lv_iconst (v := (-1)) hx hb dX8_leastFree_29 (by decide) ?_
        exact q_iret C hM dX8_leastFree_30 (by exact ⟨⟨rfl, rfl, rfl⟩, (by rw [hv, show nK - k = 0 by omega]; rfl)⟩)
      · skip
        have c_7 : ¬ (nK ≤ k) := fun z => c_7 ((nI_leI (a := nK) (b := k) (by omega) (by omega)).mpr z)
        refine lv_aload_n hx hb dX8_leastFree_10 rfl (lv_at hl 1 rfl) ?_
        refine q_get (o := y) (ci := 8) (k := 5) (T := TX8) (v := .int (S y 5)) C hM (qmem_8 E ad S A b ky) (by omega) rfl hi8 (by decide) hL1 rfl rfl dX8_leastFree_11 ?_
        refine lv_iload_n hx hb dX8_leastFree_14 rfl (lv_at hl 0 rfl) ?_
        refine lv_ishr hx hb dX8_leastFree_15 ?_
        refine lv_iconst (v := 1) hx hb dX8_leastFree_16 (by decide) ?_
        refine lv_iand hx hb dX8_leastFree_17 ?_
        refine lv_if_ne (tgt := 23) hx hb dX8_leastFree_18 (by decide) (fun c_18 => ?_) (fun c_18 => ?_)
        · skip
          refine lv_iinc (v := nI (k + 1)) (lv' := [(2, .int (nI (k + 1))), (0, .ref (ad y)), (1, .int (nI f0))]) hx hb dX8_leastFree_23 hl (k := 0) rfl (by rw [nI_succ]; rfl) (by decide) rfl (fun ls hl => ?_)
          refine lv_goto (tgt := 2) hx hb dX8_leastFree_26 (by decide) ?_
          exact ih2 (k + 1) (by omega) (by rw [hv, show nK - k = (nK - (k + 1)) + 1 by omega]; exact if_neg c_18) (by omega) _ _ _ hM hl
        · skip
          refine lv_iload_n hx hb dX8_leastFree_21 rfl (lv_at hl 0 rfl) ?_
          exact q_iret C hM dX8_leastFree_22 (by exact ⟨⟨rfl, rfl, rfl⟩, (by rw [hv, show nK - k = (nK - (k + 1)) + 1 by omega]; exact (if_pos c_18).symm)⟩)
  exact loop2 (nK - f0 + 1) f0 (by omega) rfl (Nat.lt_succ_self _) _ _ _ hM hl

set_option maxHeartbeats 4000000 in
set_option maxRecDepth 100000 in
theorem c_X8_settle (E : qE) (ad : Nat → Nat) (l : Launch) (S A : qA2) (b : qB) (y : Nat) (hy : qy y) (p0 f0 : Nat) (nK : Nat) (hK : S y 4 = nI nK) (hKb : nK ≤ 5) (nP : Nat) (hPo : S y 3 = nI nP) (hPb : nP ≤ 6) (hp0 : p0 ≤ nP) (hf0 : f0 ≤ nK) : MV E ad l yX8_settle wsX8_settle { frames := 1, cells := 0, slots := 0, locals := 22 } [.ref (ad y), .int (nI p0), .int (nI f0)] S A b (fun S' A' b' => b = b' ∧ (A' (y + 1), S' y 1, S' y 5) = qsettle nK (nP - p0) p0 f0 (A (y + 1), S y 1, S y 5) ∧ (∀ i, i ≠ y + 1 → A' i = A i) ∧ (∀ i j, (i ≠ y ∨ (j ≠ 1 ∧ j ≠ 5)) → S' i j = S i j)) := by
  obtain ⟨⟨ky, ky1⟩, ly1, yb1, yb2⟩ := qy_all hy
  refine MV.of (cc := cX8_settle) (maxL := 5) (ret := none) RX8 rfl (by decide) rfl ?_
  intro pg e s m below meth cd C hM
  have hx := C.1
  have hb := C.2.1
  have hts := C.2.2.2.2.1
  have hA : ∀ q, s.heap.size ≤ q → qAr ad s.heap.size q := fun _ h => Or.inr h
  have hi8 : ∀ w ∈ u_ws RX8 TX8 6, w ∈ wsX8_settle := by decide +kernel
  have hL0 := hts (.fieldLink RX8 21 "CrowFences$Ways" "posts" "I") (by decide +kernel)
  have hL1 := hts (.fieldLink RX8 9 "CrowFences$Ways" "crowOn" "[I") (by decide +kernel)
  have hL2 := hts (.fieldLink RX8 29 "CrowFences$Ways" "taken" "I") (by decide +kernel)
  have hL3 := hts (.fieldLink RX8 26 "CrowFences$Ways" "letPosts" "I") (by decide +kernel)
  have hl := lv_entry ([.ref (ad y), .int (nI p0), .int (nI f0)]) (n := 5) (Nat.le_of_ble_eq_true rfl)
  rw [lg_entry_eq]
  generalize (lg_sl ([.ref (ad y), .int (nI p0), .int (nI f0)]) ++ List.replicate (5 - (lg_sl ([.ref (ad y), .int (nI p0), .int (nI f0)])).length) Slot.unset).toArray = ls at hl ⊢
  have hl : lv_has ls 5 [(0, .ref (ad y)), (1, .int (nI p0)), (2, .int (nI f0))] := hl
  refine lv_iload_n hx hb dX8_settle_0 rfl (lv_at hl 2 rfl) ?_
  refine lv_istore_n (lv' := [(3, .int (nI f0)), (0, .ref (ad y)), (1, .int (nI p0)), (2, .int (nI f0))]) hx hb dX8_settle_1 rfl hl (by decide) rfl (fun ls hl => ?_)
  refine lv_iload_n hx hb dX8_settle_2 rfl (lv_at hl 2 rfl) ?_
  refine lv_istore (lv' := [(4, .int (nI p0)), (3, .int (nI f0)), (0, .ref (ad y)), (1, .int (nI p0)), (2, .int (nI f0))]) hx hb dX8_settle_3 hl (by decide) rfl (fun ls hl => ?_)
  have loop5 : ∀ (fu : Nat) (le : Nat) (q : Nat) (S5 : qA2) (A5 : qA2) (hq : q ≤ nP) (hle : le ≤ nK) (ht : qsettle nK (nP - p0) p0 f0 (A (y + 1), S y 1, S y 5) = qsettle nK (nP - q) q le (A5 (y + 1), S5 y 1, S5 y 5)) (hfA : ∀ i, i ≠ y + 1 → A5 i = A i) (hfS : ∀ i j, (i ≠ y ∨ (j ≠ 1 ∧ j ≠ 5)) → S5 i j = S i j), nP - q < fu → ∀ (H : Heap) (locs : List Loc) (ls : Array Slot), qM E ad S5 A5 b (qAr ad s.heap.size) s H locs → lv_has ls 5 [(4, .int (nI q)), (3, .int (nI le)), (0, .ref (ad y)), (1, .int (nI p0)), (2, .int (nI f0))] → W pg l e (headSpec wsX8_settle { frames := 1, cells := 0, slots := 0, locals := 22 }).room s m ([.ref (ad y), .int (nI p0), .int (nI f0)] : List Value).toArray below meth cd H locs 0 0 (MQ below (qQv E ad s.heap.size (fun S' A' b' => b = b' ∧ (A' (y + 1), S' y 1, S' y 5) = qsettle nK (nP - p0) p0 f0 (A (y + 1), S y 1, S y 5) ∧ (∀ i, i ≠ y + 1 → A' i = A i) ∧ (∀ i j, (i ≠ y ∨ (j ≠ 1 ∧ j ≠ 5)) → S' i j = S i j))) ([.ref (ad y), .int (nI p0), .int (nI f0)] : List Value).toArray s 0 0 (qAr ad s.heap.size)) (F0 m 5 ls []) := by
    intro fu
    induction fu with
    | zero => intro le q S5 A5 hq hle ht hfA hfS hn; exact absurd hn (Nat.not_lt_zero _)
    | succ fu ih5 =>
      intro le q S5 A5 hq hle ht hfA hfS hn H locs ls hM hl
      refine lv_iload hx hb dX8_settle_5 (lv_at hl 0 rfl) ?_
      refine lv_aload_n hx hb dX8_settle_7 rfl (lv_at hl 2 rfl) ?_
      refine q_get (o := y) (ci := 8) (k := 3) (T := TX8) (v := .int (S y 3)) C hM (qmem_8 E ad S5 A5 b ky) (by omega) rfl hi8 (by decide) hL0 rfl (congrArg (fun z => some (Value.int z)) (show S5 y 3 = S y 3 from by rw [hfS y 3 (by omega)])) dX8_settle_8 ?_
      refine lv_as (y := nI nP) hPo ?_
      refine lv_icmp_ge (tgt := 76) hx hb dX8_settle_11 (by decide) (fun c_11 => ?_) (fun c_11 => ?_)
      · skip
        have c_11 : nP ≤ q := (nI_leI (a := nP) (b := q) (by omega) (by omega)).mp c_11
        exact q_vret C hM dX8_settle_76 (by exact ⟨rfl, by rw [ht, show nP - q = 0 by omega]; rfl, hfA, hfS⟩)
      · skip
        have c_11 : ¬ (nP ≤ q) := fun z => c_11 ((nI_leI (a := nP) (b := q) (by omega) (by omega)).mpr z)
        refine lv_aload_n hx hb dX8_settle_14 rfl (lv_at hl 2 rfl) ?_
        refine q_get (o := y) (ci := 8) (k := 0) (T := TX8) (v := .ref (ad (y + 1))) C hM (qmem_8 E ad S5 A5 b ky) (by omega) rfl hi8 (by decide) hL1 rfl rfl dX8_settle_15 ?_
        refine lv_iload hx hb dX8_settle_18 (lv_at hl 0 rfl) ?_
        refine lv_aload_n hx hb dX8_settle_20 rfl (lv_at hl 2 rfl) ?_
        refine lv_iload_n hx hb dX8_settle_21 rfl (lv_at hl 1 rfl) ?_
        refine q_callVI (n := 1) (o := y) (As := [.int (nI le)]) (rest := [.int (nI q), .ref (ad (y + 1))]) C hM hA (c_X8_leastFree E ad l S5 A5 b y hy le nK ((show S5 y 4 = S y 4 from by rw [hfS y 4 (by omega)]).trans hK) (by omega) (by omega)) (qmem_8 E ad S5 A5 b ky) (by omega) rfl gX8_settle_X8_leastFree rfl rfl rfl (by decide +kernel) ⟨Nat.le_of_ble_eq_true rfl, Nat.le_of_ble_eq_true rfl⟩ rfl hl.1 rfl (Nat.le_of_ble_eq_true rfl) ⟨Nat.zero_le _, Nat.zero_le _⟩ dX8_settle_22 (fun r_1 S_2 A_3 b_4 H locs qr_1 hM => ?_)
        obtain ⟨⟨e1, e2, e3⟩, er_1⟩ := qr_1
        subst e1; subst e2; subst e3
        refine q_iast C hM ky1 (by rw [ly1]; exact vp_nI (by omega) (by omega)) dX8_settle_25 (fun H locs hM => ?_)
        rw [nIc (by omega)] at hM
        obtain ⟨A_5, eA_5⟩ : ∃ zz, zz = q2 A5 (y + 1) q r_1 := ⟨_, rfl⟩
        rw [← eA_5] at hM
        refine lv_aload_n hx hb dX8_settle_26 rfl (lv_at hl 2 rfl) ?_
        refine q_get (o := y) (ci := 8) (k := 0) (T := TX8) (v := .ref (ad (y + 1))) C hM (qmem_8 E ad S5 A_5 b ky) (by omega) rfl hi8 (by decide) hL1 rfl rfl dX8_settle_27 ?_
        refine lv_iload hx hb dX8_settle_30 (lv_at hl 0 rfl) ?_
        refine q_iald (v := r_1) C hM ky1 (by rw [ly1]; exact vp_nI (by omega) (by omega)) (by rw [nIc (by omega)]; exact (show A_5 (y + 1) q = r_1 from by rw [eA_5]; exact q2_s _ _ _ _)) dX8_settle_32 ?_
        refine lv_iconst (v := (-1)) hx hb dX8_settle_33 (by decide) ?_
        refine lv_icmp_eq (tgt := 68) hx hb dX8_settle_34 (by decide) (fun c_34 => ?_) (fun c_34 => ?_)
        · skip
          refine lv_iconst (v := 0) hx hb dX8_settle_68 (by decide) ?_
          refine lv_istore_n (lv' := [(3, .int 0), (4, .int (nI q)), (0, .ref (ad y)), (1, .int (nI p0)), (2, .int (nI f0))]) hx hb dX8_settle_69 rfl hl (by decide) rfl (fun ls hl => ?_)
          refine lv_iinc (v := nI (q + 1)) (lv' := [(4, .int (nI (q + 1))), (3, .int 0), (0, .ref (ad y)), (1, .int (nI p0)), (2, .int (nI f0))]) hx hb dX8_settle_70 hl (k := 1) rfl (by rw [nI_succ]; rfl) (by decide) rfl (fun ls hl => ?_)
          refine lv_goto (tgt := 5) hx hb dX8_settle_73 (by decide) ?_
          exact ih5 0 (q + 1) S5 A_5 (by omega) (by omega) (by rw [ht, show nP - q = (nP - (q + 1)) + 1 by omega]; simp only [qsettle]; rw [← er_1, if_pos c_34, eA_5, q2_row]) (by rw [eA_5]; exact qfr_up hfA) hfS (by omega) _ _ _ hM hl
        · skip
          refine lv_aload_n hx hb dX8_settle_37 rfl (lv_at hl 2 rfl) ?_
          refine lv_dup hx hb dX8_settle_38 rfl ?_
          refine q_get (o := y) (ci := 8) (k := 5) (T := TX8) (v := .int (S5 y 5)) C hM (qmem_8 E ad S5 A_5 b ky) (by omega) rfl hi8 (by decide) hL2 rfl rfl dX8_settle_39 ?_
          refine lv_iconst (v := 1) hx hb dX8_settle_42 (by decide) ?_
          refine lv_aload_n hx hb dX8_settle_43 rfl (lv_at hl 2 rfl) ?_
          refine q_get (o := y) (ci := 8) (k := 0) (T := TX8) (v := .ref (ad (y + 1))) C hM (qmem_8 E ad S5 A_5 b ky) (by omega) rfl hi8 (by decide) hL1 rfl rfl dX8_settle_44 ?_
          refine lv_iload hx hb dX8_settle_47 (lv_at hl 0 rfl) ?_
          refine q_iald (v := r_1) C hM ky1 (by rw [ly1]; exact vp_nI (by omega) (by omega)) (by rw [nIc (by omega)]; exact (show A_5 (y + 1) q = r_1 from by rw [eA_5]; exact q2_s _ _ _ _)) dX8_settle_49 ?_
          refine lv_ishl hx hb dX8_settle_50 ?_
          refine lv_ior hx hb dX8_settle_51 ?_
          refine lv_topi (fun v_6 ev_6 => ?_)
          refine q_put (o := y) (ci := 8) (k := 5) (T := TX8) (ty := .int) (v := v_6) C hM (qmem_8 E ad S5 A_5 b ky) (by omega) rfl hi8 tyX8 tyX8_ok nmX8 (by decide) hL2 rfl rfl (by decide +kernel) rfl rfl (Nat.le_of_ble_eq_true rfl) (qs_8_5 E ad S5 A_5 b ky v_6) dX8_settle_52 (fun H locs hM => ?_)
          obtain ⟨S_7, eS_7⟩ : ∃ zz, zz = q2 S5 y 5 v_6 := ⟨_, rfl⟩
          rw [← eS_7] at hM
          refine lv_aload_n hx hb dX8_settle_55 rfl (lv_at hl 2 rfl) ?_
          refine lv_dup hx hb dX8_settle_56 rfl ?_
          refine q_get (o := y) (ci := 8) (k := 1) (T := TX8) (v := .int (S5 y 1)) C hM (qmem_8 E ad S_7 A_5 b ky) (by omega) rfl hi8 (by decide) hL3 rfl (congrArg (fun z => some (Value.int z)) (show S_7 y 1 = S5 y 1 from by rw [eS_7, q2_k _ _ (by omega)])) dX8_settle_57 ?_
          refine lv_iconst (v := 1) hx hb dX8_settle_60 (by decide) ?_
          refine lv_iload hx hb dX8_settle_61 (lv_at hl 0 rfl) ?_
          refine lv_ishl hx hb dX8_settle_63 ?_
          refine lv_ior hx hb dX8_settle_64 ?_
          refine lv_topi (fun v_8 ev_8 => ?_)
          refine q_put (o := y) (ci := 8) (k := 1) (T := TX8) (ty := .int) (v := v_8) C hM (qmem_8 E ad S_7 A_5 b ky) (by omega) rfl hi8 tyX8 tyX8_ok nmX8 (by decide) hL3 rfl rfl (by decide +kernel) rfl rfl (Nat.le_of_ble_eq_true rfl) (qs_8_1 E ad S_7 A_5 b ky v_8) dX8_settle_65 (fun H locs hM => ?_)
          obtain ⟨S_9, eS_9⟩ : ∃ zz, zz = q2 S_7 y 1 v_8 := ⟨_, rfl⟩
          rw [← eS_9] at hM
          refine lv_iconst (v := 0) hx hb dX8_settle_68 (by decide) ?_
          refine lv_istore_n (lv' := [(3, .int 0), (4, .int (nI q)), (0, .ref (ad y)), (1, .int (nI p0)), (2, .int (nI f0))]) hx hb dX8_settle_69 rfl hl (by decide) rfl (fun ls hl => ?_)
          refine lv_iinc (v := nI (q + 1)) (lv' := [(4, .int (nI (q + 1))), (3, .int 0), (0, .ref (ad y)), (1, .int (nI p0)), (2, .int (nI f0))]) hx hb dX8_settle_70 hl (k := 1) rfl (by rw [nI_succ]; rfl) (by decide) rfl (fun ls hl => ?_)
          refine lv_goto (tgt := 5) hx hb dX8_settle_73 (by decide) ?_
          exact ih5 0 (q + 1) S_9 A_5 (by omega) (by omega) (by rw [ht, show nP - q = (nP - (q + 1)) + 1 by omega]; simp only [qsettle]; rw [← er_1, if_neg c_34, eA_5, q2_row, eS_9, q2_s, q2_k _ _ (by omega), eS_7, q2_s, ev_8, ev_6]; rfl) (by rw [eA_5]; exact qfr_up hfA) (fun i j hij => by rw [eS_9, show q2 _ y 1 _ i j = S_7 i j from by by_cases hz : i = y; exact q2_k _ _ (by omega); exact q2_o _ _ hz, eS_7, show q2 _ y 5 _ i j = S5 i j from by by_cases hz : i = y; exact q2_k _ _ (by omega); exact q2_o _ _ hz]; exact hfS i j hij) (by omega) _ _ _ hM hl
  exact loop5 (nP - p0 + 1) f0 p0 S A (by omega) (by omega) rfl (fun _ _ => rfl) (fun _ _ _ => rfl) (Nat.lt_succ_self _) _ _ _ hM hl

set_option maxHeartbeats 4000000 in
set_option maxRecDepth 100000 in
theorem c_X8_begin (E : qE) (ad : Nat → Nat) (l : Launch) (S A : qA2) (b : qB) (y : Nat) (hy : qy y) (p : Nat) (hp : qpl p) (nK : Nat) (hK : S p 5 = nI nK) (hKb : nK ≤ 5) (nP : Nat) (hPo : S p 4 = nI nP) (hPb : nP ≤ 6) : MV E ad l yX8_begin wsX8_begin { frames := 2, cells := 0, slots := 0, locals := 46 } [.ref (ad y), .ref (ad p)] S A b (fun S' A' b' => b = b' ∧ (A' (y + 1), S' y 1, S' y 5) = qsettle nK nP 0 0 (A (y + 1), 0, 0) ∧ (S' y 2 = 0 ∧ S' y 3 = nI nP ∧ S' y 4 = nI nK) ∧ (∀ i, i ≠ y + 1 → A' i = A i) ∧ (∀ i, i ≠ y → S' i = S i)) := by
  obtain ⟨⟨ky, ky1⟩, ly1, yb1, yb2⟩ := qy_all hy
  obtain ⟨⟨kp, kp1, kp2, kp3, kp4, kp5, kp6⟩, ⟨lp1, lp2, lp3, lp4, lp5, lp6⟩, bp, bp7⟩ := qpl_all hp
  refine MV.of (cc := cX8_begin) (maxL := 2) (ret := none) RX8 rfl (by decide) rfl ?_
  intro pg e s m below meth cd C hM
  have hx := C.1
  have hb := C.2.1
  have hts := C.2.2.2.2.1
  have hA : ∀ q, s.heap.size ≤ q → qAr ad s.heap.size q := fun _ h => Or.inr h
  have hi5 : ∀ w ∈ u_ws RX5 TX5 13, w ∈ wsX8_begin := by decide +kernel
  have hi8 : ∀ w ∈ u_ws RX8 TX8 6, w ∈ wsX8_begin := by decide +kernel
  have hL0 := hts (.fieldLink RX8 15 "CrowFences$Plan" "posts" "I") (by decide +kernel)
  have hL1 := hts (.fieldLink RX8 21 "CrowFences$Ways" "posts" "I") (by decide +kernel)
  have hL2 := hts (.fieldLink RX8 22 "CrowFences$Plan" "crows" "I") (by decide +kernel)
  have hL3 := hts (.fieldLink RX8 25 "CrowFences$Ways" "crows" "I") (by decide +kernel)
  have hL4 := hts (.fieldLink RX8 26 "CrowFences$Ways" "letPosts" "I") (by decide +kernel)
  have hL5 := hts (.fieldLink RX8 29 "CrowFences$Ways" "taken" "I") (by decide +kernel)
  have hL6 := hts (.fieldLink RX8 32 "CrowFences$Ways" "ended" "Z") (by decide +kernel)
  have hl := lv_entry ([.ref (ad y), .ref (ad p)]) (n := 2) (Nat.le_of_ble_eq_true rfl)
  rw [lg_entry_eq]
  generalize (lg_sl ([.ref (ad y), .ref (ad p)]) ++ List.replicate (2 - (lg_sl ([.ref (ad y), .ref (ad p)])).length) Slot.unset).toArray = ls at hl ⊢
  have hl : lv_has ls 2 [(0, .ref (ad y)), (1, .ref (ad p))] := hl
  refine lv_aload_n hx hb dX8_begin_0 rfl (lv_at hl 0 rfl) ?_
  refine lv_aload_n hx hb dX8_begin_1 rfl (lv_at hl 1 rfl) ?_
  refine q_get (o := p) (ci := 5) (k := 4) (T := TX5) (v := .int (S p 4)) C hM (qmem_5 E ad S A b kp) (by omega) rfl hi5 (by decide) hL0 rfl rfl dX8_begin_2 ?_
  refine lv_as (y := nI nP) hPo ?_
  refine q_put (o := y) (ci := 8) (k := 3) (T := TX8) (ty := .int) (v := nI nP) C hM (qmem_8 E ad S A b ky) (by omega) rfl hi8 tyX8 tyX8_ok nmX8 (by decide) hL1 rfl rfl (by decide +kernel) rfl rfl (Nat.le_of_ble_eq_true rfl) (qs_8_3 E ad S A b ky (nI nP)) dX8_begin_5 (fun H locs hM => ?_)
  obtain ⟨S_1, eS_1⟩ : ∃ zz, zz = q2 S y 3 (nI nP) := ⟨_, rfl⟩
  rw [← eS_1] at hM
  refine lv_aload_n hx hb dX8_begin_8 rfl (lv_at hl 0 rfl) ?_
  refine lv_aload_n hx hb dX8_begin_9 rfl (lv_at hl 1 rfl) ?_
  refine q_get (o := p) (ci := 5) (k := 5) (T := TX5) (v := .int (S p 5)) C hM (qmem_5 E ad S_1 A b kp) (by omega) rfl hi5 (by decide) hL2 rfl (congrArg (fun z => some (Value.int z)) (show S_1 p 5 = S p 5 from by rw [eS_1, q2_o _ _ (by omega)])) dX8_begin_10 ?_
  refine lv_as (y := nI nK) hK ?_
  refine q_put (o := y) (ci := 8) (k := 4) (T := TX8) (ty := .int) (v := nI nK) C hM (qmem_8 E ad S_1 A b ky) (by omega) rfl hi8 tyX8 tyX8_ok nmX8 (by decide) hL3 rfl rfl (by decide +kernel) rfl rfl (Nat.le_of_ble_eq_true rfl) (qs_8_4 E ad S_1 A b ky (nI nK)) dX8_begin_13 (fun H locs hM => ?_)
  obtain ⟨S_2, eS_2⟩ : ∃ zz, zz = q2 S_1 y 4 (nI nK) := ⟨_, rfl⟩
  rw [← eS_2] at hM
  refine lv_aload_n hx hb dX8_begin_16 rfl (lv_at hl 0 rfl) ?_
  refine lv_iconst (v := 0) hx hb dX8_begin_17 (by decide) ?_
  refine q_put (o := y) (ci := 8) (k := 1) (T := TX8) (ty := .int) (v := 0) C hM (qmem_8 E ad S_2 A b ky) (by omega) rfl hi8 tyX8 tyX8_ok nmX8 (by decide) hL4 rfl rfl (by decide +kernel) rfl rfl (Nat.le_of_ble_eq_true rfl) (qs_8_1 E ad S_2 A b ky 0) dX8_begin_18 (fun H locs hM => ?_)
  obtain ⟨S_3, eS_3⟩ : ∃ zz, zz = q2 S_2 y 1 0 := ⟨_, rfl⟩
  rw [← eS_3] at hM
  refine lv_aload_n hx hb dX8_begin_21 rfl (lv_at hl 0 rfl) ?_
  refine lv_iconst (v := 0) hx hb dX8_begin_22 (by decide) ?_
  refine q_put (o := y) (ci := 8) (k := 5) (T := TX8) (ty := .int) (v := 0) C hM (qmem_8 E ad S_3 A b ky) (by omega) rfl hi8 tyX8 tyX8_ok nmX8 (by decide) hL5 rfl rfl (by decide +kernel) rfl rfl (Nat.le_of_ble_eq_true rfl) (qs_8_5 E ad S_3 A b ky 0) dX8_begin_23 (fun H locs hM => ?_)
  obtain ⟨S_4, eS_4⟩ : ∃ zz, zz = q2 S_3 y 5 0 := ⟨_, rfl⟩
  rw [← eS_4] at hM
  refine lv_aload_n hx hb dX8_begin_26 rfl (lv_at hl 0 rfl) ?_
  refine lv_iconst (v := 0) hx hb dX8_begin_27 (by decide) ?_
  refine q_put (o := y) (ci := 8) (k := 2) (T := TX8) (ty := .boolean) (v := 0) C hM (qmem_8 E ad S_4 A b ky) (by omega) rfl hi8 tyX8 tyX8_ok nmX8 (by decide) hL6 rfl rfl (by decide +kernel) rfl rfl (Nat.le_of_ble_eq_true rfl) (qs_8_2 E ad S_4 A b ky 0) dX8_begin_28 (fun H locs hM => ?_)
  obtain ⟨S_5, eS_5⟩ : ∃ zz, zz = q2 S_4 y 2 0 := ⟨_, rfl⟩
  rw [← eS_5] at hM
  refine lv_aload_n hx hb dX8_begin_31 rfl (lv_at hl 0 rfl) ?_
  refine lv_iconst (v := 0) hx hb dX8_begin_32 (by decide) ?_
  refine lv_iconst (v := 0) hx hb dX8_begin_33 (by decide) ?_
  refine q_callVV (n := 2) (o := y) (As := [.int 0, .int 0]) (rest := []) C hM hA (c_X8_settle E ad l S_5 A b y hy 0 0 nK (show S_5 y 4 = nI nK from by rw [eS_5, q2_k _ _ (by omega)]; rw [eS_4, q2_k _ _ (by omega)]; rw [eS_3, q2_k _ _ (by omega)]; rw [eS_2]; exact q2_s _ _ _ _) (by omega) nP (show S_5 y 3 = nI nP from by rw [eS_5, q2_k _ _ (by omega)]; rw [eS_4, q2_k _ _ (by omega)]; rw [eS_3, q2_k _ _ (by omega)]; rw [eS_2, q2_k _ _ (by omega)]; rw [eS_1]; exact q2_s _ _ _ _) (by omega) (by omega) (by omega)) (qmem_8 E ad S_5 A b ky) (by omega) rfl gX8_begin_X8_settle rfl rfl rfl (by decide +kernel) ⟨Nat.le_of_ble_eq_true rfl, Nat.le_of_ble_eq_true rfl⟩ rfl hl.1 rfl (Nat.le_of_ble_eq_true rfl) ⟨Nat.zero_le _, Nat.zero_le _⟩ dX8_begin_34 (fun S_7 A_8 b_9 H locs qr_6 hM => ?_)
  obtain ⟨e3, htA_8, hfA_8, hgS_7⟩ := qr_6
  subst e3
  exact q_vret C hM dX8_begin_37 (by exact ⟨rfl, by rw [htA_8]; congr 1; rw [(show S_5 y 1 = 0 from by rw [eS_5, q2_k _ _ (by omega)]; rw [eS_4, q2_k _ _ (by omega)]; rw [eS_3]; exact q2_s _ _ _ _), (show S_5 y 5 = 0 from by rw [eS_5, q2_k _ _ (by omega)]; rw [eS_4]; exact q2_s _ _ _ _)], ⟨(show S_7 y 2 = 0 from by rw [hgS_7 y 2 (by omega)]; rw [eS_5]; exact q2_s _ _ _ _), (show S_7 y 3 = nI nP from by rw [hgS_7 y 3 (by omega)]; rw [eS_5, q2_k _ _ (by omega)]; rw [eS_4, q2_k _ _ (by omega)]; rw [eS_3, q2_k _ _ (by omega)]; rw [eS_2, q2_k _ _ (by omega)]; rw [eS_1]; exact q2_s _ _ _ _), (show S_7 y 4 = nI nK from by rw [hgS_7 y 4 (by omega)]; rw [eS_5, q2_k _ _ (by omega)]; rw [eS_4, q2_k _ _ (by omega)]; rw [eS_3, q2_k _ _ (by omega)]; rw [eS_2]; exact q2_s _ _ _ _)⟩, hfA_8, fun i hi => by funext j; rw [hgS_7 i j (Or.inl hi), eS_5, q2_o _ _ hi, eS_4, q2_o _ _ hi, eS_3, q2_o _ _ hi, eS_2, q2_o _ _ hi, eS_1, q2_o _ _ hi]⟩)

set_option maxHeartbeats 4000000 in
set_option maxRecDepth 100000 in
theorem c_X8_advance (E : qE) (ad : Nat → Nat) (l : Launch) (S A : qA2) (b : qB) (y : Nat) (hy : qy y) (nK : Nat) (hK : S y 4 = nI nK) (hKb : nK ≤ 5) (nP : Nat) (hPo : S y 3 = nI nP) (hPb : nP ≤ 6) (hcr : ∀ q, q < nP → ¬ A (y + 1) q = -1 → A (y + 1) q = nI (A (y + 1) q).toNatClampNeg ∧ (A (y + 1) q).toNatClampNeg < nK) : MV E ad l yX8_advance wsX8_advance { frames := 2, cells := 0, slots := 0, locals := 46 } [.ref (ad y)] S A b (fun S' A' b' => b = b' ∧ (∀ i, i ≠ y + 1 → A' i = A i) ∧ (∀ i, i ≠ y → S' i = S i) ∧ S' y 3 = S y 3 ∧ S' y 4 = S y 4 ∧ ((qadv nP nK (A (y + 1), S y 1, S y 5) nP = none ∧ S' y 2 = 1) ∨ (∃ t, qadv nP nK (A (y + 1), S y 1, S y 5) nP = some t ∧ S' y 2 = S y 2 ∧ (A' (y + 1), S' y 1, S' y 5) = t))) := by
  obtain ⟨⟨ky, ky1⟩, ly1, yb1, yb2⟩ := qy_all hy
  refine MV.of (cc := cX8_advance) (maxL := 3) (ret := none) RX8 rfl (by decide) rfl ?_
  intro pg e s m below meth cd C hM
  have hx := C.1
  have hb := C.2.1
  have hts := C.2.2.2.2.1
  have hA : ∀ q, s.heap.size ≤ q → qAr ad s.heap.size q := fun _ h => Or.inr h
  have hi8 : ∀ w ∈ u_ws RX8 TX8 6, w ∈ wsX8_advance := by decide +kernel
  have hL0 := hts (.fieldLink RX8 21 "CrowFences$Ways" "posts" "I") (by decide +kernel)
  have hL1 := hts (.fieldLink RX8 32 "CrowFences$Ways" "ended" "Z") (by decide +kernel)
  have hL2 := hts (.fieldLink RX8 9 "CrowFences$Ways" "crowOn" "[I") (by decide +kernel)
  have hL3 := hts (.fieldLink RX8 29 "CrowFences$Ways" "taken" "I") (by decide +kernel)
  have hL4 := hts (.fieldLink RX8 26 "CrowFences$Ways" "letPosts" "I") (by decide +kernel)
  have hl := lv_entry ([.ref (ad y)]) (n := 3) (Nat.le_of_ble_eq_true rfl)
  rw [lg_entry_eq]
  generalize (lg_sl ([.ref (ad y)]) ++ List.replicate (3 - (lg_sl ([.ref (ad y)])).length) Slot.unset).toArray = ls at hl ⊢
  have hl : lv_has ls 3 [(0, .ref (ad y))] := hl
  refine lv_aload_n hx hb dX8_advance_0 rfl (lv_at hl 0 rfl) ?_
  refine q_get (o := y) (ci := 8) (k := 3) (T := TX8) (v := .int (S y 3)) C hM (qmem_8 E ad S A b ky) (by omega) rfl hi8 (by decide) hL0 rfl rfl dX8_advance_1 ?_
  refine lv_as (y := nI nP) hPo ?_
  refine lv_iconst (v := 1) hx hb dX8_advance_4 (by decide) ?_
  refine lv_isub hx hb dX8_advance_5 ?_
  refine lv_istore_n (lv' := [(1, .int ((nI nP) - 1)), (0, .ref (ad y))]) hx hb dX8_advance_6 rfl hl (by decide) rfl (fun ls hl => ?_)
  have loop7 : ∀ (fu : Nat) (j : Nat) (hj : j ≤ nP) (hv : qadv nP nK (A (y + 1), S y 1, S y 5) nP = qadv nP nK (A (y + 1), S y 1, S y 5) j), j < fu → ∀ (H : Heap) (locs : List Loc) (ls : Array Slot), qM E ad S A b (qAr ad s.heap.size) s H locs → lv_has ls 3 [(1, .int (nI j - 1)), (0, .ref (ad y))] → W pg l e (headSpec wsX8_advance { frames := 2, cells := 0, slots := 0, locals := 46 }).room s m ([.ref (ad y)] : List Value).toArray below meth cd H locs 0 0 (MQ below (qQv E ad s.heap.size (fun S' A' b' => b = b' ∧ (∀ i, i ≠ y + 1 → A' i = A i) ∧ (∀ i, i ≠ y → S' i = S i) ∧ S' y 3 = S y 3 ∧ S' y 4 = S y 4 ∧ ((qadv nP nK (A (y + 1), S y 1, S y 5) nP = none ∧ S' y 2 = 1) ∨ (∃ t, qadv nP nK (A (y + 1), S y 1, S y 5) nP = some t ∧ S' y 2 = S y 2 ∧ (A' (y + 1), S' y 1, S' y 5) = t)))) ([.ref (ad y)] : List Value).toArray s 0 0 (qAr ad s.heap.size)) (F0 m 7 ls []) := by
    intro fu
    induction fu with
    | zero => intro j hj hv hn; exact absurd hn (Nat.not_lt_zero _)
    | succ fu ih7 =>
      intro j hj hv hn H locs ls hM hl
      refine lv_iload_n hx hb dX8_advance_7 rfl (lv_at hl 0 rfl) ?_
      refine lv_if_lt (tgt := 66) hx hb dX8_advance_8 (by decide) (fun c_8 => ?_) (fun c_8 => ?_)
      · skip
        have c_8 : j = 0 := (nI_m1_lt (by omega)).mp c_8
        refine lv_aload_n hx hb dX8_advance_66 rfl (lv_at hl 1 rfl) ?_
        refine lv_iconst (v := 1) hx hb dX8_advance_67 (by decide) ?_
        refine q_put (o := y) (ci := 8) (k := 2) (T := TX8) (ty := .boolean) (v := 1) C hM (qmem_8 E ad S A b ky) (by omega) rfl hi8 tyX8 tyX8_ok nmX8 (by decide) hL1 rfl rfl (by decide +kernel) rfl rfl (Nat.le_of_ble_eq_true rfl) (qs_8_2 E ad S A b ky 1) dX8_advance_68 (fun H locs hM => ?_)
        obtain ⟨S_1, eS_1⟩ : ∃ zz, zz = q2 S y 2 1 := ⟨_, rfl⟩
        rw [← eS_1] at hM
        exact q_vret C hM dX8_advance_71 (by exact ⟨rfl, fun _ _ => rfl, fun i hi => by rw [eS_1, q2_or _ _ hi], by rw [eS_1, q2_k _ _ (by omega)], by rw [eS_1, q2_k _ _ (by omega)], Or.inl ⟨hv.trans (by rw [c_8]; rfl), by rw [eS_1, q2_s]⟩⟩)
      · skip
        have c_8 : ¬ j = 0 := fun z => c_8 ((nI_m1_lt (by omega)).mpr z)
        rw [nI_m1 c_8] at hl
        refine lv_aload_n hx hb dX8_advance_11 rfl (lv_at hl 1 rfl) ?_
        refine q_get (o := y) (ci := 8) (k := 0) (T := TX8) (v := .ref (ad (y + 1))) C hM (qmem_8 E ad S A b ky) (by omega) rfl hi8 (by decide) hL2 rfl rfl dX8_advance_12 ?_
        refine lv_iload_n hx hb dX8_advance_15 rfl (lv_at hl 0 rfl) ?_
        refine q_iald (v := A (y + 1) (j - 1)) C hM ky1 (by rw [ly1]; exact vp_nI (by omega) (by omega)) (by rw [nIc (by omega)]) dX8_advance_16 ?_
        refine lv_istore_n (lv' := [(2, .int (A (y + 1) (j - 1))), (1, .int (nI (j - 1))), (0, .ref (ad y))]) hx hb dX8_advance_17 rfl hl (by decide) rfl (fun ls hl => ?_)
        refine lv_iload_n hx hb dX8_advance_18 rfl (lv_at hl 0 rfl) ?_
        refine lv_iconst (v := (-1)) hx hb dX8_advance_19 (by decide) ?_
        refine lv_icmp_eq (tgt := 60) hx hb dX8_advance_20 (by decide) (fun c_20 => ?_) (fun c_20 => ?_)
        · skip
          refine lv_iinc (v := nI (j - 1) - 1) (lv' := [(1, .int (nI (j - 1) - 1)), (2, .int (A (y + 1) (j - 1))), (0, .ref (ad y))]) hx hb dX8_advance_60 hl (k := 1) rfl (by rw [Int32.sub_eq_add_neg]; rfl) (by decide) rfl (fun ls hl => ?_)
          refine lv_goto (tgt := 7) hx hb dX8_advance_63 (by decide) ?_
          exact ih7 (j - 1) (by omega) (hv.trans (qadv_skip c_8 c_20)) (by omega) _ _ _ hM (lv_sub hl [0, 2] rfl)
        · skip
          refine lv_aload_n hx hb dX8_advance_23 rfl (lv_at hl 2 rfl) ?_
          refine lv_dup hx hb dX8_advance_24 rfl ?_
          refine q_get (o := y) (ci := 8) (k := 5) (T := TX8) (v := .int (S y 5)) C hM (qmem_8 E ad S A b ky) (by omega) rfl hi8 (by decide) hL3 rfl rfl dX8_advance_25 ?_
          refine lv_iconst (v := 1) hx hb dX8_advance_28 (by decide) ?_
          refine lv_iload_n hx hb dX8_advance_29 rfl (lv_at hl 0 rfl) ?_
          refine lv_ishl hx hb dX8_advance_30 ?_
          refine lv_iconst (v := (-1)) hx hb dX8_advance_31 (by decide) ?_
          refine lv_ixor hx hb dX8_advance_32 ?_
          refine lv_iand hx hb dX8_advance_33 ?_
          refine lv_topi (fun v_2 ev_2 => ?_)
          refine q_put (o := y) (ci := 8) (k := 5) (T := TX8) (ty := .int) (v := v_2) C hM (qmem_8 E ad S A b ky) (by omega) rfl hi8 tyX8 tyX8_ok nmX8 (by decide) hL3 rfl rfl (by decide +kernel) rfl rfl (Nat.le_of_ble_eq_true rfl) (qs_8_5 E ad S A b ky v_2) dX8_advance_34 (fun H locs hM => ?_)
          obtain ⟨S_3, eS_3⟩ : ∃ zz, zz = q2 S y 5 v_2 := ⟨_, rfl⟩
          rw [← eS_3] at hM
          refine lv_aload_n hx hb dX8_advance_37 rfl (lv_at hl 2 rfl) ?_
          refine lv_dup hx hb dX8_advance_38 rfl ?_
          refine q_get (o := y) (ci := 8) (k := 1) (T := TX8) (v := .int (S y 1)) C hM (qmem_8 E ad S_3 A b ky) (by omega) rfl hi8 (by decide) hL4 rfl (congrArg (fun z => some (Value.int z)) (show S_3 y 1 = S y 1 from by rw [eS_3, q2_k _ _ (by omega)])) dX8_advance_39 ?_
          refine lv_iconst (v := 1) hx hb dX8_advance_42 (by decide) ?_
          refine lv_iload_n hx hb dX8_advance_43 rfl (lv_at hl 1 rfl) ?_
          refine lv_ishl hx hb dX8_advance_44 ?_
          refine lv_iconst (v := (-1)) hx hb dX8_advance_45 (by decide) ?_
          refine lv_ixor hx hb dX8_advance_46 ?_
          refine lv_iand hx hb dX8_advance_47 ?_
          refine lv_topi (fun v_4 ev_4 => ?_)
          refine q_put (o := y) (ci := 8) (k := 1) (T := TX8) (ty := .int) (v := v_4) C hM (qmem_8 E ad S_3 A b ky) (by omega) rfl hi8 tyX8 tyX8_ok nmX8 (by decide) hL4 rfl rfl (by decide +kernel) rfl rfl (Nat.le_of_ble_eq_true rfl) (qs_8_1 E ad S_3 A b ky v_4) dX8_advance_48 (fun H locs hM => ?_)
          obtain ⟨S_5, eS_5⟩ : ∃ zz, zz = q2 S_3 y 1 v_4 := ⟨_, rfl⟩
          rw [← eS_5] at hM
          refine lv_aload_n hx hb dX8_advance_51 rfl (lv_at hl 2 rfl) ?_
          refine lv_iload_n hx hb dX8_advance_52 rfl (lv_at hl 1 rfl) ?_
          refine lv_iload_n hx hb dX8_advance_53 rfl (lv_at hl 0 rfl) ?_
          obtain ⟨hc1, hc2⟩ := hcr (j - 1) (by omega) c_20
          refine lv_as (y := nI (A (y + 1) (j - 1)).toNatClampNeg) hc1 ?_
          refine lv_iconst (v := 1) hx hb dX8_advance_54 (by decide) ?_
          refine lv_iadd hx hb dX8_advance_55 ?_
          refine lv_as (y := nI (((A (y + 1) (j - 1)).toNatClampNeg) + 1)) (nI_add _ _) ?_
          refine q_callVV (n := 2) (o := y) (As := [.int (nI (j - 1)), .int (nI (((A (y + 1) (j - 1)).toNatClampNeg) + 1))]) (rest := []) C hM hA (c_X8_settle E ad l S_5 A b y hy (j - 1) (((A (y + 1) (j - 1)).toNatClampNeg) + 1) nK ((show S_5 y 4 = S y 4 from by rw [eS_5, q2_k _ _ (by omega)]; rw [eS_3, q2_k _ _ (by omega)]).trans hK) (by omega) nP ((show S_5 y 3 = S y 3 from by rw [eS_5, q2_k _ _ (by omega)]; rw [eS_3, q2_k _ _ (by omega)]).trans hPo) (by omega) (by omega) (by omega)) (qmem_8 E ad S_5 A b ky) (by omega) rfl gX8_advance_X8_settle rfl rfl rfl (by decide +kernel) ⟨Nat.le_of_ble_eq_true rfl, Nat.le_of_ble_eq_true rfl⟩ rfl hl.1 rfl (Nat.le_of_ble_eq_true rfl) ⟨Nat.zero_le _, Nat.zero_le _⟩ dX8_advance_56 (fun S_7 A_8 b_9 H locs qr_6 hM => ?_)
          obtain ⟨e3, htA_8, hfA_8, hgS_7⟩ := qr_6
          subst e3
          exact q_vret C hM dX8_advance_59 (by exact ⟨rfl, hfA_8, fun i hi => by funext j2; rw [hgS_7 i j2 (Or.inl hi), eS_5, q2_o _ _ hi, eS_3, q2_o _ _ hi], by exact (show S_7 y 3 = S y 3 from by rw [hgS_7 y 3 (by omega)]; rw [eS_5, q2_k _ _ (by omega)]; rw [eS_3, q2_k _ _ (by omega)]), by exact (show S_7 y 4 = S y 4 from by rw [hgS_7 y 4 (by omega)]; rw [eS_5, q2_k _ _ (by omega)]; rw [eS_3, q2_k _ _ (by omega)]), Or.inr ⟨_, hv.trans (qadv_hit c_8 c_20), by exact (show S_7 y 2 = S y 2 from by rw [hgS_7 y 2 (by omega)]; rw [eS_5, q2_k _ _ (by omega)]; rw [eS_3, q2_k _ _ (by omega)]), by rw [htA_8]; congr 1; rw [show S_5 y 1 = S y 1 &&& (qbit (j - 1) ^^^ -1) from by rw [eS_5, q2_s, ev_4]; rfl, show S_5 y 5 = S y 5 &&& ((1 <<< (A (y + 1) (j - 1) &&& 31)) ^^^ -1) from by rw [eS_5, q2_k _ _ (by omega), eS_3, q2_s, ev_2]]⟩⟩)
  exact loop7 (nP + 1) nP (by omega) rfl (Nat.lt_succ_self _) _ _ _ hM hl
