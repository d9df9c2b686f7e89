set_option maxHeartbeats 4000000 in
set_option maxRecDepth 100000 in
theorem c_X7_append (E : qE) (ad : Nat → Nat) (l : Launch) (S A : qA2) (b : qB) (a1 : Int32) (n : Nat) (hln : S 1 1 = nI n) (hnb : n < 240) : MV E ad l yX7_append wsX7_append { frames := 0, cells := 0, slots := 0, locals := 0 } [.ref (ad 1), .int a1] S A b (fun S' A' b' => S' = q2 S 1 1 (nI (n + 1)) ∧ A' = q2 A 2 n a1 ∧ b = b') := by
  refine MV.of (cc := cX7_append) (maxL := 2) (ret := none) RX7 rfl (by decide) rfl ?_
  intro pg e s m below meth cd C hM
  have hx := C.1
  have hb := C.2.1
  have hts := C.2.2.2.2.1
  have hA : ∀ q, s.heap.size ≤ q → qAr ad s.heap.size q := fun _ h => Or.inr h
  have hi7 : ∀ w ∈ u_ws RX7 TX7 6, w ∈ wsX7_append := by decide +kernel
  have hL0 := hts (.fieldLink RX7 9 "CrowFences$Text" "letters" "[I") (by decide +kernel)
  have hL1 := hts (.fieldLink RX7 19 "CrowFences$Text" "length" "I") (by decide +kernel)
  have hl := lv_entry ([.ref (ad 1), .int a1]) (n := 2) (Nat.le_of_ble_eq_true rfl)
  rw [lg_entry_eq]
  generalize (lg_sl ([.ref (ad 1), .int a1]) ++ List.replicate (2 - (lg_sl ([.ref (ad 1), .int a1])).length) Slot.unset).toArray = ls at hl ⊢
  have hl : lv_has ls 2 [(0, .ref (ad 1)), (1, .int a1)] := hl
  refine lv_aload_n hx hb dX7_append_0 rfl (lv_at hl 0 rfl) ?_
  refine q_get (o := 1) (ci := 7) (k := 0) (T := TX7) (v := .ref (ad 2)) C hM (qmem_7 E ad S A b (show qk 1 = 7 from by decide +kernel)) (by decide) rfl hi7 (by decide) hL0 rfl rfl dX7_append_1 ?_
  refine lv_aload_n hx hb dX7_append_4 rfl (lv_at hl 0 rfl) ?_
  refine q_get (o := 1) (ci := 7) (k := 1) (T := TX7) (v := .int (S 1 1)) C hM (qmem_7 E ad S A b (show qk 1 = 7 from by decide +kernel)) (by decide) rfl hi7 (by decide) hL1 rfl rfl dX7_append_5 ?_
  refine lv_as (y := nI n) hln ?_
  refine lv_iload_n hx hb dX7_append_8 rfl (lv_at hl 1 rfl) ?_
  refine q_iast C hM (show qk 2 = 12 from by decide +kernel) (by rw [(show ql 2 = 240 from by decide +kernel)]; exact vp_nI (by omega) (by omega)) dX7_append_9 (fun H locs hM => ?_)
  rw [nIc (by omega)] at hM
  obtain ⟨A_1, eA_1⟩ : ∃ zz, zz = q2 A 2 n a1 := ⟨_, rfl⟩
  rw [← eA_1] at hM
  refine lv_aload_n hx hb dX7_append_10 rfl (lv_at hl 0 rfl) ?_
  refine lv_dup hx hb dX7_append_11 rfl ?_
  refine q_get (o := 1) (ci := 7) (k := 1) (T := TX7) (v := .int (S 1 1)) C hM (qmem_7 E ad S A_1 b (show qk 1 = 7 from by decide +kernel)) (by decide) rfl hi7 (by decide) hL1 rfl rfl dX7_append_12 ?_
  refine lv_as (y := nI n) hln ?_
  refine lv_iconst (v := 1) hx hb dX7_append_15 (by decide) ?_
  refine lv_iadd hx hb dX7_append_16 ?_
  refine lv_as (y := nI (n + 1)) (nI_add _ _) ?_
  refine q_put (o := 1) (ci := 7) (k := 1) (T := TX7) (ty := .int) (v := nI (n + 1)) C hM (qmem_7 E ad S A_1 b (show qk 1 = 7 from by decide +kernel)) (by decide) rfl hi7 tyX7 tyX7_ok nmX7 (by decide) hL1 rfl rfl (by decide +kernel) rfl rfl (Nat.le_of_ble_eq_true rfl) (qs_7_1 E ad S A_1 b (show qk 1 = 7 from by decide +kernel) (nI (n + 1))) dX7_append_17 (fun H locs hM => ?_)
  obtain ⟨S_2, eS_2⟩ : ∃ zz, zz = q2 S 1 1 (nI (n + 1)) := ⟨_, rfl⟩
  rw [← eS_2] at hM
  exact q_vret C hM dX7_append_20 (by subst_vars; exact ⟨rfl, rfl, rfl⟩)

set_option maxHeartbeats 4000000 in
set_option maxRecDepth 100000 in
theorem c_X7_isFigure (E : qE) (ad : Nat → Nat) (l : Launch) (S A : qA2) (b : qB) (a0 : Int32) : MI E ad l yX7_isFigure wsX7_isFigure { frames := 0, cells := 0, slots := 0, locals := 0 } [.int a0] S A b (fun r S' A' b' => (S = S' ∧ A = A' ∧ b = b') ∧ r = q01 (48 ≤ a0 ∧ a0 ≤ 57)) := by
  refine MI.of (cc := cX7_isFigure) (maxL := 1) (ret := some .boolean) RX7 rfl (by decide) rfl ?_
  intro pg e s m below meth cd C hM
  have hx := C.1
  have hb := C.2.1
  have hts := C.2.2.2.2.1
  have hA : ∀ q, s.heap.size ≤ q → qAr ad s.heap.size q := fun _ h => Or.inr h
  have hl := lv_entry ([.int a0]) (n := 1) (Nat.le_of_ble_eq_true rfl)
  rw [lg_entry_eq]
  generalize (lg_sl ([.int a0]) ++ List.replicate (1 - (lg_sl ([.int a0])).length) Slot.unset).toArray = ls at hl ⊢
  have hl : lv_has ls 1 [(0, .int a0)] := hl
  refine lv_iload_n hx hb dX7_isFigure_0 rfl (lv_at hl 0 rfl) ?_
  refine lv_bipush (v := 48) hx hb dX7_isFigure_1 (by decide) ?_
  refine lv_icmp_lt (tgt := 16) hx hb dX7_isFigure_3 (by decide) (fun c_3 => ?_) (fun c_3 => ?_)
  · skip
    refine lv_iconst (v := 0) hx hb dX7_isFigure_16 (by decide) ?_
    exact q_zret C hM dX7_isFigure_17 rfl (by exact ⟨⟨rfl, rfl, rfl⟩, (by rw [q01, if_neg (fun z => Int32.not_le.mpr c_3 z.1)])⟩)
  · skip
    refine lv_iload_n hx hb dX7_isFigure_6 rfl (lv_at hl 0 rfl) ?_
    refine lv_bipush (v := 57) hx hb dX7_isFigure_7 (by decide) ?_
    refine lv_icmp_gt (tgt := 16) hx hb dX7_isFigure_9 (by decide) (fun c_9 => ?_) (fun c_9 => ?_)
    · skip
      refine lv_iconst (v := 0) hx hb dX7_isFigure_16 (by decide) ?_
      exact q_zret C hM dX7_isFigure_17 rfl (by exact ⟨⟨rfl, rfl, rfl⟩, (by rw [q01, if_neg (fun z => Int32.not_le.mpr c_9 z.2)])⟩)
    · skip
      refine lv_iconst (v := 1) hx hb dX7_isFigure_12 (by decide) ?_
      refine lv_goto (tgt := 17) hx hb dX7_isFigure_13 (by decide) ?_
      exact q_zret C hM dX7_isFigure_17 rfl (by exact ⟨⟨rfl, rfl, rfl⟩, (by rw [q01, if_pos ⟨Int32.not_lt.mp c_3, Int32.not_lt.mp c_9⟩])⟩)

set_option maxHeartbeats 4000000 in
set_option maxRecDepth 100000 in
theorem c_X7_skipBlanks (E : qE) (ad : Nat → Nat) (l : Launch) (S A : qA2) (b : qB) (n a : Nat) (hln : S 1 1 = nI n) (hnb : n ≤ 240) (hat : S 1 4 = nI a) (hab : a ≤ 245) : MV E ad l yX7_skipBlanks wsX7_skipBlanks { frames := 0, cells := 0, slots := 0, locals := 0 } [.ref (ad 1)] S A b (fun S' A' b' => S' = q2 S 1 4 (nI (qsk (A 2) n a)) ∧ A = A' ∧ b = b') := by
  refine MV.of (cc := cX7_skipBlanks) (maxL := 1) (ret := none) RX7 rfl (by decide) rfl ?_
  intro pg e s m below meth cd C hM
  have hx := C.1
  have hb := C.2.1
  have hts := C.2.2.2.2.1
  have hA : ∀ q, s.heap.size ≤ q → qAr ad s.heap.size q := fun _ h => Or.inr h
  have hi7 : ∀ w ∈ u_ws RX7 TX7 6, w ∈ wsX7_skipBlanks := by decide +kernel
  have hL0 := hts (.fieldLink RX7 30 "CrowFences$Text" "at" "I") (by decide +kernel)
  have hL1 := hts (.fieldLink RX7 19 "CrowFences$Text" "length" "I") (by decide +kernel)
  have hL2 := hts (.fieldLink RX7 9 "CrowFences$Text" "letters" "[I") (by decide +kernel)
  have hl := lv_entry ([.ref (ad 1)]) (n := 1) (Nat.le_of_ble_eq_true rfl)
  rw [lg_entry_eq]
  generalize (lg_sl ([.ref (ad 1)]) ++ List.replicate (1 - (lg_sl ([.ref (ad 1)])).length) Slot.unset).toArray = ls at hl ⊢
  have hl : lv_has ls 1 [(0, .ref (ad 1))] := hl
  have loop0 : ∀ (fu : Nat) (a1 : Nat) (S0 : qA2) (ha1 : a1 ≤ 245) (hs : S0 = q2 S 1 4 (nI a1)) (hv : qsk (A 2) n a = qskF (A 2) n (n - a1) a1), n - a1 < fu → ∀ (H : Heap) (locs : List Loc) (ls : Array Slot), qM E ad S0 A b (qAr ad s.heap.size) s H locs → lv_has ls 1 [(0, .ref (ad 1))] → W pg l e (headSpec wsX7_skipBlanks { frames := 0, cells := 0, slots := 0, locals := 0 }).room s m ([.ref (ad 1)] : List Value).toArray below meth cd H locs 0 0 (MQ below (qQv E ad s.heap.size (fun S' A' b' => S' = q2 S 1 4 (nI (qsk (A 2) n a)) ∧ A = A' ∧ b = b')) ([.ref (ad 1)] : List Value).toArray s 0 0 (qAr ad s.heap.size)) (F0 m 0 ls []) := by
    intro fu
    induction fu with
    | zero => intro a1 S0 ha1 hs hv hn; exact absurd hn (Nat.not_lt_zero _)
    | succ fu ih0 =>
      intro a1 S0 ha1 hs hv hn H locs ls hM hl
      refine lv_aload_n hx hb dX7_skipBlanks_0 rfl (lv_at hl 0 rfl) ?_
      refine q_get (o := 1) (ci := 7) (k := 4) (T := TX7) (v := .int (nI a1)) C hM (qmem_7 E ad S0 A b (show qk 1 = 7 from by decide +kernel)) (by decide) rfl hi7 (by decide) hL0 rfl (congrArg (fun z => some (Value.int z)) (show S0 1 4 = nI a1 from by rw [hs]; exact q2_s _ _ _ _)) dX7_skipBlanks_1 ?_
      refine lv_aload_n hx hb dX7_skipBlanks_4 rfl (lv_at hl 0 rfl) ?_
      refine q_get (o := 1) (ci := 7) (k := 1) (T := TX7) (v := .int (S 1 1)) C hM (qmem_7 E ad S0 A b (show qk 1 = 7 from by decide +kernel)) (by decide) rfl hi7 (by decide) hL1 rfl (congrArg (fun z => some (Value.int z)) (show S0 1 1 = S 1 1 from by rw [hs, q2_k _ _ (by omega)])) dX7_skipBlanks_5 ?_
      refine lv_as (y := nI n) hln ?_
      refine lv_icmp_ge (tgt := 38) hx hb dX7_skipBlanks_8 (by decide) (fun c_8 => ?_) (fun c_8 => ?_)
      · skip
        have c_8 : n ≤ a1 := (nI_leI (a := n) (b := a1) (by omega) (by omega)).mp c_8
        exact q_vret C hM dX7_skipBlanks_38 (by exact ⟨by rw [hv, show n - a1 = 0 by omega]; exact hs, rfl, rfl⟩)
      · skip
        have c_8 : ¬ (n ≤ a1) := fun z => c_8 ((nI_leI (a := n) (b := a1) (by omega) (by omega)).mpr z)
        refine lv_aload_n hx hb dX7_skipBlanks_11 rfl (lv_at hl 0 rfl) ?_
        refine q_get (o := 1) (ci := 7) (k := 0) (T := TX7) (v := .ref (ad 2)) C hM (qmem_7 E ad S0 A b (show qk 1 = 7 from by decide +kernel)) (by decide) rfl hi7 (by decide) hL2 rfl rfl dX7_skipBlanks_12 ?_
        refine lv_aload_n hx hb dX7_skipBlanks_15 rfl (lv_at hl 0 rfl) ?_
        refine q_get (o := 1) (ci := 7) (k := 4) (T := TX7) (v := .int (nI a1)) C hM (qmem_7 E ad S0 A b (show qk 1 = 7 from by decide +kernel)) (by decide) rfl hi7 (by decide) hL0 rfl (congrArg (fun z => some (Value.int z)) (show S0 1 4 = nI a1 from by rw [hs]; exact q2_s _ _ _ _)) dX7_skipBlanks_16 ?_
        refine q_iald (v := A 2 a1) C hM (show qk 2 = 12 from by decide +kernel) (by rw [(show ql 2 = 240 from by decide +kernel)]; exact vp_nI (by omega) (by omega)) (by rw [nIc (by omega)]) dX7_skipBlanks_19 ?_
        refine lv_bipush (v := 32) hx hb dX7_skipBlanks_20 (by decide) ?_
        refine lv_icmp_ne (tgt := 38) hx hb dX7_skipBlanks_22 (by decide) (fun c_22 => ?_) (fun c_22 => ?_)
        · skip
          exact q_vret C hM dX7_skipBlanks_38 (by exact ⟨by rw [hv, show n - a1 = (n - (a1 + 1)) + 1 by omega, show qskF (A 2) n (n - (a1 + 1) + 1) a1 = a1 from if_neg (fun z => c_22 z.2)]; exact hs, rfl, rfl⟩)
        · skip
          refine lv_aload_n hx hb dX7_skipBlanks_25 rfl (lv_at hl 0 rfl) ?_
          refine lv_dup hx hb dX7_skipBlanks_26 rfl ?_
          refine q_get (o := 1) (ci := 7) (k := 4) (T := TX7) (v := .int (nI a1)) C hM (qmem_7 E ad S0 A b (show qk 1 = 7 from by decide +kernel)) (by decide) rfl hi7 (by decide) hL0 rfl (congrArg (fun z => some (Value.int z)) (show S0 1 4 = nI a1 from by rw [hs]; exact q2_s _ _ _ _)) dX7_skipBlanks_27 ?_
          refine lv_iconst (v := 1) hx hb dX7_skipBlanks_30 (by decide) ?_
          refine lv_iadd hx hb dX7_skipBlanks_31 ?_
          refine lv_as (y := nI (a1 + 1)) (nI_add _ _) ?_
          refine q_put (o := 1) (ci := 7) (k := 4) (T := TX7) (ty := .int) (v := nI (a1 + 1)) C hM (qmem_7 E ad S0 A b (show qk 1 = 7 from by decide +kernel)) (by decide) rfl hi7 tyX7 tyX7_ok nmX7 (by decide) hL0 rfl rfl (by decide +kernel) rfl rfl (Nat.le_of_ble_eq_true rfl) (qs_7_4 E ad S0 A b (show qk 1 = 7 from by decide +kernel) (nI (a1 + 1))) dX7_skipBlanks_32 (fun H locs hM => ?_)
          obtain ⟨S_1, eS_1⟩ : ∃ zz, zz = q2 S0 1 4 (nI (a1 + 1)) := ⟨_, rfl⟩
          rw [← eS_1] at hM
          refine lv_goto (tgt := 0) hx hb dX7_skipBlanks_35 (by decide) ?_
          exact ih0 (a1 + 1) S_1 (by omega) (by rw [eS_1, hs, q2_q2]) (by rw [hv, show n - a1 = (n - (a1 + 1)) + 1 by omega]; exact if_pos ⟨by omega, c_22⟩) (by omega) _ _ _ hM hl
  exact loop0 (n - a + 1) a S (by omega) (by rw [← hat, q2_self]) rfl (Nat.lt_succ_self _) _ _ _ hM hl

set_option maxHeartbeats 4000000 in
set_option maxRecDepth 100000 in
theorem c_X7_refuse (E : qE) (ad : Nat → Nat) (l : Launch) (S A : qA2) (b : qB) (a1 a2 : Int32) (hk0 : S 1 2 = 0) : MV E ad l yX7_refuse wsX7_refuse { frames := 0, cells := 0, slots := 0, locals := 0 } [.ref (ad 1), .int a1, .int a2] S A b (fun S' A' b' => S' = q2 (q2 S 1 2 a1) 1 3 a2 ∧ A = A' ∧ b = b') := by
  refine MV.of (cc := cX7_refuse) (maxL := 3) (ret := none) RX7 rfl (by decide) rfl ?_
  intro pg e s m below meth cd C hM
  have hx := C.1
  have hb := C.2.1
  have hts := C.2.2.2.2.1
  have hA : ∀ q, s.heap.size ≤ q → qAr ad s.heap.size q := fun _ h => Or.inr h
  have hi7 : ∀ w ∈ u_ws RX7 TX7 6, w ∈ wsX7_refuse := by decide +kernel
  have hL0 := hts (.fieldLink RX7 27 "CrowFences$Text" "faultKind" "I") (by decide +kernel)
  have hL1 := hts (.fieldLink RX7 15 "CrowFences$Text" "faultAt" "I") (by decide +kernel)
  have hl := lv_entry ([.ref (ad 1), .int a1, .int a2]) (n := 3) (Nat.le_of_ble_eq_true rfl)
  rw [lg_entry_eq]
  generalize (lg_sl ([.ref (ad 1), .int a1, .int a2]) ++ List.replicate (3 - (lg_sl ([.ref (ad 1), .int a1, .int a2])).length) Slot.unset).toArray = ls at hl ⊢
  have hl : lv_has ls 3 [(0, .ref (ad 1)), (1, .int a1), (2, .int a2)] := hl
  refine lv_aload_n hx hb dX7_refuse_0 rfl (lv_at hl 0 rfl) ?_
  refine q_get (o := 1) (ci := 7) (k := 2) (T := TX7) (v := .int (S 1 2)) C hM (qmem_7 E ad S A b (show qk 1 = 7 from by decide +kernel)) (by decide) rfl hi7 (by decide) hL0 rfl rfl dX7_refuse_1 ?_
  refine lv_if_ne (tgt := 17) hx hb dX7_refuse_4 (by decide) (fun c_4 => ?_) (fun c_4 => ?_)
  · skip
    exact absurd hk0 c_4
  · skip
    refine lv_aload_n hx hb dX7_refuse_7 rfl (lv_at hl 0 rfl) ?_
    refine lv_iload_n hx hb dX7_refuse_8 rfl (lv_at hl 1 rfl) ?_
    refine q_put (o := 1) (ci := 7) (k := 2) (T := TX7) (ty := .int) (v := a1) C hM (qmem_7 E ad S A b (show qk 1 = 7 from by decide +kernel)) (by decide) rfl hi7 tyX7 tyX7_ok nmX7 (by decide) hL0 rfl rfl (by decide +kernel) rfl rfl (Nat.le_of_ble_eq_true rfl) (qs_7_2 E ad S A b (show qk 1 = 7 from by decide +kernel) a1) dX7_refuse_9 (fun H locs hM => ?_)
    obtain ⟨S_1, eS_1⟩ : ∃ zz, zz = q2 S 1 2 a1 := ⟨_, rfl⟩
    rw [← eS_1] at hM
    refine lv_aload_n hx hb dX7_refuse_12 rfl (lv_at hl 0 rfl) ?_
    refine lv_iload_n hx hb dX7_refuse_13 rfl (lv_at hl 2 rfl) ?_
    refine q_put (o := 1) (ci := 7) (k := 3) (T := TX7) (ty := .int) (v := a2) C hM (qmem_7 E ad S_1 A b (show qk 1 = 7 from by decide +kernel)) (by decide) rfl hi7 tyX7 tyX7_ok nmX7 (by decide) hL1 rfl rfl (by decide +kernel) rfl rfl (Nat.le_of_ble_eq_true rfl) (qs_7_3 E ad S_1 A b (show qk 1 = 7 from by decide +kernel) a2) dX7_refuse_14 (fun H locs hM => ?_)
    obtain ⟨S_2, eS_2⟩ : ∃ zz, zz = q2 S_1 1 3 a2 := ⟨_, rfl⟩
    rw [← eS_2] at hM
    exact q_vret C hM dX7_refuse_17 (by exact ⟨by subst_vars; rfl, rfl, rfl⟩)

set_option maxHeartbeats 4000000 in
set_option maxRecDepth 100000 in
theorem c_X7_readWord (E : qE) (ad : Nat → Nat) (l : Launch) (S A : qA2) (b : qB) (a1 : Int32) (n a : Nat) (hln : S 1 1 = nI n) (hnb : n ≤ 240) (hat : S 1 4 = nI a) (hab : a ≤ 245) (hk0 : S 1 2 = 0) : MV E ad l yX7_readWord wsX7_readWord { frames := 1, cells := 0, slots := 0, locals := 22 } [.ref (ad 1), .int a1] S A b (fun S' A' b' => S' = (if a1 = 0 then q2 (q2 (q2 S 1 2 3) 1 3 (nI a)) 1 4 (nI (a + 1)) else q2 S 1 4 (nI (a + 1))) ∧ A = A' ∧ b = b') := by
  refine MV.of (cc := cX7_readWord) (maxL := 2) (ret := none) RX7 rfl (by decide) rfl ?_
  intro pg e s m below meth cd C hM
  have hx := C.1
  have hb := C.2.1
  have hts := C.2.2.2.2.1
  have hA : ∀ q, s.heap.size ≤ q → qAr ad s.heap.size q := fun _ h => Or.inr h
  have hi7 : ∀ w ∈ u_ws RX7 TX7 6, w ∈ wsX7_readWord := by decide +kernel
  have hL0 := hts (.fieldLink RX7 30 "CrowFences$Text" "at" "I") (by decide +kernel)
  have hl := lv_entry ([.ref (ad 1), .int a1]) (n := 2) (Nat.le_of_ble_eq_true rfl)
  rw [lg_entry_eq]
  generalize (lg_sl ([.ref (ad 1), .int a1]) ++ List.replicate (2 - (lg_sl ([.ref (ad 1), .int a1])).length) Slot.unset).toArray = ls at hl ⊢
  have hl : lv_has ls 2 [(0, .ref (ad 1)), (1, .int a1)] := hl
  refine lv_iload_n hx hb dX7_readWord_0 rfl (lv_at hl 1 rfl) ?_
  refine lv_if_ne (tgt := 13) hx hb dX7_readWord_1 (by decide) (fun c_1 => ?_) (fun c_1 => ?_)
  · skip
    refine lv_aload_n hx hb dX7_readWord_13 rfl (lv_at hl 0 rfl) ?_
    refine lv_dup hx hb dX7_readWord_14 rfl ?_
    refine q_get (o := 1) (ci := 7) (k := 4) (T := TX7) (v := .int (S 1 4)) C hM (qmem_7 E ad S A b (show qk 1 = 7 from by decide +kernel)) (by decide) rfl hi7 (by decide) hL0 rfl rfl dX7_readWord_15 ?_
    refine lv_as (y := nI a) hat ?_
    refine lv_iconst (v := 1) hx hb dX7_readWord_18 (by decide) ?_
    refine lv_iadd hx hb dX7_readWord_19 ?_
    refine lv_as (y := nI (a + 1)) (nI_add _ _) ?_
    refine q_put (o := 1) (ci := 7) (k := 4) (T := TX7) (ty := .int) (v := nI (a + 1)) C hM (qmem_7 E ad S A b (show qk 1 = 7 from by decide +kernel)) (by decide) rfl hi7 tyX7 tyX7_ok nmX7 (by decide) hL0 rfl rfl (by decide +kernel) rfl rfl (Nat.le_of_ble_eq_true rfl) (qs_7_4 E ad S A b (show qk 1 = 7 from by decide +kernel) (nI (a + 1))) dX7_readWord_20 (fun H locs hM => ?_)
    obtain ⟨S_1, eS_1⟩ : ∃ zz, zz = q2 S 1 4 (nI (a + 1)) := ⟨_, rfl⟩
    rw [← eS_1] at hM
    exact q_vret C hM dX7_readWord_23 (by exact ⟨by rw [if_neg c_1]; exact eS_1, rfl, rfl⟩)
  · skip
    refine lv_aload_n hx hb dX7_readWord_4 rfl (lv_at hl 0 rfl) ?_
    refine lv_iconst (v := 3) hx hb dX7_readWord_5 (by decide) ?_
    refine lv_aload_n hx hb dX7_readWord_6 rfl (lv_at hl 0 rfl) ?_
    refine q_get (o := 1) (ci := 7) (k := 4) (T := TX7) (v := .int (S 1 4)) C hM (qmem_7 E ad S A b (show qk 1 = 7 from by decide +kernel)) (by decide) rfl hi7 (by decide) hL0 rfl rfl dX7_readWord_7 ?_
    refine lv_as (y := nI a) hat ?_
    refine q_callVV (n := 2) (o := 1) (As := [.int 3, .int (nI a)]) (rest := []) C hM hA (c_X7_refuse E ad l S A b 3 (nI a) hk0) (qmem_7 E ad S A b (show qk 1 = 7 from by decide +kernel)) (by decide) rfl gX7_readWord_X7_refuse rfl rfl rfl (by decide +kernel) ⟨Nat.le_of_ble_eq_true rfl, Nat.le_of_ble_eq_true rfl⟩ rfl hl.1 rfl (Nat.le_of_ble_eq_true rfl) ⟨Nat.zero_le _, Nat.zero_le _⟩ dX7_readWord_10 (fun S_3 A_4 b_5 H locs qr_2 hM => ?_)
    obtain ⟨eS_3, e2, e3⟩ := qr_2
    subst e2; subst e3
    obtain ⟨S_6, eS_6⟩ : ∃ zz, zz = q2 S 1 2 3 := ⟨_, rfl⟩
    rw [← eS_6] at eS_3
    refine lv_aload_n hx hb dX7_readWord_13 rfl (lv_at hl 0 rfl) ?_
    refine lv_dup hx hb dX7_readWord_14 rfl ?_
    refine q_get (o := 1) (ci := 7) (k := 4) (T := TX7) (v := .int (S 1 4)) C hM (qmem_7 E ad S_3 A b (show qk 1 = 7 from by decide +kernel)) (by decide) rfl hi7 (by decide) hL0 rfl (congrArg (fun z => some (Value.int z)) (show S_3 1 4 = S 1 4 from by rw [eS_3, q2_k _ _ (by omega)]; rw [eS_6, q2_k _ _ (by omega)])) dX7_readWord_15 ?_
    refine lv_as (y := nI a) hat ?_
    refine lv_iconst (v := 1) hx hb dX7_readWord_18 (by decide) ?_
    refine lv_iadd hx hb dX7_readWord_19 ?_
    refine lv_as (y := nI (a + 1)) (nI_add _ _) ?_
    refine q_put (o := 1) (ci := 7) (k := 4) (T := TX7) (ty := .int) (v := nI (a + 1)) C hM (qmem_7 E ad S_3 A b (show qk 1 = 7 from by decide +kernel)) (by decide) rfl hi7 tyX7 tyX7_ok nmX7 (by decide) hL0 rfl rfl (by decide +kernel) rfl rfl (Nat.le_of_ble_eq_true rfl) (qs_7_4 E ad S_3 A b (show qk 1 = 7 from by decide +kernel) (nI (a + 1))) dX7_readWord_20 (fun H locs hM => ?_)
    obtain ⟨S_7, eS_7⟩ : ∃ zz, zz = q2 S_3 1 4 (nI (a + 1)) := ⟨_, rfl⟩
    rw [← eS_7] at hM
    exact q_vret C hM dX7_readWord_23 (by exact ⟨by rw [if_pos c_1]; subst_vars; rfl, rfl, rfl⟩)
