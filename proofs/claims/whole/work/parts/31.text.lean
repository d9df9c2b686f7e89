set_option maxHeartbeats 4000000 in
set_option maxRecDepth 100000 in
theorem c_X7_append (E : qE) (ad : Nat → Nat) (l : Launch) (S A : qA2) (b : qB) (a1 : Int32) (n : Nat) (hln : S 1 1 = nI n) (hnb : n < 240) : MV E ad l yX7_append wsX7_append { frames := 0, cells := 0, slots := 0, locals := 0 } [.ref (ad 1), .int a1] S A b (fun S' A' b' => S' = q2 S 1 1 (nI (n + 1)) ∧ A' = q2 A 2 n a1 ∧ b = b') := by
  refine MV.of (cc := cX7_append) (maxL := 2) (ret := none) RX7 rfl (by decide) rfl ?_
  intro pg e s m below meth cd C hM
  have hx := C.1
  have hb := C.2.1
  have hts := C.2.2.2.2.1
  have hA : ∀ q, s.heap.size ≤ q → qAr ad s.heap.size q := fun _ h => Or.inr h
  have hi7 : ∀ w ∈ u_ws RX7 TX7 6, w ∈ wsX7_append := by decide +kernel
  have hL0 := hts (.fieldLink RX7 9 "CrowFences$Text" "letters" "[I") (by decide +kernel)
  have hL1 := hts (.fieldLink RX7 19 "CrowFences$Text" "length" "I") (by decide +kernel)
  have hl := lv_entry ([.ref (ad 1), .int a1]) (n := 2) (Nat.le_of_ble_eq_true rfl)
  rw [lg_entry_eq]
  generalize (lg_sl ([.ref (ad 1), .int a1]) ++ List.replicate (2 - (lg_sl ([.ref (ad 1), .int a1])).length) Slot.unset).toArray = ls at hl ⊢
  have hl : lv_has ls 2 [(0, .ref (ad 1)), (1, .int a1)] := hl
  refine lv_aload_n hx hb dX7_append_0 rfl (lv_at hl 0 rfl) ?_
  refine q_get (o := 1) (ci := 7) (k := 0) (T := TX7) (v := .ref (ad 2)) C hM (qmem_7 E ad S A b (show qk 1 = 7 from by decide +kernel)) (by decide) rfl hi7 (by decide) hL0 rfl rfl dX7_append_1 ?_
  refine lv_aload_n hx hb dX7_append_4 rfl (lv_at hl 0 rfl) ?_
  refine q_get (o := 1) (ci := 7) (k := 1) (T := TX7) (v := .int (S 1 1)) C hM (qmem_7 E ad S A b (show qk 1 = 7 from by decide +kernel)) (by decide) rfl hi7 (by decide) hL1 rfl rfl dX7_append_5 ?_
  refine lv_as (y := nI n) hln ?_
  refine lv_iload_n hx hb dX7_append_8 rfl (lv_at hl 1 rfl) ?_
  refine q_iast C hM (show qk 2 = 12 from by decide +kernel) (by rw [(show ql 2 = 240 from by decide +kernel)]; exact vp_nI (by omega) (by omega)) dX7_append_9 (fun H locs hM => ?_)
  rw [nIc (by omega)] at hM
  obtain ⟨A_1, eA_1⟩ : ∃ zz, zz = q2 A 2 n a1 := ⟨_, rfl⟩
  rw [← eA_1] at hM
  refine lv_aload_n hx hb dX7_append_10 rfl (lv_at hl 0 rfl) ?_
  refine lv_dup hx hb dX7_append_11 rfl ?_
  refine q_get (o := 1) (ci := 7) (k := 1) (T := TX7) (v := .int (S 1 1)) C hM (qmem_7 E ad S A_1 b (show qk 1 = 7 from by decide +kernel)) (by decide) rfl hi7 (by decide) hL1 rfl rfl dX7_append_12 ?_
  refine lv_as (y := nI n) hln ?_
  refine lv_iconst (v := 1) hx hb dX7_append_15 (by decide) ?_
  refine lv_iadd hx hb dX7_append_16 ?_
  refine lv_as (y := nI (n + 1)) (nI_add _ _) ?_
  refine q_put (o := 1) (ci := 7) (k := 1) (T := TX7) (ty := .int) (v := nI (n + 1)) C hM (qmem_7 E ad S A_1 b (show qk 1 = 7 from by decide +kernel)) (by decide) rfl hi7 tyX7 tyX7_ok nmX7 (by decide) hL1 rfl rfl (by decide +kernel) rfl rfl (Nat.le_of_ble_eq_true rfl) (qs_7_1 E ad S A_1 b (show qk 1 = 7 from by decide +kernel) (nI (n + 1))) dX7_append_17 (fun H locs hM => ?_)
  obtain ⟨S_2, eS_2⟩ : ∃ zz, zz = q2 S 1 1 (nI (n + 1)) := ⟨_, rfl⟩
  rw [← eS_2] at hM
  exact q_vret C hM dX7_append_20 (by subst_vars; exact ⟨rfl, rfl, rfl⟩)

set_option maxHeartbeats 4000000 in
set_option maxRecDepth 100000 in
theorem c_X7_isFigure (E : qE) (ad : Nat → Nat) (l : Launch) (S A : qA2) (b : qB) (a0 : Int32) : MI E ad l yX7_isFigure wsX7_isFigure { frames := 0, cells := 0, slots := 0, locals := 0 } [.int a0] S A b (fun r S' A' b' => (S = S' ∧ A = A' ∧ b = b') ∧ r = q01 (48 ≤ a0 ∧ a0 ≤ 57)) := by
  refine MI.of (cc := cX7_isFigure) (maxL := 1) (ret := some .boolean) RX7 rfl (by decide) rfl ?_
  intro pg e s m below meth cd C hM
  have hx := C.1
  have hb := C.2.1
  have hts := C.2.2.2.2.1
  have hA : ∀ q, s.heap.size ≤ q → qAr ad s.heap.size q := fun _ h => Or.inr h
  have hl := lv_entry ([.int a0]) (n := 1) (Nat.le_of_ble_eq_true rfl)
  rw [lg_entry_eq]
  generalize (lg_sl ([.int a0]) ++ List.replicate (1 - (lg_sl ([.int a0])).length) Slot.unset).toArray = ls at hl ⊢
  have hl : lv_has ls 1 [(0, .int a0)] := hl
  refine lv_iload_n hx hb dX7_isFigure_0 rfl (lv_at hl 0 rfl) ?_
  refine lv_bipush (v := 48) hx hb dX7_isFigure_1 (by decide) ?_
  refine lv_icmp_lt (tgt := 16) hx hb dX7_isFigure_3 (by decide) (fun c_3 => ?_) (fun c_3 => ?_)
  · skip
    refine lv_iconst (v := 0) hx hb dX7_isFigure_16 (by decide) ?_
    exact q_zret C hM dX7_isFigure_17 rfl (by exact ⟨⟨rfl, rfl, rfl⟩, (by rw [q01, if_neg (fun z => Int32.not_le.mpr c_3 z.1)])⟩)
  · skip
    refine lv_iload_n hx hb dX7_isFigure_6 rfl (lv_at hl 0 rfl) ?_
    refine lv_bipush (v := 57) hx hb dX7_isFigure_7 (by decide) ?_
    refine lv_icmp_gt (tgt := 16) hx hb dX7_isFigure_9 (by decide) (fun c_9 => ?_) (fun c_9 => ?_)
    · skip
      refine lv_iconst (v := 0) hx hb dX7_isFigure_16 (by decide) ?_
      exact q_zret C hM dX7_isFigure_17 rfl (by exact ⟨⟨rfl, rfl, rfl⟩, (by rw [q01, if_neg (fun z => Int32.not_le.mpr c_9 z.2)])⟩)
    · skip
      refine lv_iconst (v := 1) hx hb dX7_isFigure_12 (by decide) ?_
      refine lv_goto (tgt := 17) hx hb dX7_isFigure_13 (by decide) ?_
      exact q_zret C hM dX7_isFigure_17 rfl (by exact ⟨⟨rfl, rfl, rfl⟩, (by rw [q01, if_pos ⟨Int32.not_lt.mp c_3, Int32.not_lt.mp c_9⟩])⟩)

set_option maxHeartbeats 4000000 in
set_option maxRecDepth 100000 in
theorem c_X7_skipBlanks (E : qE) (ad : Nat → Nat) (l : Launch) (S A : qA2) (b : qB) (n a : Nat) (hln : S 1 1 = nI n) (hnb : n ≤ 240) (hat : S 1 4 = nI a) (hab : a ≤ 245) : MV E ad l yX7_skipBlanks wsX7_skipBlanks { frames := 0, cells := 0, slots := 0, locals := 0 } [.ref (ad 1)] S A b (fun S' A' b' => S' = q2 S 1 4 (nI (qsk (A 2) n a)) ∧ A = A' ∧ b = b') := by
  refine MV.of (cc := cX7_skipBlanks) (maxL := 1) (ret := none) RX7 rfl (by decide) rfl ?_
  intro pg e s m below meth cd C hM
  have hx := C.1
  have hb := C.2.1
  have hts := C.2.2.2.2.1
  have hA : ∀ q, s.heap.size ≤ q → qAr ad s.heap.size q := fun _ h => Or.inr h
  have hi7 : ∀ w ∈ u_ws RX7 TX7 6, w ∈ wsX7_skipBlanks := by decide +kernel
  have hL0 := hts (.fieldLink RX7 30 "CrowFences$Text" "at" "I") (by decide +kernel)
  have hL1 := hts (.fieldLink RX7 19 "CrowFences$Text" "length" "I") (by decide +kernel)
  have hL2 := hts (.fieldLink RX7 9 "CrowFences$Text" "letters" "[I") (by decide +kernel)
  have hl := lv_entry ([.ref (ad 1)]) (n := 1) (Nat.le_of_ble_eq_true rfl)
  rw [lg_entry_eq]
  generalize (lg_sl ([.ref (ad 1)]) ++ List.replicate (1 - (lg_sl ([.ref (ad 1)])).length) Slot.unset).toArray = ls at hl ⊢
  have hl : lv_has ls 1 [(0, .ref (ad 1))] := hl
  have loop0 : ∀ (fu : Nat) (a1 : Nat) (S0 : qA2) (ha1 : a1 ≤ 245) (hs : S0 = q2 S 1 4 (nI a1)) (hv : qsk (A 2) n a = qskF (A 2) n (n - a1) a1), n - a1 < fu → ∀ (H : Heap) (locs : List Loc) (ls : Array Slot), qM E ad S0 A b (qAr ad s.heap.size) s H locs → lv_has ls 1 [(0, .ref (ad 1))] → W pg l e (headSpec wsX7_skipBlanks { frames := 0, cells := 0, slots := 0, locals := 0 }).room s m ([.ref (ad 1)] : List Value).toArray below meth cd H locs 0 0 (MQ below (qQv E ad s.heap.size (fun S' A' b' => S' = q2 S 1 4 (nI (qsk (A 2) n a)) ∧ A = A' ∧ b = b')) ([.ref (ad 1)] : List Value).toArray s 0 0 (qAr ad s.heap.size)) (F0 m 0 ls []) := by
    intro fu
    induction fu with
    | zero => intro a1 S0 ha1 hs hv hn; exact absurd hn (Nat.not_lt_zero _)
    | succ fu ih0 =>
      intro a1 S0 ha1 hs hv hn H locs ls hM hl
      refine lv_aload_n hx hb dX7_skipBlanks_0 rfl (lv_at hl 0 rfl) ?_
      refine q_get (o := 1) (ci := 7) (k := 4) (T := TX7) (v := .int (nI a1)) C hM (qmem_7 E ad S0 A b (show qk 1 = 7 from by decide +kernel)) (by decide) rfl hi7 (by decide) hL0 rfl (congrArg (fun z => some (Value.int z)) (show S0 1 4 = nI a1 from by rw [hs]; exact q2_s _ _ _ _)) dX7_skipBlanks_1 ?_
      refine lv_aload_n hx hb dX7_skipBlanks_4 rfl (lv_at hl 0 rfl) ?_
      refine q_get (o := 1) (ci := 7) (k := 1) (T := TX7) (v := .int (S 1 1)) C hM (qmem_7 E ad S0 A b (show qk 1 = 7 from by decide +kernel)) (by decide) rfl hi7 (by decide) hL1 rfl (congrArg (fun z => some (Value.int z)) (show S0 1 1 = S 1 1 from by rw [hs, q2_k _ _ (by omega)])) dX7_skipBlanks_5 ?_
      refine lv_as (y := nI n) hln ?_
      refine lv_icmp_ge (tgt := 38) hx hb dX7_skipBlanks_8 (by decide) (fun c_8 => ?_) (fun c_8 => ?_)
      · skip
        have c_8 : n ≤ a1 := (nI_leI (a := n) (b := a1) (by omega) (by omega)).mp c_8
        exact q_vret C hM dX7_skipBlanks_38 (by exact ⟨by rw [hv, show n - a1 = 0 by omega]; exact hs, rfl, rfl⟩)
      · skip
        have c_8 : ¬ (n ≤ a1) := fun z => c_8 ((nI_leI (a := n) (b := a1) (by omega) (by omega)).mpr z)
        refine lv_aload_n hx hb dX7_skipBlanks_11 rfl (lv_at hl 0 rfl) ?_
        refine q_get (o := 1) (ci := 7) (k := 0) (T := TX7) (v := .ref (ad 2)) C hM (qmem_7 E ad S0 A b (show qk 1 = 7 from by decide +kernel)) (by decide) rfl hi7 (by decide) hL2 rfl rfl dX7_skipBlanks_12 ?_
        refine lv_aload_n hx hb dX7_skipBlanks_15 rfl (lv_at hl 0 rfl) ?_
        refine q_get (o := 1) (ci := 7) (k := 4) (T := TX7) (v := .int (nI a1)) C hM (qmem_7 E ad S0 A b (show qk 1 = 7 from by decide +kernel)) (by decide) rfl hi7 (by decide) hL0 rfl (congrArg (fun z => some (Value.int z)) (show S0 1 4 = nI a1 from by rw [hs]; exact q2_s _ _ _ _)) dX7_skipBlanks_16 ?_
        refine q_iald (v := A 2 a1) C hM (show qk 2 = 12 from by decide +kernel) (by rw [(show ql 2 = 240 from by decide +kernel)]; exact vp_nI (by omega) (by omega)) (by rw [nIc (by omega)]) dX7_skipBlanks_19 ?_
        refine lv_bipush (v := 32) hx hb dX7_skipBlanks_20 (by decide) ?_
        refine lv_icmp_ne (tgt := 38) hx hb dX7_skipBlanks_22 (by decide) (fun c_22 => ?_) (fun c_22 => ?_)
        · skip
          exact q_vret C hM dX7_skipBlanks_38 (by exact ⟨by rw [hv, show n - a1 = (n - (a1 + 1)) + 1 by omega, show qskF (A 2) n (n - (a1 + 1) + 1) a1 = a1 from if_neg (fun z => c_22 z.2)]; exact hs, rfl, rfl⟩)
        · skip
          refine lv_aload_n hx hb dX7_skipBlanks_25 rfl (lv_at hl 0 rfl) ?_
          refine lv_dup hx hb dX7_skipBlanks_26 rfl ?_
          refine q_get (o := 1) (ci := 7) (k := 4) (T := TX7) (v := .int (nI a1)) C hM (qmem_7 E ad S0 A b (show qk 1 = 7 from by decide +kernel)) (by decide) rfl hi7 (by decide) hL0 rfl (congrArg (fun z => some (Value.int z)) (show S0 1 4 = nI a1 from by rw [hs]; exact q2_s _ _ _ _)) dX7_skipBlanks_27 ?_
          refine lv_iconst (v := 1) hx hb dX7_skipBlanks_30 (by decide) ?_
          refine lv_iadd hx hb dX7_skipBlanks_31 ?_
          refine lv_as (y := nI (a1 + 1)) (nI_add _ _) ?_
          refine q_put (o := 1) (ci := 7) (k := 4) (T := TX7) (ty := .int) (v := nI (a1 + 1)) C hM (qmem_7 E ad S0 A b (show qk 1 = 7 from by decide +kernel)) (by decide) rfl hi7 tyX7 tyX7_ok nmX7 (by decide) hL0 rfl rfl (by decide +kernel) rfl rfl (Nat.le_of_ble_eq_true rfl) (qs_7_4 E ad S0 A b (show qk 1 = 7 from by decide +kernel) (nI (a1 + 1))) dX7_skipBlanks_32 (fun H locs hM => ?_)
          obtain ⟨S_1, eS_1⟩ : ∃ zz, zz = q2 S0 1 4 (nI (a1 + 1)) := ⟨_, rfl⟩
          rw [← eS_1] at hM
          refine lv_goto (tgt := 0) hx hb dX7_skipBlanks_35 (by decide) ?_
          exact ih0 (a1 + 1) S_1 (by omega) (by rw [eS_1, hs, q2_q2]) (by rw [hv, show n - a1 = (n - (a1 + 1)) + 1 by omega]; exact if_pos ⟨by omega, c_22⟩) (by omega) _ _ _ hM hl
  exact loop0 (n - a + 1) a S (by omega) (by rw [← hat, q2_self]) rfl (Nat.lt_succ_self _) _ _ _ hM hl

set_option maxHeartbeats 4000000 in
set_option maxRecDepth 100000 in
theorem c_X7_refuse (E : qE) (ad : Nat → Nat) (l : Launch) (S A : qA2) (b : qB) (a1 a2 : Int32) (hk0 : S 1 2 = 0) : MV E ad l yX7_refuse wsX7_refuse { frames := 0, cells := 0, slots := 0, locals := 0 } [.ref (ad 1), .int a1, .int a2] S A b (fun S' A' b' => S' = q2 (q2 S 1 2 a1) 1 3 a2 ∧ A = A' ∧ b = b') := by
  refine MV.of (cc := cX7_refuse) (maxL := 3) (ret := none) RX7 rfl (by decide) rfl ?_
  intro pg e s m below meth cd C hM
  have hx := C.1
  have hb := C.2.1
  have hts := C.2.2.2.2.1
  have hA : ∀ q, s.heap.size ≤ q → qAr ad s.heap.size q := fun _ h => Or.inr h
  have hi7 : ∀ w ∈ u_ws RX7 TX7 6, w ∈ wsX7_refuse := by decide +kernel
  have hL0 := hts (.fieldLink RX7 27 "CrowFences$Text" "faultKind" "I") (by decide +kernel)
  have hL1 := hts (.fieldLink RX7 15 "CrowFences$Text" "faultAt" "I") (by decide +kernel)
  have hl := lv_entry ([.ref (ad 1), .int a1, .int a2]) (n := 3) (Nat.le_of_ble_eq_true rfl)
  rw [lg_entry_eq]
  generalize (lg_sl ([.ref (ad 1), .int a1, .int a2]) ++ List.replicate (3 - (lg_sl ([.ref (ad 1), .int a1, .int a2])).length) Slot.unset).toArray = ls at hl ⊢
  have hl : lv_has ls 3 [(0, .ref (ad 1)), (1, .int a1), (2, .int a2)] := hl
  refine lv_aload_n hx hb dX7_refuse_0 rfl (lv_at hl 0 rfl) ?_
  refine q_get (o := 1) (ci := 7) (k := 2) (T := TX7) (v := .int (S 1 2)) C hM (qmem_7 E ad S A b (show qk 1 = 7 from by decide +kernel)) (by decide) rfl hi7 (by decide) hL0 rfl rfl dX7_refuse_1 ?_
  refine lv_if_ne (tgt := 17) hx hb dX7_refuse_4 (by decide) (fun c_4 => ?_) (fun c_4 => ?_)
  · skip
    exact absurd hk0 c_4
  · skip
    refine lv_aload_n hx hb dX7_refuse_7 rfl (lv_at hl 0 rfl) ?_
    refine lv_iload_n hx hb dX7_refuse_8 rfl (lv_at hl 1 rfl) ?_
    refine q_put (o := 1) (ci := 7) (k := 2) (T := TX7) (ty := .int) (v := a1) C hM (qmem_7 E ad S A b (show qk 1 = 7 from by decide +kernel)) (by decide) rfl hi7 tyX7 tyX7_ok nmX7 (by decide) hL0 rfl rfl (by decide +kernel) rfl rfl (Nat.le_of_ble_eq_true rfl) (qs_7_2 E ad S A b (show qk 1 = 7 from by decide +kernel) a1) dX7_refuse_9 (fun H locs hM => ?_)
    obtain ⟨S_1, eS_1⟩ : ∃ zz, zz = q2 S 1 2 a1 := ⟨_, rfl⟩
    rw [← eS_1] at hM
    refine lv_aload_n hx hb dX7_refuse_12 rfl (lv_at hl 0 rfl) ?_
    refine lv_iload_n hx hb dX7_refuse_13 rfl (lv_at hl 2 rfl) ?_
    refine q_put (o := 1) (ci := 7) (k := 3) (T := TX7) (ty := .int) (v := a2) C hM (qmem_7 E ad S_1 A b (show qk 1 = 7 from by decide +kernel)) (by decide) rfl hi7 tyX7 tyX7_ok nmX7 (by decide) hL1 rfl rfl (by decide +kernel) rfl rfl (Nat.le_of_ble_eq_true rfl) (qs_7_3 E ad S_1 A b (show qk 1 = 7 from by decide +kernel) a2) dX7_refuse_14 (fun H locs hM => ?_)
    obtain ⟨S_2, eS_2⟩ : ∃ zz, zz = q2 S_1 1 3 a2 := ⟨_, rfl⟩
    rw [← eS_2] at hM
    exact q_vret C hM dX7_refuse_17 (by exact ⟨by subst_vars; rfl, rfl, rfl⟩)

set_option maxHeartbeats 4000000 in
set_option maxRecDepth 100000 in
theorem c_X7_readWord (E : qE) (ad : Nat → Nat) (l : Launch) (S A : qA2) (b : qB) (a1 : Int32) (n a : Nat) (hln : S 1 1 = nI n) (hnb : n ≤ 240) (hat : S 1 4 = nI a) (hab : a ≤ 245) (hk0 : S 1 2 = 0) : MV E ad l yX7_readWord wsX7_readWord { frames := 1, cells := 0, slots := 0, locals := 22 } [.ref (ad 1), .int a1] S A b (fun S' A' b' => S' = (if a1 = 0 then q2 (q2 (q2 S 1 2 3) 1 3 (nI a)) 1 4 (nI (a + 1)) else q2 S 1 4 (nI (a + 1))) ∧ A = A' ∧ b = b') := by
  refine MV.of (cc := cX7_readWord) (maxL := 2) (ret := none) RX7 rfl (by decide) rfl ?_
  intro pg e s m below meth cd C hM
  have hx := C.1
  have hb := C.2.1
  have hts := C.2.2.2.2.1
  have hA : ∀ q, s.heap.size ≤ q → qAr ad s.heap.size q := fun _ h => Or.inr h
  have hi7 : ∀ w ∈ u_ws RX7 TX7 6, w ∈ wsX7_readWord := by decide +kernel
  have hL0 := hts (.fieldLink RX7 30 "CrowFences$Text" "at" "I") (by decide +kernel)
  have hl := lv_entry ([.ref (ad 1), .int a1]) (n := 2) (Nat.le_of_ble_eq_true rfl)
  rw [lg_entry_eq]
  generalize (lg_sl ([.ref (ad 1), .int a1]) ++ List.replicate (2 - (lg_sl ([.ref (ad 1), .int a1])).length) Slot.unset).toArray = ls at hl ⊢
  have hl : lv_has ls 2 [(0, .ref (ad 1)), (1, .int a1)] := hl
  refine lv_iload_n hx hb dX7_readWord_0 rfl (lv_at hl 1 rfl) ?_
  refine lv_if_ne (tgt := 13) hx hb dX7_readWord_1 (by decide) (fun c_1 => ?_) (fun c_1 => ?_)
  · skip
    refine lv_aload_n hx hb dX7_readWord_13 rfl (lv_at hl 0 rfl) ?_
    refine lv_dup hx hb dX7_readWord_14 rfl ?_
    refine q_get (o := 1) (ci := 7) (k := 4) (T := TX7) (v := .int (S 1 4)) C hM (qmem_7 E ad S A b (show qk 1 = 7 from by decide +kernel)) (by decide) rfl hi7 (by decide) hL0 rfl rfl dX7_readWord_15 ?_
    refine lv_as (y := nI a) hat ?_
    refine lv_iconst (v := 1) hx hb dX7_readWord_18 (by decide) ?_
    refine lv_iadd hx hb dX7_readWord_19 ?_
    refine lv_as (y := nI (a + 1)) (nI_add _ _) ?_
    refine q_put (o := 1) (ci := 7) (k := 4) (T := TX7) (ty := .int) (v := nI (a + 1)) C hM (qmem_7 E ad S A b (show qk 1 = 7 from by decide +kernel)) (by decide) rfl hi7 tyX7 tyX7_ok nmX7 (by decide) hL0 rfl rfl (by decide +kernel) rfl rfl (Nat.le_of_ble_eq_true rfl) (qs_7_4 E ad S A b (show qk 1 = 7 from by decide +kernel) (nI (a + 1))) dX7_readWord_20 (fun H locs hM => ?_)
    obtain ⟨S_1, eS_1⟩ : ∃ zz, zz = q2 S 1 4 (nI (a + 1)) := ⟨_, rfl⟩
    rw [← eS_1] at hM
    exact q_vret C hM dX7_readWord_23 (by exact ⟨by rw [if_neg c_1]; exact eS_1, rfl, rfl⟩)
  · skip
    refine lv_aload_n hx hb dX7_readWord_4 rfl (lv_at hl 0 rfl) ?_
    refine lv_iconst (v := 3) hx hb dX7_readWord_5 (by decide) ?_
    refine lv_aload_n hx hb dX7_readWord_6 rfl (lv_at hl 0 rfl) ?_
    refine q_get (o := 1) (ci := 7) (k := 4) (T := TX7) (v := .int (S 1 4)) C hM (qmem_7 E ad S A b (show qk 1 = 7 from by decide +kernel)) (by decide) rfl hi7 (by decide) hL0 rfl rfl dX7_readWord_7 ?_
    refine lv_as (y := nI a) hat ?_
    refine q_callVV (n := 2) (o := 1) (As := [.int 3, .int (nI a)]) (rest := []) C hM hA (c_X7_refuse E ad l S A b 3 (nI a) hk0) (qmem_7 E ad S A b (show qk 1 = 7 from by decide +kernel)) (by decide) rfl gX7_readWord_X7_refuse rfl rfl rfl (by decide +kernel) ⟨Nat.le_of_ble_eq_true rfl, Nat.le_of_ble_eq_true rfl⟩ rfl hl.1 rfl (Nat.le_of_ble_eq_true rfl) ⟨Nat.zero_le _, Nat.zero_le _⟩ dX7_readWord_10 (fun S_3 A_4 b_5 H locs qr_2 hM => ?_)
    obtain ⟨eS_3, e2, e3⟩ := qr_2
    subst e2; subst e3
    obtain ⟨S_6, eS_6⟩ : ∃ zz, zz = q2 S 1 2 3 := ⟨_, rfl⟩
    rw [← eS_6] at eS_3
    refine lv_aload_n hx hb dX7_readWord_13 rfl (lv_at hl 0 rfl) ?_
    refine lv_dup hx hb dX7_readWord_14 rfl ?_
    refine q_get (o := 1) (ci := 7) (k := 4) (T := TX7) (v := .int (S 1 4)) C hM (qmem_7 E ad S_3 A b (show qk 1 = 7 from by decide +kernel)) (by decide) rfl hi7 (by decide) hL0 rfl (congrArg (fun z => some (Value.int z)) (show S_3 1 4 = S 1 4 from by rw [eS_3, q2_k _ _ (by omega)]; rw [eS_6, q2_k _ _ (by omega)])) dX7_readWord_15 ?_
    refine lv_as (y := nI a) hat ?_
    refine lv_iconst (v := 1) hx hb dX7_readWord_18 (by decide) ?_
    refine lv_iadd hx hb dX7_readWord_19 ?_
    refine lv_as (y := nI (a + 1)) (nI_add _ _) ?_
    refine q_put (o := 1) (ci := 7) (k := 4) (T := TX7) (ty := .int) (v := nI (a + 1)) C hM (qmem_7 E ad S_3 A b (show qk 1 = 7 from by decide +kernel)) (by decide) rfl hi7 tyX7 tyX7_ok nmX7 (by decide) hL0 rfl rfl (by decide +kernel) rfl rfl (Nat.le_of_ble_eq_true rfl) (qs_7_4 E ad S_3 A b (show qk 1 = 7 from by decide +kernel) (nI (a + 1))) dX7_readWord_20 (fun H locs hM => ?_)
    obtain ⟨S_7, eS_7⟩ : ∃ zz, zz = q2 S_3 1 4 (nI (a + 1)) := ⟨_, rfl⟩
    rw [← eS_7] at hM
    exact q_vret C hM dX7_readWord_23 (by exact ⟨by rw [if_pos c_1]; subst_vars; rfl, rfl, rfl⟩)

set_option maxHeartbeats 4000000 in
set_option maxRecDepth 100000 in
theorem c_X7_readNumber (E : qE) (ad : Nat → Nat) (l : Launch) (S A : qA2) (b : qB) (lo mo : Nat) (n a : Nat) (hln : S 1 1 = nI n) (hnb : n ≤ 240) (hat : S 1 4 = nI a) (hab : a ≤ 245) (hk0 : S 1 2 = 0) (hlo : lo < 1000) (hmo : mo < 1000) : MI E ad l yX7_readNumber wsX7_readNumber { frames := 1, cells := 0, slots := 0, locals := 22 } [.ref (ad 1), .int (nI lo), .int (nI mo)] S A b (fun r S' A' b' => (A = A' ∧ b = b') ∧ (∀ i, i ≠ 1 → S' i = S i) ∧ S' 1 1 = nI n ∧ ((∃ kd pl, qnum qstX (A 2) n a lo mo = .inl (kd, pl) ∧ (kd = 1 ∨ kd = 2) ∧ r = 0 ∧ S' 1 2 = nI kd ∧ S' 1 3 = nI pl ∧ ∃ a', a' ≤ max n a ∧ S' 1 4 = nI a') ∨ (∃ v e a1, qnum qstX (A 2) n a lo mo = .inr (v, e, a1) ∧ lo ≤ v ∧ v ≤ mo ∧ e ≤ max n a ∧ r = nI v ∧ S' 1 2 = 0 ∧ S' 1 3 = S 1 3 ∧ S' 1 4 = nI e ∧ S' 1 5 = nI a1))) := by
  refine MI.of (cc := cX7_readNumber) (maxL := 5) (ret := some .int) RX7 rfl (by decide) rfl ?_
  intro pg e s m below meth cd C hM
  have hx := C.1
  have hb := C.2.1
  have hts := C.2.2.2.2.1
  have hA : ∀ q, s.heap.size ≤ q → qAr ad s.heap.size q := fun _ h => Or.inr h
  have hi7 : ∀ w ∈ u_ws RX7 TX7 6, w ∈ wsX7_readNumber := by decide +kernel
  have hL0 := hts (.fieldLink RX7 27 "CrowFences$Text" "faultKind" "I") (by decide +kernel)
  have hL1 := hts (.fieldLink RX7 30 "CrowFences$Text" "at" "I") (by decide +kernel)
  have hL2 := hts (.fieldLink RX7 83 "CrowFences$Text" "numberAt" "I") (by decide +kernel)
  have hL3 := hts (.fieldLink RX7 19 "CrowFences$Text" "length" "I") (by decide +kernel)
  have hL4 := hts (.fieldLink RX7 9 "CrowFences$Text" "letters" "[I") (by decide +kernel)
  have hl := lv_entry ([.ref (ad 1), .int (nI lo), .int (nI mo)]) (n := 5) (Nat.le_of_ble_eq_true rfl)
  rw [lg_entry_eq]
  generalize (lg_sl ([.ref (ad 1), .int (nI lo), .int (nI mo)]) ++ List.replicate (5 - (lg_sl ([.ref (ad 1), .int (nI lo), .int (nI mo)])).length) Slot.unset).toArray = ls at hl ⊢
  have hl : lv_has ls 5 [(0, .ref (ad 1)), (1, .int (nI lo)), (2, .int (nI mo))] := hl
  refine lv_aload_n hx hb dX7_readNumber_0 rfl (lv_at hl 0 rfl) ?_
  refine q_get (o := 1) (ci := 7) (k := 2) (T := TX7) (v := .int (S 1 2)) C hM (qmem_7 E ad S A b (show qk 1 = 7 from by decide +kernel)) (by decide) rfl hi7 (by decide) hL0 rfl rfl dX7_readNumber_1 ?_
  refine lv_if_eq (tgt := 9) hx hb dX7_readNumber_4 (by decide) (fun c_4 => ?_) (fun c_4 => ?_)
  · skip
    refine lv_aload_n hx hb dX7_readNumber_9 rfl (lv_at hl 0 rfl) ?_
    refine q_callVV (n := 0) (o := 1) (As := []) (rest := []) C hM hA (c_X7_skipBlanks E ad l S A b n a hln (by omega) hat (by omega)) (qmem_7 E ad S A b (show qk 1 = 7 from by decide +kernel)) (by decide) rfl gX7_readNumber_X7_skipBlanks rfl rfl rfl (by decide +kernel) ⟨Nat.le_of_ble_eq_true rfl, Nat.le_of_ble_eq_true rfl⟩ rfl hl.1 rfl (Nat.le_of_ble_eq_true rfl) ⟨Nat.zero_le _, Nat.zero_le _⟩ dX7_readNumber_10 (fun S_2 A_3 b_4 H locs qr_1 hM => ?_)
    obtain ⟨eS_2, e2, e3⟩ := qr_1
    subst e2; subst e3
    obtain ⟨sk_5, esk_5⟩ : ∃ zz, zz = qsk (A 2) n a := ⟨_, rfl⟩
    have lsk_5 := qsk_le (A 2) n a
    rw [← esk_5] at eS_2 lsk_5
    refine lv_aload_n hx hb dX7_readNumber_13 rfl (lv_at hl 0 rfl) ?_
    refine lv_aload_n hx hb dX7_readNumber_14 rfl (lv_at hl 0 rfl) ?_
    refine q_get (o := 1) (ci := 7) (k := 4) (T := TX7) (v := .int (nI sk_5)) C hM (qmem_7 E ad S_2 A b (show qk 1 = 7 from by decide +kernel)) (by decide) rfl hi7 (by decide) hL1 rfl (congrArg (fun z => some (Value.int z)) (show S_2 1 4 = nI sk_5 from by rw [eS_2]; exact q2_s _ _ _ _)) dX7_readNumber_15 ?_
    refine q_put (o := 1) (ci := 7) (k := 5) (T := TX7) (ty := .int) (v := nI sk_5) C hM (qmem_7 E ad S_2 A b (show qk 1 = 7 from by decide +kernel)) (by decide) rfl hi7 tyX7 tyX7_ok nmX7 (by decide) hL2 rfl rfl (by decide +kernel) rfl rfl (Nat.le_of_ble_eq_true rfl) (qs_7_5 E ad S_2 A b (show qk 1 = 7 from by decide +kernel) (nI sk_5)) dX7_readNumber_18 (fun H locs hM => ?_)
    obtain ⟨S_6, eS_6⟩ : ∃ zz, zz = q2 S_2 1 5 (nI sk_5) := ⟨_, rfl⟩
    rw [← eS_6] at hM
    refine lv_iconst (v := 0) hx hb dX7_readNumber_21 (by decide) ?_
    refine lv_istore_n (lv' := [(3, .int 0), (0, .ref (ad 1)), (1, .int (nI lo)), (2, .int (nI mo))]) hx hb dX7_readNumber_22 rfl hl (by decide) rfl (fun ls hl => ?_)
    have loop23 : ∀ (fu : Nat) (a1 : Nat) (v : Int32) (S23 : qA2) (ha1 : sk_5 ≤ a1 ∧ a1 ≤ max n a) (hs : S23 = q2 S_6 1 4 (nI a1)) (hv : qdg qstX (A 2) n (n - sk_5) sk_5 0 = qdg qstX (A 2) n (n - a1) a1 v), n - a1 < fu → ∀ (H : Heap) (locs : List Loc) (ls : Array Slot), qM E ad S23 A b (qAr ad s.heap.size) s H locs → lv_has ls 5 [(3, .int v), (0, .ref (ad 1)), (1, .int (nI lo)), (2, .int (nI mo))] → W pg l e (headSpec wsX7_readNumber { frames := 1, cells := 0, slots := 0, locals := 22 }).room s m ([.ref (ad 1), .int (nI lo), .int (nI mo)] : List Value).toArray below meth cd H locs 0 0 (MQ below (qQi E ad s.heap.size (fun r S' A' b' => (A = A' ∧ b = b') ∧ (∀ i, i ≠ 1 → S' i = S i) ∧ S' 1 1 = nI n ∧ ((∃ kd pl, qnum qstX (A 2) n a lo mo = .inl (kd, pl) ∧ (kd = 1 ∨ kd = 2) ∧ r = 0 ∧ S' 1 2 = nI kd ∧ S' 1 3 = nI pl ∧ ∃ a', a' ≤ max n a ∧ S' 1 4 = nI a') ∨ (∃ v e a1, qnum qstX (A 2) n a lo mo = .inr (v, e, a1) ∧ lo ≤ v ∧ v ≤ mo ∧ e ≤ max n a ∧ r = nI v ∧ S' 1 2 = 0 ∧ S' 1 3 = S 1 3 ∧ S' 1 4 = nI e ∧ S' 1 5 = nI a1)))) ([.ref (ad 1), .int (nI lo), .int (nI mo)] : List Value).toArray s 0 0 (qAr ad s.heap.size)) (F0 m 23 ls []) := by
      intro fu
      induction fu with
      | zero => intro a1 v S23 ha1 hs hv hn; exact absurd hn (Nat.not_lt_zero _)
      | succ fu ih23 =>
        intro a1 v S23 ha1 hs hv hn H locs ls hM hl
        refine lv_aload_n hx hb dX7_readNumber_23 rfl (lv_at hl 1 rfl) ?_
        refine q_get (o := 1) (ci := 7) (k := 4) (T := TX7) (v := .int (nI a1)) C hM (qmem_7 E ad S23 A b (show qk 1 = 7 from by decide +kernel)) (by decide) rfl hi7 (by decide) hL1 rfl (congrArg (fun z => some (Value.int z)) (show S23 1 4 = nI a1 from by rw [hs]; exact q2_s _ _ _ _)) dX7_readNumber_24 ?_
        refine lv_aload_n hx hb dX7_readNumber_27 rfl (lv_at hl 1 rfl) ?_
        refine q_get (o := 1) (ci := 7) (k := 1) (T := TX7) (v := .int (S 1 1)) C hM (qmem_7 E ad S23 A b (show qk 1 = 7 from by decide +kernel)) (by decide) rfl hi7 (by decide) hL3 rfl (congrArg (fun z => some (Value.int z)) (show S23 1 1 = S 1 1 from by rw [hs, q2_k _ _ (by omega)]; rw [eS_6, q2_k _ _ (by omega)]; rw [eS_2, q2_k _ _ (by omega)])) dX7_readNumber_28 ?_
        refine lv_as (y := nI n) hln ?_
        refine lv_icmp_ge (tgt := 84) hx hb dX7_readNumber_31 (by decide) (fun c_31 => ?_) (fun c_31 => ?_)
        · skip
          have c_31 : n ≤ a1 := (nI_leI (a := n) (b := a1) (by omega) (by omega)).mp c_31
          refine lv_aload_n hx hb dX7_readNumber_84 rfl (lv_at hl 1 rfl) ?_
          refine q_get (o := 1) (ci := 7) (k := 4) (T := TX7) (v := .int (nI a1)) C hM (qmem_7 E ad S23 A b (show qk 1 = 7 from by decide +kernel)) (by decide) rfl hi7 (by decide) hL1 rfl (congrArg (fun z => some (Value.int z)) (show S23 1 4 = nI a1 from by rw [hs]; exact q2_s _ _ _ _)) dX7_readNumber_85 ?_
          refine lv_aload_n hx hb dX7_readNumber_88 rfl (lv_at hl 1 rfl) ?_
          refine q_get (o := 1) (ci := 7) (k := 5) (T := TX7) (v := .int (nI sk_5)) C hM (qmem_7 E ad S23 A b (show qk 1 = 7 from by decide +kernel)) (by decide) rfl hi7 (by decide) hL2 rfl (congrArg (fun z => some (Value.int z)) (show S23 1 5 = nI sk_5 from by rw [hs, q2_k _ _ (by omega)]; rw [eS_6]; exact q2_s _ _ _ _)) dX7_readNumber_89 ?_
          refine lv_isub hx hb dX7_readNumber_92 ?_
          refine lv_as (y := nI (a1 - sk_5)) (pk_sub (a := a1) (b := sk_5) (by omega)) ?_
          refine lv_istore (lv' := [(4, .int (nI (a1 - sk_5))), (3, .int v), (0, .ref (ad 1)), (1, .int (nI lo)), (2, .int (nI mo))]) hx hb dX7_readNumber_93 hl (by decide) rfl (fun ls hl => ?_)
          refine lv_iload hx hb dX7_readNumber_95 (lv_at hl 0 rfl) ?_
          refine lv_if_ne (tgt := 112) hx hb dX7_readNumber_97 (by decide) (fun c_97 => ?_) (fun c_97 => ?_)
          · skip
            have c_97 : ¬ (a1 - sk_5 = 0) := fun z => c_97 ((nI_eq (a := a1 - sk_5) (b := 0) (by omega) (by omega)).mpr z)
            refine lv_iload hx hb dX7_readNumber_112 (lv_at hl 0 rfl) ?_
            refine lv_iconst (v := 3) hx hb dX7_readNumber_114 (by decide) ?_
            refine lv_icmp_gt (tgt := 128) hx hb dX7_readNumber_115 (by decide) (fun c_115 => ?_) (fun c_115 => ?_)
            · skip
              have c_115 : 3 < a1 - sk_5 := (nI_ltI (a := 3) (b := a1 - sk_5) (by omega) (by omega)).mp c_115
              refine lv_aload_n hx hb dX7_readNumber_128 rfl (lv_at hl 2 rfl) ?_
              refine lv_iconst (v := 2) hx hb dX7_readNumber_129 (by decide) ?_
              refine lv_aload_n hx hb dX7_readNumber_130 rfl (lv_at hl 2 rfl) ?_
              refine q_get (o := 1) (ci := 7) (k := 5) (T := TX7) (v := .int (nI sk_5)) C hM (qmem_7 E ad S23 A b (show qk 1 = 7 from by decide +kernel)) (by decide) rfl hi7 (by decide) hL2 rfl (congrArg (fun z => some (Value.int z)) (show S23 1 5 = nI sk_5 from by rw [hs, q2_k _ _ (by omega)]; rw [eS_6]; exact q2_s _ _ _ _)) dX7_readNumber_131 ?_
              refine q_callVV (n := 2) (o := 1) (As := [.int 2, .int (nI sk_5)]) (rest := []) C hM hA (c_X7_refuse E ad l S23 A b 2 (nI sk_5) ((show S23 1 2 = S 1 2 from by rw [hs, q2_k _ _ (by omega)]; rw [eS_6, q2_k _ _ (by omega)]; rw [eS_2, q2_k _ _ (by omega)]).trans hk0)) (qmem_7 E ad S23 A b (show qk 1 = 7 from by decide +kernel)) (by decide) rfl gX7_readNumber_X7_refuse rfl rfl rfl (by decide +kernel) ⟨Nat.le_of_ble_eq_true rfl, Nat.le_of_ble_eq_true rfl⟩ rfl hl.1 rfl (Nat.le_of_ble_eq_true rfl) ⟨Nat.zero_le _, Nat.zero_le _⟩ dX7_readNumber_134 (fun S_8 A_9 b_10 H locs qr_7 hM => ?_)
              obtain ⟨eS_8, e2, e3⟩ := qr_7
              subst e2; subst e3
              obtain ⟨S_11, eS_11⟩ : ∃ zz, zz = q2 S23 1 2 2 := ⟨_, rfl⟩
              rw [← eS_11] at eS_8
              refine lv_aload_n hx hb dX7_readNumber_137 rfl (lv_at hl 2 rfl) ?_
              refine q_get (o := 1) (ci := 7) (k := 2) (T := TX7) (v := .int 2) C hM (qmem_7 E ad S_8 A b (show qk 1 = 7 from by decide +kernel)) (by decide) rfl hi7 (by decide) hL0 rfl (congrArg (fun z => some (Value.int z)) (show S_8 1 2 = 2 from by rw [eS_8, q2_k _ _ (by omega)]; rw [eS_11]; exact q2_s _ _ _ _)) dX7_readNumber_138 ?_
              refine lv_if_ne (tgt := 148) hx hb dX7_readNumber_141 (by decide) (fun c_141 => ?_) (fun c_141 => ?_)
              · skip
                have c_141 : ¬ (2 = 0) := fun z => c_141 ((nI_eq (a := 2) (b := 0) (by omega) (by omega)).mpr z)
                refine lv_iconst (v := 0) hx hb dX7_readNumber_148 (by decide) ?_
                exact q_iret C hM dX7_readNumber_149 (by have hqd : qdg qstX (A 2) n (n - sk_5) sk_5 0 = (a1, v) := hv.trans (by rw [show n - a1 = 0 by omega]; rfl); exact ⟨⟨rfl, rfl⟩, (fun i hi => by rw [eS_8, q2_or _ _ hi, eS_11, q2_or _ _ hi, hs, q2_or _ _ hi, eS_6, q2_or _ _ hi, eS_2, q2_or _ _ hi]), ((show S_8 1 1 = S 1 1 from by rw [eS_8, q2_k _ _ (by omega)]; rw [eS_11, q2_k _ _ (by omega)]; rw [hs, q2_k _ _ (by omega)]; rw [eS_6, q2_k _ _ (by omega)]; rw [eS_2, q2_k _ _ (by omega)]).trans hln), Or.inl ⟨2, sk_5, by simp only [qnum, ← esk_5]; rw [hqd]; rw [if_neg (show ¬ a1 = sk_5 by omega)]; exact if_pos (Or.inl c_115), by omega, rfl, (show S_8 1 2 = 2 from by rw [eS_8, q2_k _ _ (by omega)]; rw [eS_11]; exact q2_s _ _ _ _), (show S_8 1 3 = nI sk_5 from by rw [eS_8]; exact q2_s _ _ _ _), a1, by omega, (show S_8 1 4 = nI a1 from by rw [eS_8, q2_k _ _ (by omega)]; rw [eS_11, q2_k _ _ (by omega)]; rw [hs]; exact q2_s _ _ _ _)⟩⟩)
              · skip
                have c_141 : 2 = 0 := (nI_eq (a := 2) (b := 0) (by omega) (by omega)).mp c_141
                exact absurd c_141 (by decide)
            · skip
              have c_115 : ¬ (3 < a1 - sk_5) := fun z => c_115 ((nI_ltI (a := 3) (b := a1 - sk_5) (by omega) (by omega)).mpr z)
              refine lv_iload_n hx hb dX7_readNumber_118 rfl (lv_at hl 1 rfl) ?_
              refine lv_iload_n hx hb dX7_readNumber_119 rfl (lv_at hl 3 rfl) ?_
              refine lv_icmp_lt (tgt := 128) hx hb dX7_readNumber_120 (by decide) (fun c_120 => ?_) (fun c_120 => ?_)
              · skip
                refine lv_aload_n hx hb dX7_readNumber_128 rfl (lv_at hl 2 rfl) ?_
                refine lv_iconst (v := 2) hx hb dX7_readNumber_129 (by decide) ?_
                refine lv_aload_n hx hb dX7_readNumber_130 rfl (lv_at hl 2 rfl) ?_
                refine q_get (o := 1) (ci := 7) (k := 5) (T := TX7) (v := .int (nI sk_5)) C hM (qmem_7 E ad S23 A b (show qk 1 = 7 from by decide +kernel)) (by decide) rfl hi7 (by decide) hL2 rfl (congrArg (fun z => some (Value.int z)) (show S23 1 5 = nI sk_5 from by rw [hs, q2_k _ _ (by omega)]; rw [eS_6]; exact q2_s _ _ _ _)) dX7_readNumber_131 ?_
                refine q_callVV (n := 2) (o := 1) (As := [.int 2, .int (nI sk_5)]) (rest := []) C hM hA (c_X7_refuse E ad l S23 A b 2 (nI sk_5) ((show S23 1 2 = S 1 2 from by rw [hs, q2_k _ _ (by omega)]; rw [eS_6, q2_k _ _ (by omega)]; rw [eS_2, q2_k _ _ (by omega)]).trans hk0)) (qmem_7 E ad S23 A b (show qk 1 = 7 from by decide +kernel)) (by decide) rfl gX7_readNumber_X7_refuse rfl rfl rfl (by decide +kernel) ⟨Nat.le_of_ble_eq_true rfl, Nat.le_of_ble_eq_true rfl⟩ rfl hl.1 rfl (Nat.le_of_ble_eq_true rfl) ⟨Nat.zero_le _, Nat.zero_le _⟩ dX7_readNumber_134 (fun S_13 A_14 b_15 H locs qr_12 hM => ?_)
                obtain ⟨eS_13, e2, e3⟩ := qr_12
                subst e2; subst e3
                obtain ⟨S_16, eS_16⟩ : ∃ zz, zz = q2 S23 1 2 2 := ⟨_, rfl⟩
                rw [← eS_16] at eS_13
                refine lv_aload_n hx hb dX7_readNumber_137 rfl (lv_at hl 2 rfl) ?_
                refine q_get (o := 1) (ci := 7) (k := 2) (T := TX7) (v := .int 2) C hM (qmem_7 E ad S_13 A b (show qk 1 = 7 from by decide +kernel)) (by decide) rfl hi7 (by decide) hL0 rfl (congrArg (fun z => some (Value.int z)) (show S_13 1 2 = 2 from by rw [eS_13, q2_k _ _ (by omega)]; rw [eS_16]; exact q2_s _ _ _ _)) dX7_readNumber_138 ?_
                refine lv_if_ne (tgt := 148) hx hb dX7_readNumber_141 (by decide) (fun c_141 => ?_) (fun c_141 => ?_)
                · skip
                  have c_141 : ¬ (2 = 0) := fun z => c_141 ((nI_eq (a := 2) (b := 0) (by omega) (by omega)).mpr z)
                  refine lv_iconst (v := 0) hx hb dX7_readNumber_148 (by decide) ?_
                  exact q_iret C hM dX7_readNumber_149 (by have hqd : qdg qstX (A 2) n (n - sk_5) sk_5 0 = (a1, v) := hv.trans (by rw [show n - a1 = 0 by omega]; rfl); exact ⟨⟨rfl, rfl⟩, (fun i hi => by rw [eS_13, q2_or _ _ hi, eS_16, q2_or _ _ hi, hs, q2_or _ _ hi, eS_6, q2_or _ _ hi, eS_2, q2_or _ _ hi]), ((show S_13 1 1 = S 1 1 from by rw [eS_13, q2_k _ _ (by omega)]; rw [eS_16, q2_k _ _ (by omega)]; rw [hs, q2_k _ _ (by omega)]; rw [eS_6, q2_k _ _ (by omega)]; rw [eS_2, q2_k _ _ (by omega)]).trans hln), Or.inl ⟨2, sk_5, by simp only [qnum, ← esk_5]; rw [hqd]; rw [if_neg (show ¬ a1 = sk_5 by omega)]; exact if_pos (Or.inr (Or.inl c_120)), by omega, rfl, (show S_13 1 2 = 2 from by rw [eS_13, q2_k _ _ (by omega)]; rw [eS_16]; exact q2_s _ _ _ _), (show S_13 1 3 = nI sk_5 from by rw [eS_13]; exact q2_s _ _ _ _), a1, by omega, (show S_13 1 4 = nI a1 from by rw [eS_13, q2_k _ _ (by omega)]; rw [eS_16, q2_k _ _ (by omega)]; rw [hs]; exact q2_s _ _ _ _)⟩⟩)
                · skip
                  have c_141 : 2 = 0 := (nI_eq (a := 2) (b := 0) (by omega) (by omega)).mp c_141
                  exact absurd c_141 (by decide)
              · skip
                refine lv_iload_n hx hb dX7_readNumber_123 rfl (lv_at hl 1 rfl) ?_
                refine lv_iload_n hx hb dX7_readNumber_124 rfl (lv_at hl 4 rfl) ?_
                refine lv_icmp_le (tgt := 137) hx hb dX7_readNumber_125 (by decide) (fun c_125 => ?_) (fun c_125 => ?_)
                · skip
                  refine lv_aload_n hx hb dX7_readNumber_137 rfl (lv_at hl 2 rfl) ?_
                  refine q_get (o := 1) (ci := 7) (k := 2) (T := TX7) (v := .int (S 1 2)) C hM (qmem_7 E ad S23 A b (show qk 1 = 7 from by decide +kernel)) (by decide) rfl hi7 (by decide) hL0 rfl (congrArg (fun z => some (Value.int z)) (show S23 1 2 = S 1 2 from by rw [hs, q2_k _ _ (by omega)]; rw [eS_6, q2_k _ _ (by omega)]; rw [eS_2, q2_k _ _ (by omega)])) dX7_readNumber_138 ?_
                  refine lv_if_ne (tgt := 148) hx hb dX7_readNumber_141 (by decide) (fun c_141 => ?_) (fun c_141 => ?_)
                  · skip
                    refine lv_iconst (v := 0) hx hb dX7_readNumber_148 (by decide) ?_
                    exact q_iret C hM dX7_readNumber_149 (by exact absurd hk0 c_141)
                  · skip
                    refine lv_iload_n hx hb dX7_readNumber_144 rfl (lv_at hl 1 rfl) ?_
                    refine lv_goto (tgt := 149) hx hb dX7_readNumber_145 (by decide) ?_
                    exact q_iret C hM dX7_readNumber_149 (by have hqd : qdg qstX (A 2) n (n - sk_5) sk_5 0 = (a1, v) := hv.trans (by rw [show n - a1 = 0 by omega]; rfl); have hb9 := nI_betw (by omega) c_120 (Int32.not_lt.mpr c_125) (by omega); exact ⟨⟨rfl, rfl⟩, (fun i hi => by rw [hs, q2_or _ _ hi, eS_6, q2_or _ _ hi, eS_2, q2_or _ _ hi]), ((show S23 1 1 = S 1 1 from by rw [hs, q2_k _ _ (by omega)]; rw [eS_6, q2_k _ _ (by omega)]; rw [eS_2, q2_k _ _ (by omega)]).trans hln), Or.inr ⟨v.toNatClampNeg, a1, sk_5, by simp only [qnum, ← esk_5]; rw [hqd]; rw [if_neg (show ¬ a1 = sk_5 by omega)]; exact if_neg (fun z => z.elim (fun q => c_115 q) (fun q => q.elim c_120 (Int32.not_lt.mpr c_125))), hb9.2.1, hb9.2.2, by omega, hb9.1, ((show S23 1 2 = S 1 2 from by rw [hs, q2_k _ _ (by omega)]; rw [eS_6, q2_k _ _ (by omega)]; rw [eS_2, q2_k _ _ (by omega)]).trans hk0), (show S23 1 3 = S 1 3 from by rw [hs, q2_k _ _ (by omega)]; rw [eS_6, q2_k _ _ (by omega)]; rw [eS_2, q2_k _ _ (by omega)]), (show S23 1 4 = nI a1 from by rw [hs]; exact q2_s _ _ _ _), (show S23 1 5 = nI sk_5 from by rw [hs, q2_k _ _ (by omega)]; rw [eS_6]; exact q2_s _ _ _ _)⟩⟩)
                · skip
                  refine lv_aload_n hx hb dX7_readNumber_128 rfl (lv_at hl 2 rfl) ?_
                  refine lv_iconst (v := 2) hx hb dX7_readNumber_129 (by decide) ?_
                  refine lv_aload_n hx hb dX7_readNumber_130 rfl (lv_at hl 2 rfl) ?_
                  refine q_get (o := 1) (ci := 7) (k := 5) (T := TX7) (v := .int (nI sk_5)) C hM (qmem_7 E ad S23 A b (show qk 1 = 7 from by decide +kernel)) (by decide) rfl hi7 (by decide) hL2 rfl (congrArg (fun z => some (Value.int z)) (show S23 1 5 = nI sk_5 from by rw [hs, q2_k _ _ (by omega)]; rw [eS_6]; exact q2_s _ _ _ _)) dX7_readNumber_131 ?_
                  refine q_callVV (n := 2) (o := 1) (As := [.int 2, .int (nI sk_5)]) (rest := []) C hM hA (c_X7_refuse E ad l S23 A b 2 (nI sk_5) ((show S23 1 2 = S 1 2 from by rw [hs, q2_k _ _ (by omega)]; rw [eS_6, q2_k _ _ (by omega)]; rw [eS_2, q2_k _ _ (by omega)]).trans hk0)) (qmem_7 E ad S23 A b (show qk 1 = 7 from by decide +kernel)) (by decide) rfl gX7_readNumber_X7_refuse rfl rfl rfl (by decide +kernel) ⟨Nat.le_of_ble_eq_true rfl, Nat.le_of_ble_eq_true rfl⟩ rfl hl.1 rfl (Nat.le_of_ble_eq_true rfl) ⟨Nat.zero_le _, Nat.zero_le _⟩ dX7_readNumber_134 (fun S_18 A_19 b_20 H locs qr_17 hM => ?_)
                  obtain ⟨eS_18, e2, e3⟩ := qr_17
                  subst e2; subst e3
                  obtain ⟨S_21, eS_21⟩ : ∃ zz, zz = q2 S23 1 2 2 := ⟨_, rfl⟩
                  rw [← eS_21] at eS_18
                  refine lv_aload_n hx hb dX7_readNumber_137 rfl (lv_at hl 2 rfl) ?_
                  refine q_get (o := 1) (ci := 7) (k := 2) (T := TX7) (v := .int 2) C hM (qmem_7 E ad S_18 A b (show qk 1 = 7 from by decide +kernel)) (by decide) rfl hi7 (by decide) hL0 rfl (congrArg (fun z => some (Value.int z)) (show S_18 1 2 = 2 from by rw [eS_18, q2_k _ _ (by omega)]; rw [eS_21]; exact q2_s _ _ _ _)) dX7_readNumber_138 ?_
                  refine lv_if_ne (tgt := 148) hx hb dX7_readNumber_141 (by decide) (fun c_141 => ?_) (fun c_141 => ?_)
                  · skip
                    have c_141 : ¬ (2 = 0) := fun z => c_141 ((nI_eq (a := 2) (b := 0) (by omega) (by omega)).mpr z)
                    refine lv_iconst (v := 0) hx hb dX7_readNumber_148 (by decide) ?_
                    exact q_iret C hM dX7_readNumber_149 (by have hqd : qdg qstX (A 2) n (n - sk_5) sk_5 0 = (a1, v) := hv.trans (by rw [show n - a1 = 0 by omega]; rfl); exact ⟨⟨rfl, rfl⟩, (fun i hi => by rw [eS_18, q2_or _ _ hi, eS_21, q2_or _ _ hi, hs, q2_or _ _ hi, eS_6, q2_or _ _ hi, eS_2, q2_or _ _ hi]), ((show S_18 1 1 = S 1 1 from by rw [eS_18, q2_k _ _ (by omega)]; rw [eS_21, q2_k _ _ (by omega)]; rw [hs, q2_k _ _ (by omega)]; rw [eS_6, q2_k _ _ (by omega)]; rw [eS_2, q2_k _ _ (by omega)]).trans hln), Or.inl ⟨2, sk_5, by simp only [qnum, ← esk_5]; rw [hqd]; rw [if_neg (show ¬ a1 = sk_5 by omega)]; exact if_pos (Or.inr (Or.inr (Int32.not_le.mp c_125))), by omega, rfl, (show S_18 1 2 = 2 from by rw [eS_18, q2_k _ _ (by omega)]; rw [eS_21]; exact q2_s _ _ _ _), (show S_18 1 3 = nI sk_5 from by rw [eS_18]; exact q2_s _ _ _ _), a1, by omega, (show S_18 1 4 = nI a1 from by rw [eS_18, q2_k _ _ (by omega)]; rw [eS_21, q2_k _ _ (by omega)]; rw [hs]; exact q2_s _ _ _ _)⟩⟩)
                  · skip
                    have c_141 : 2 = 0 := (nI_eq (a := 2) (b := 0) (by omega) (by omega)).mp c_141
                    exact absurd c_141 (by decide)
          · skip
            have c_97 : a1 - sk_5 = 0 := (nI_eq (a := a1 - sk_5) (b := 0) (by omega) (by omega)).mp c_97
            refine lv_aload_n hx hb dX7_readNumber_100 rfl (lv_at hl 2 rfl) ?_
            refine lv_iconst (v := 1) hx hb dX7_readNumber_101 (by decide) ?_
            refine lv_aload_n hx hb dX7_readNumber_102 rfl (lv_at hl 2 rfl) ?_
            refine q_get (o := 1) (ci := 7) (k := 4) (T := TX7) (v := .int (nI a1)) C hM (qmem_7 E ad S23 A b (show qk 1 = 7 from by decide +kernel)) (by decide) rfl hi7 (by decide) hL1 rfl (congrArg (fun z => some (Value.int z)) (show S23 1 4 = nI a1 from by rw [hs]; exact q2_s _ _ _ _)) dX7_readNumber_103 ?_
            refine q_callVV (n := 2) (o := 1) (As := [.int 1, .int (nI a1)]) (rest := []) C hM hA (c_X7_refuse E ad l S23 A b 1 (nI a1) ((show S23 1 2 = S 1 2 from by rw [hs, q2_k _ _ (by omega)]; rw [eS_6, q2_k _ _ (by omega)]; rw [eS_2, q2_k _ _ (by omega)]).trans hk0)) (qmem_7 E ad S23 A b (show qk 1 = 7 from by decide +kernel)) (by decide) rfl gX7_readNumber_X7_refuse rfl rfl rfl (by decide +kernel) ⟨Nat.le_of_ble_eq_true rfl, Nat.le_of_ble_eq_true rfl⟩ rfl hl.1 rfl (Nat.le_of_ble_eq_true rfl) ⟨Nat.zero_le _, Nat.zero_le _⟩ dX7_readNumber_106 (fun S_23 A_24 b_25 H locs qr_22 hM => ?_)
            obtain ⟨eS_23, e2, e3⟩ := qr_22
            subst e2; subst e3
            obtain ⟨S_26, eS_26⟩ : ∃ zz, zz = q2 S23 1 2 1 := ⟨_, rfl⟩
            rw [← eS_26] at eS_23
            refine lv_goto (tgt := 137) hx hb dX7_readNumber_109 (by decide) ?_
            refine lv_aload_n hx hb dX7_readNumber_137 rfl (lv_at hl 2 rfl) ?_
            refine q_get (o := 1) (ci := 7) (k := 2) (T := TX7) (v := .int 1) C hM (qmem_7 E ad S_23 A b (show qk 1 = 7 from by decide +kernel)) (by decide) rfl hi7 (by decide) hL0 rfl (congrArg (fun z => some (Value.int z)) (show S_23 1 2 = 1 from by rw [eS_23, q2_k _ _ (by omega)]; rw [eS_26]; exact q2_s _ _ _ _)) dX7_readNumber_138 ?_
            refine lv_if_ne (tgt := 148) hx hb dX7_readNumber_141 (by decide) (fun c_141 => ?_) (fun c_141 => ?_)
            · skip
              have c_141 : ¬ (1 = 0) := fun z => c_141 ((nI_eq (a := 1) (b := 0) (by omega) (by omega)).mpr z)
              refine lv_iconst (v := 0) hx hb dX7_readNumber_148 (by decide) ?_
              exact q_iret C hM dX7_readNumber_149 (by have hqd : qdg qstX (A 2) n (n - sk_5) sk_5 0 = (a1, v) := hv.trans (by rw [show n - a1 = 0 by omega]; rfl); exact ⟨⟨rfl, rfl⟩, (fun i hi => by rw [eS_23, q2_or _ _ hi, eS_26, q2_or _ _ hi, hs, q2_or _ _ hi, eS_6, q2_or _ _ hi, eS_2, q2_or _ _ hi]), ((show S_23 1 1 = S 1 1 from by rw [eS_23, q2_k _ _ (by omega)]; rw [eS_26, q2_k _ _ (by omega)]; rw [hs, q2_k _ _ (by omega)]; rw [eS_6, q2_k _ _ (by omega)]; rw [eS_2, q2_k _ _ (by omega)]).trans hln), Or.inl ⟨1, sk_5, by simp only [qnum, ← esk_5]; rw [hqd]; exact if_pos (show a1 = sk_5 by omega), by omega, rfl, (show S_23 1 2 = 1 from by rw [eS_23, q2_k _ _ (by omega)]; rw [eS_26]; exact q2_s _ _ _ _), ((show S_23 1 3 = nI a1 from by rw [eS_23]; exact q2_s _ _ _ _).trans (by rw [show a1 = sk_5 by omega])), a1, by omega, (show S_23 1 4 = nI a1 from by rw [eS_23, q2_k _ _ (by omega)]; rw [eS_26, q2_k _ _ (by omega)]; rw [hs]; exact q2_s _ _ _ _)⟩⟩)
            · skip
              have c_141 : 1 = 0 := (nI_eq (a := 1) (b := 0) (by omega) (by omega)).mp c_141
              exact absurd c_141 (by decide)
        · skip
          have c_31 : ¬ (n ≤ a1) := fun z => c_31 ((nI_leI (a := n) (b := a1) (by omega) (by omega)).mpr z)
          refine lv_aload_n hx hb dX7_readNumber_34 rfl (lv_at hl 1 rfl) ?_
          refine q_get (o := 1) (ci := 7) (k := 0) (T := TX7) (v := .ref (ad 2)) C hM (qmem_7 E ad S23 A b (show qk 1 = 7 from by decide +kernel)) (by decide) rfl hi7 (by decide) hL4 rfl rfl dX7_readNumber_35 ?_
          refine lv_aload_n hx hb dX7_readNumber_38 rfl (lv_at hl 1 rfl) ?_
          refine q_get (o := 1) (ci := 7) (k := 4) (T := TX7) (v := .int (nI a1)) C hM (qmem_7 E ad S23 A b (show qk 1 = 7 from by decide +kernel)) (by decide) rfl hi7 (by decide) hL1 rfl (congrArg (fun z => some (Value.int z)) (show S23 1 4 = nI a1 from by rw [hs]; exact q2_s _ _ _ _)) dX7_readNumber_39 ?_
          refine q_iald (v := A 2 a1) C hM (show qk 2 = 12 from by decide +kernel) (by rw [(show ql 2 = 240 from by decide +kernel)]; exact vp_nI (by omega) (by omega)) (by rw [nIc (by omega)]) dX7_readNumber_42 ?_
          refine q_callSI (n := 1) (As := [.int (A 2 a1)]) (rest := []) C hM hA (c_X7_isFigure E ad l S23 A b (A 2 a1)) gX7_readNumber_X7_isFigure rfl rfl rfl (by decide +kernel) ⟨Nat.le_of_ble_eq_true rfl, Nat.le_of_ble_eq_true rfl⟩ rfl hl.1 rfl (Nat.le_of_ble_eq_true rfl) ⟨Nat.zero_le _, Nat.zero_le _⟩ dX7_readNumber_43 (fun r_27 S_28 A_29 b_30 H locs qr_27 hM => ?_)
          obtain ⟨⟨e1, e2, e3⟩, er_27⟩ := qr_27
          subst e1; subst e2; subst e3
          refine lv_if_eq (tgt := 84) hx hb dX7_readNumber_46 (by decide) (fun c_46 => ?_) (fun c_46 => ?_)
          · skip
            refine lv_aload_n hx hb dX7_readNumber_84 rfl (lv_at hl 1 rfl) ?_
            refine q_get (o := 1) (ci := 7) (k := 4) (T := TX7) (v := .int (nI a1)) C hM (qmem_7 E ad S23 A b (show qk 1 = 7 from by decide +kernel)) (by decide) rfl hi7 (by decide) hL1 rfl (congrArg (fun z => some (Value.int z)) (show S23 1 4 = nI a1 from by rw [hs]; exact q2_s _ _ _ _)) dX7_readNumber_85 ?_
            refine lv_aload_n hx hb dX7_readNumber_88 rfl (lv_at hl 1 rfl) ?_
            refine q_get (o := 1) (ci := 7) (k := 5) (T := TX7) (v := .int (nI sk_5)) C hM (qmem_7 E ad S23 A b (show qk 1 = 7 from by decide +kernel)) (by decide) rfl hi7 (by decide) hL2 rfl (congrArg (fun z => some (Value.int z)) (show S23 1 5 = nI sk_5 from by rw [hs, q2_k _ _ (by omega)]; rw [eS_6]; exact q2_s _ _ _ _)) dX7_readNumber_89 ?_
            refine lv_isub hx hb dX7_readNumber_92 ?_
            refine lv_as (y := nI (a1 - sk_5)) (pk_sub (a := a1) (b := sk_5) (by omega)) ?_
            refine lv_istore (lv' := [(4, .int (nI (a1 - sk_5))), (3, .int v), (0, .ref (ad 1)), (1, .int (nI lo)), (2, .int (nI mo))]) hx hb dX7_readNumber_93 hl (by decide) rfl (fun ls hl => ?_)
            refine lv_iload hx hb dX7_readNumber_95 (lv_at hl 0 rfl) ?_
            refine lv_if_ne (tgt := 112) hx hb dX7_readNumber_97 (by decide) (fun c_97 => ?_) (fun c_97 => ?_)
            · skip
              have c_97 : ¬ (a1 - sk_5 = 0) := fun z => c_97 ((nI_eq (a := a1 - sk_5) (b := 0) (by omega) (by omega)).mpr z)
              refine lv_iload hx hb dX7_readNumber_112 (lv_at hl 0 rfl) ?_
              refine lv_iconst (v := 3) hx hb dX7_readNumber_114 (by decide) ?_
              refine lv_icmp_gt (tgt := 128) hx hb dX7_readNumber_115 (by decide) (fun c_115 => ?_) (fun c_115 => ?_)
              · skip
                have c_115 : 3 < a1 - sk_5 := (nI_ltI (a := 3) (b := a1 - sk_5) (by omega) (by omega)).mp c_115
                refine lv_aload_n hx hb dX7_readNumber_128 rfl (lv_at hl 2 rfl) ?_
                refine lv_iconst (v := 2) hx hb dX7_readNumber_129 (by decide) ?_
                refine lv_aload_n hx hb dX7_readNumber_130 rfl (lv_at hl 2 rfl) ?_
                refine q_get (o := 1) (ci := 7) (k := 5) (T := TX7) (v := .int (nI sk_5)) C hM (qmem_7 E ad S23 A b (show qk 1 = 7 from by decide +kernel)) (by decide) rfl hi7 (by decide) hL2 rfl (congrArg (fun z => some (Value.int z)) (show S23 1 5 = nI sk_5 from by rw [hs, q2_k _ _ (by omega)]; rw [eS_6]; exact q2_s _ _ _ _)) dX7_readNumber_131 ?_
                refine q_callVV (n := 2) (o := 1) (As := [.int 2, .int (nI sk_5)]) (rest := []) C hM hA (c_X7_refuse E ad l S23 A b 2 (nI sk_5) ((show S23 1 2 = S 1 2 from by rw [hs, q2_k _ _ (by omega)]; rw [eS_6, q2_k _ _ (by omega)]; rw [eS_2, q2_k _ _ (by omega)]).trans hk0)) (qmem_7 E ad S23 A b (show qk 1 = 7 from by decide +kernel)) (by decide) rfl gX7_readNumber_X7_refuse rfl rfl rfl (by decide +kernel) ⟨Nat.le_of_ble_eq_true rfl, Nat.le_of_ble_eq_true rfl⟩ rfl hl.1 rfl (Nat.le_of_ble_eq_true rfl) ⟨Nat.zero_le _, Nat.zero_le _⟩ dX7_readNumber_134 (fun S_32 A_33 b_34 H locs qr_31 hM => ?_)
                obtain ⟨eS_32, e2, e3⟩ := qr_31
                subst e2; subst e3
                obtain ⟨S_35, eS_35⟩ : ∃ zz, zz = q2 S23 1 2 2 := ⟨_, rfl⟩
                rw [← eS_35] at eS_32
                refine lv_aload_n hx hb dX7_readNumber_137 rfl (lv_at hl 2 rfl) ?_
                refine q_get (o := 1) (ci := 7) (k := 2) (T := TX7) (v := .int 2) C hM (qmem_7 E ad S_32 A b (show qk 1 = 7 from by decide +kernel)) (by decide) rfl hi7 (by decide) hL0 rfl (congrArg (fun z => some (Value.int z)) (show S_32 1 2 = 2 from by rw [eS_32, q2_k _ _ (by omega)]; rw [eS_35]; exact q2_s _ _ _ _)) dX7_readNumber_138 ?_
                refine lv_if_ne (tgt := 148) hx hb dX7_readNumber_141 (by decide) (fun c_141 => ?_) (fun c_141 => ?_)
                · skip
                  have c_141 : ¬ (2 = 0) := fun z => c_141 ((nI_eq (a := 2) (b := 0) (by omega) (by omega)).mpr z)
                  refine lv_iconst (v := 0) hx hb dX7_readNumber_148 (by decide) ?_
                  exact q_iret C hM dX7_readNumber_149 (by have hqd : qdg qstX (A 2) n (n - sk_5) sk_5 0 = (a1, v) := hv.trans (by rw [show n - a1 = (n - (a1 + 1)) + 1 by omega]; exact if_neg (fun z => (q01_eq0.mp (er_27.symm.trans c_46)) z.2)); exact ⟨⟨rfl, rfl⟩, (fun i hi => by rw [eS_32, q2_or _ _ hi, eS_35, q2_or _ _ hi, hs, q2_or _ _ hi, eS_6, q2_or _ _ hi, eS_2, q2_or _ _ hi]), ((show S_32 1 1 = S 1 1 from by rw [eS_32, q2_k _ _ (by omega)]; rw [eS_35, q2_k _ _ (by omega)]; rw [hs, q2_k _ _ (by omega)]; rw [eS_6, q2_k _ _ (by omega)]; rw [eS_2, q2_k _ _ (by omega)]).trans hln), Or.inl ⟨2, sk_5, by simp only [qnum, ← esk_5]; rw [hqd]; rw [if_neg (show ¬ a1 = sk_5 by omega)]; exact if_pos (Or.inl c_115), by omega, rfl, (show S_32 1 2 = 2 from by rw [eS_32, q2_k _ _ (by omega)]; rw [eS_35]; exact q2_s _ _ _ _), (show S_32 1 3 = nI sk_5 from by rw [eS_32]; exact q2_s _ _ _ _), a1, by omega, (show S_32 1 4 = nI a1 from by rw [eS_32, q2_k _ _ (by omega)]; rw [eS_35, q2_k _ _ (by omega)]; rw [hs]; exact q2_s _ _ _ _)⟩⟩)
                · skip
                  have c_141 : 2 = 0 := (nI_eq (a := 2) (b := 0) (by omega) (by omega)).mp c_141
                  exact absurd c_141 (by decide)
              · skip
                have c_115 : ¬ (3 < a1 - sk_5) := fun z => c_115 ((nI_ltI (a := 3) (b := a1 - sk_5) (by omega) (by omega)).mpr z)
                refine lv_iload_n hx hb dX7_readNumber_118 rfl (lv_at hl 1 rfl) ?_
                refine lv_iload_n hx hb dX7_readNumber_119 rfl (lv_at hl 3 rfl) ?_
                refine lv_icmp_lt (tgt := 128) hx hb dX7_readNumber_120 (by decide) (fun c_120 => ?_) (fun c_120 => ?_)
                · skip
                  refine lv_aload_n hx hb dX7_readNumber_128 rfl (lv_at hl 2 rfl) ?_
                  refine lv_iconst (v := 2) hx hb dX7_readNumber_129 (by decide) ?_
                  refine lv_aload_n hx hb dX7_readNumber_130 rfl (lv_at hl 2 rfl) ?_
                  refine q_get (o := 1) (ci := 7) (k := 5) (T := TX7) (v := .int (nI sk_5)) C hM (qmem_7 E ad S23 A b (show qk 1 = 7 from by decide +kernel)) (by decide) rfl hi7 (by decide) hL2 rfl (congrArg (fun z => some (Value.int z)) (show S23 1 5 = nI sk_5 from by rw [hs, q2_k _ _ (by omega)]; rw [eS_6]; exact q2_s _ _ _ _)) dX7_readNumber_131 ?_
                  refine q_callVV (n := 2) (o := 1) (As := [.int 2, .int (nI sk_5)]) (rest := []) C hM hA (c_X7_refuse E ad l S23 A b 2 (nI sk_5) ((show S23 1 2 = S 1 2 from by rw [hs, q2_k _ _ (by omega)]; rw [eS_6, q2_k _ _ (by omega)]; rw [eS_2, q2_k _ _ (by omega)]).trans hk0)) (qmem_7 E ad S23 A b (show qk 1 = 7 from by decide +kernel)) (by decide) rfl gX7_readNumber_X7_refuse rfl rfl rfl (by decide +kernel) ⟨Nat.le_of_ble_eq_true rfl, Nat.le_of_ble_eq_true rfl⟩ rfl hl.1 rfl (Nat.le_of_ble_eq_true rfl) ⟨Nat.zero_le _, Nat.zero_le _⟩ dX7_readNumber_134 (fun S_37 A_38 b_39 H locs qr_36 hM => ?_)
                  obtain ⟨eS_37, e2, e3⟩ := qr_36
                  subst e2; subst e3
                  obtain ⟨S_40, eS_40⟩ : ∃ zz, zz = q2 S23 1 2 2 := ⟨_, rfl⟩
                  rw [← eS_40] at eS_37
                  refine lv_aload_n hx hb dX7_readNumber_137 rfl (lv_at hl 2 rfl) ?_
                  refine q_get (o := 1) (ci := 7) (k := 2) (T := TX7) (v := .int 2) C hM (qmem_7 E ad S_37 A b (show qk 1 = 7 from by decide +kernel)) (by decide) rfl hi7 (by decide) hL0 rfl (congrArg (fun z => some (Value.int z)) (show S_37 1 2 = 2 from by rw [eS_37, q2_k _ _ (by omega)]; rw [eS_40]; exact q2_s _ _ _ _)) dX7_readNumber_138 ?_
                  refine lv_if_ne (tgt := 148) hx hb dX7_readNumber_141 (by decide) (fun c_141 => ?_) (fun c_141 => ?_)
                  · skip
                    have c_141 : ¬ (2 = 0) := fun z => c_141 ((nI_eq (a := 2) (b := 0) (by omega) (by omega)).mpr z)
                    refine lv_iconst (v := 0) hx hb dX7_readNumber_148 (by decide) ?_
                    exact q_iret C hM dX7_readNumber_149 (by have hqd : qdg qstX (A 2) n (n - sk_5) sk_5 0 = (a1, v) := hv.trans (by rw [show n - a1 = (n - (a1 + 1)) + 1 by omega]; exact if_neg (fun z => (q01_eq0.mp (er_27.symm.trans c_46)) z.2)); exact ⟨⟨rfl, rfl⟩, (fun i hi => by rw [eS_37, q2_or _ _ hi, eS_40, q2_or _ _ hi, hs, q2_or _ _ hi, eS_6, q2_or _ _ hi, eS_2, q2_or _ _ hi]), ((show S_37 1 1 = S 1 1 from by rw [eS_37, q2_k _ _ (by omega)]; rw [eS_40, q2_k _ _ (by omega)]; rw [hs, q2_k _ _ (by omega)]; rw [eS_6, q2_k _ _ (by omega)]; rw [eS_2, q2_k _ _ (by omega)]).trans hln), Or.inl ⟨2, sk_5, by simp only [qnum, ← esk_5]; rw [hqd]; rw [if_neg (show ¬ a1 = sk_5 by omega)]; exact if_pos (Or.inr (Or.inl c_120)), by omega, rfl, (show S_37 1 2 = 2 from by rw [eS_37, q2_k _ _ (by omega)]; rw [eS_40]; exact q2_s _ _ _ _), (show S_37 1 3 = nI sk_5 from by rw [eS_37]; exact q2_s _ _ _ _), a1, by omega, (show S_37 1 4 = nI a1 from by rw [eS_37, q2_k _ _ (by omega)]; rw [eS_40, q2_k _ _ (by omega)]; rw [hs]; exact q2_s _ _ _ _)⟩⟩)
                  · skip
                    have c_141 : 2 = 0 := (nI_eq (a := 2) (b := 0) (by omega) (by omega)).mp c_141
                    exact absurd c_141 (by decide)
                · skip
                  refine lv_iload_n hx hb dX7_readNumber_123 rfl (lv_at hl 1 rfl) ?_
                  refine lv_iload_n hx hb dX7_readNumber_124 rfl (lv_at hl 4 rfl) ?_
                  refine lv_icmp_le (tgt := 137) hx hb dX7_readNumber_125 (by decide) (fun c_125 => ?_) (fun c_125 => ?_)
                  · skip
                    refine lv_aload_n hx hb dX7_readNumber_137 rfl (lv_at hl 2 rfl) ?_
                    refine q_get (o := 1) (ci := 7) (k := 2) (T := TX7) (v := .int (S 1 2)) C hM (qmem_7 E ad S23 A b (show qk 1 = 7 from by decide +kernel)) (by decide) rfl hi7 (by decide) hL0 rfl (congrArg (fun z => some (Value.int z)) (show S23 1 2 = S 1 2 from by rw [hs, q2_k _ _ (by omega)]; rw [eS_6, q2_k _ _ (by omega)]; rw [eS_2, q2_k _ _ (by omega)])) dX7_readNumber_138 ?_
                    refine lv_if_ne (tgt := 148) hx hb dX7_readNumber_141 (by decide) (fun c_141 => ?_) (fun c_141 => ?_)
                    · skip
                      refine lv_iconst (v := 0) hx hb dX7_readNumber_148 (by decide) ?_
                      exact q_iret C hM dX7_readNumber_149 (by exact absurd hk0 c_141)
                    · skip
                      refine lv_iload_n hx hb dX7_readNumber_144 rfl (lv_at hl 1 rfl) ?_
                      refine lv_goto (tgt := 149) hx hb dX7_readNumber_145 (by decide) ?_
                      exact q_iret C hM dX7_readNumber_149 (by have hqd : qdg qstX (A 2) n (n - sk_5) sk_5 0 = (a1, v) := hv.trans (by rw [show n - a1 = (n - (a1 + 1)) + 1 by omega]; exact if_neg (fun z => (q01_eq0.mp (er_27.symm.trans c_46)) z.2)); have hb9 := nI_betw (by omega) c_120 (Int32.not_lt.mpr c_125) (by omega); exact ⟨⟨rfl, rfl⟩, (fun i hi => by rw [hs, q2_or _ _ hi, eS_6, q2_or _ _ hi, eS_2, q2_or _ _ hi]), ((show S23 1 1 = S 1 1 from by rw [hs, q2_k _ _ (by omega)]; rw [eS_6, q2_k _ _ (by omega)]; rw [eS_2, q2_k _ _ (by omega)]).trans hln), Or.inr ⟨v.toNatClampNeg, a1, sk_5, by simp only [qnum, ← esk_5]; rw [hqd]; rw [if_neg (show ¬ a1 = sk_5 by omega)]; exact if_neg (fun z => z.elim (fun q => c_115 q) (fun q => q.elim c_120 (Int32.not_lt.mpr c_125))), hb9.2.1, hb9.2.2, by omega, hb9.1, ((show S23 1 2 = S 1 2 from by rw [hs, q2_k _ _ (by omega)]; rw [eS_6, q2_k _ _ (by omega)]; rw [eS_2, q2_k _ _ (by omega)]).trans hk0), (show S23 1 3 = S 1 3 from by rw [hs, q2_k _ _ (by omega)]; rw [eS_6, q2_k _ _ (by omega)]; rw [eS_2, q2_k _ _ (by omega)]), (show S23 1 4 = nI a1 from by rw [hs]; exact q2_s _ _ _ _), (show S23 1 5 = nI sk_5 from by rw [hs, q2_k _ _ (by omega)]; rw [eS_6]; exact q2_s _ _ _ _)⟩⟩)
                  · skip
                    refine lv_aload_n hx hb dX7_readNumber_128 rfl (lv_at hl 2 rfl) ?_
                    refine lv_iconst (v := 2) hx hb dX7_readNumber_129 (by decide) ?_
                    refine lv_aload_n hx hb dX7_readNumber_130 rfl (lv_at hl 2 rfl) ?_
                    refine q_get (o := 1) (ci := 7) (k := 5) (T := TX7) (v := .int (nI sk_5)) C hM (qmem_7 E ad S23 A b (show qk 1 = 7 from by decide +kernel)) (by decide) rfl hi7 (by decide) hL2 rfl (congrArg (fun z => some (Value.int z)) (show S23 1 5 = nI sk_5 from by rw [hs, q2_k _ _ (by omega)]; rw [eS_6]; exact q2_s _ _ _ _)) dX7_readNumber_131 ?_
                    refine q_callVV (n := 2) (o := 1) (As := [.int 2, .int (nI sk_5)]) (rest := []) C hM hA (c_X7_refuse E ad l S23 A b 2 (nI sk_5) ((show S23 1 2 = S 1 2 from by rw [hs, q2_k _ _ (by omega)]; rw [eS_6, q2_k _ _ (by omega)]; rw [eS_2, q2_k _ _ (by omega)]).trans hk0)) (qmem_7 E ad S23 A b (show qk 1 = 7 from by decide +kernel)) (by decide) rfl gX7_readNumber_X7_refuse rfl rfl rfl (by decide +kernel) ⟨Nat.le_of_ble_eq_true rfl, Nat.le_of_ble_eq_true rfl⟩ rfl hl.1 rfl (Nat.le_of_ble_eq_true rfl) ⟨Nat.zero_le _, Nat.zero_le _⟩ dX7_readNumber_134 (fun S_42 A_43 b_44 H locs qr_41 hM => ?_)
                    obtain ⟨eS_42, e2, e3⟩ := qr_41
                    subst e2; subst e3
                    obtain ⟨S_45, eS_45⟩ : ∃ zz, zz = q2 S23 1 2 2 := ⟨_, rfl⟩
                    rw [← eS_45] at eS_42
                    refine lv_aload_n hx hb dX7_readNumber_137 rfl (lv_at hl 2 rfl) ?_
                    refine q_get (o := 1) (ci := 7) (k := 2) (T := TX7) (v := .int 2) C hM (qmem_7 E ad S_42 A b (show qk 1 = 7 from by decide +kernel)) (by decide) rfl hi7 (by decide) hL0 rfl (congrArg (fun z => some (Value.int z)) (show S_42 1 2 = 2 from by rw [eS_42, q2_k _ _ (by omega)]; rw [eS_45]; exact q2_s _ _ _ _)) dX7_readNumber_138 ?_
                    refine lv_if_ne (tgt := 148) hx hb dX7_readNumber_141 (by decide) (fun c_141 => ?_) (fun c_141 => ?_)
                    · skip
                      have c_141 : ¬ (2 = 0) := fun z => c_141 ((nI_eq (a := 2) (b := 0) (by omega) (by omega)).mpr z)
                      refine lv_iconst (v := 0) hx hb dX7_readNumber_148 (by decide) ?_
                      exact q_iret C hM dX7_readNumber_149 (by have hqd : qdg qstX (A 2) n (n - sk_5) sk_5 0 = (a1, v) := hv.trans (by rw [show n - a1 = (n - (a1 + 1)) + 1 by omega]; exact if_neg (fun z => (q01_eq0.mp (er_27.symm.trans c_46)) z.2)); exact ⟨⟨rfl, rfl⟩, (fun i hi => by rw [eS_42, q2_or _ _ hi, eS_45, q2_or _ _ hi, hs, q2_or _ _ hi, eS_6, q2_or _ _ hi, eS_2, q2_or _ _ hi]), ((show S_42 1 1 = S 1 1 from by rw [eS_42, q2_k _ _ (by omega)]; rw [eS_45, q2_k _ _ (by omega)]; rw [hs, q2_k _ _ (by omega)]; rw [eS_6, q2_k _ _ (by omega)]; rw [eS_2, q2_k _ _ (by omega)]).trans hln), Or.inl ⟨2, sk_5, by simp only [qnum, ← esk_5]; rw [hqd]; rw [if_neg (show ¬ a1 = sk_5 by omega)]; exact if_pos (Or.inr (Or.inr (Int32.not_le.mp c_125))), by omega, rfl, (show S_42 1 2 = 2 from by rw [eS_42, q2_k _ _ (by omega)]; rw [eS_45]; exact q2_s _ _ _ _), (show S_42 1 3 = nI sk_5 from by rw [eS_42]; exact q2_s _ _ _ _), a1, by omega, (show S_42 1 4 = nI a1 from by rw [eS_42, q2_k _ _ (by omega)]; rw [eS_45, q2_k _ _ (by omega)]; rw [hs]; exact q2_s _ _ _ _)⟩⟩)
                    · skip
                      have c_141 : 2 = 0 := (nI_eq (a := 2) (b := 0) (by omega) (by omega)).mp c_141
                      exact absurd c_141 (by decide)
            · skip
              have c_97 : a1 - sk_5 = 0 := (nI_eq (a := a1 - sk_5) (b := 0) (by omega) (by omega)).mp c_97
              refine lv_aload_n hx hb dX7_readNumber_100 rfl (lv_at hl 2 rfl) ?_
              refine lv_iconst (v := 1) hx hb dX7_readNumber_101 (by decide) ?_
              refine lv_aload_n hx hb dX7_readNumber_102 rfl (lv_at hl 2 rfl) ?_
              refine q_get (o := 1) (ci := 7) (k := 4) (T := TX7) (v := .int (nI a1)) C hM (qmem_7 E ad S23 A b (show qk 1 = 7 from by decide +kernel)) (by decide) rfl hi7 (by decide) hL1 rfl (congrArg (fun z => some (Value.int z)) (show S23 1 4 = nI a1 from by rw [hs]; exact q2_s _ _ _ _)) dX7_readNumber_103 ?_
              refine q_callVV (n := 2) (o := 1) (As := [.int 1, .int (nI a1)]) (rest := []) C hM hA (c_X7_refuse E ad l S23 A b 1 (nI a1) ((show S23 1 2 = S 1 2 from by rw [hs, q2_k _ _ (by omega)]; rw [eS_6, q2_k _ _ (by omega)]; rw [eS_2, q2_k _ _ (by omega)]).trans hk0)) (qmem_7 E ad S23 A b (show qk 1 = 7 from by decide +kernel)) (by decide) rfl gX7_readNumber_X7_refuse rfl rfl rfl (by decide +kernel) ⟨Nat.le_of_ble_eq_true rfl, Nat.le_of_ble_eq_true rfl⟩ rfl hl.1 rfl (Nat.le_of_ble_eq_true rfl) ⟨Nat.zero_le _, Nat.zero_le _⟩ dX7_readNumber_106 (fun S_47 A_48 b_49 H locs qr_46 hM => ?_)
              obtain ⟨eS_47, e2, e3⟩ := qr_46
              subst e2; subst e3
              obtain ⟨S_50, eS_50⟩ : ∃ zz, zz = q2 S23 1 2 1 := ⟨_, rfl⟩
              rw [← eS_50] at eS_47
              refine lv_goto (tgt := 137) hx hb dX7_readNumber_109 (by decide) ?_
              refine lv_aload_n hx hb dX7_readNumber_137 rfl (lv_at hl 2 rfl) ?_
              refine q_get (o := 1) (ci := 7) (k := 2) (T := TX7) (v := .int 1) C hM (qmem_7 E ad S_47 A b (show qk 1 = 7 from by decide +kernel)) (by decide) rfl hi7 (by decide) hL0 rfl (congrArg (fun z => some (Value.int z)) (show S_47 1 2 = 1 from by rw [eS_47, q2_k _ _ (by omega)]; rw [eS_50]; exact q2_s _ _ _ _)) dX7_readNumber_138 ?_
              refine lv_if_ne (tgt := 148) hx hb dX7_readNumber_141 (by decide) (fun c_141 => ?_) (fun c_141 => ?_)
              · skip
                have c_141 : ¬ (1 = 0) := fun z => c_141 ((nI_eq (a := 1) (b := 0) (by omega) (by omega)).mpr z)
                refine lv_iconst (v := 0) hx hb dX7_readNumber_148 (by decide) ?_
                exact q_iret C hM dX7_readNumber_149 (by have hqd : qdg qstX (A 2) n (n - sk_5) sk_5 0 = (a1, v) := hv.trans (by rw [show n - a1 = (n - (a1 + 1)) + 1 by omega]; exact if_neg (fun z => (q01_eq0.mp (er_27.symm.trans c_46)) z.2)); exact ⟨⟨rfl, rfl⟩, (fun i hi => by rw [eS_47, q2_or _ _ hi, eS_50, q2_or _ _ hi, hs, q2_or _ _ hi, eS_6, q2_or _ _ hi, eS_2, q2_or _ _ hi]), ((show S_47 1 1 = S 1 1 from by rw [eS_47, q2_k _ _ (by omega)]; rw [eS_50, q2_k _ _ (by omega)]; rw [hs, q2_k _ _ (by omega)]; rw [eS_6, q2_k _ _ (by omega)]; rw [eS_2, q2_k _ _ (by omega)]).trans hln), Or.inl ⟨1, sk_5, by simp only [qnum, ← esk_5]; rw [hqd]; exact if_pos (show a1 = sk_5 by omega), by omega, rfl, (show S_47 1 2 = 1 from by rw [eS_47, q2_k _ _ (by omega)]; rw [eS_50]; exact q2_s _ _ _ _), ((show S_47 1 3 = nI a1 from by rw [eS_47]; exact q2_s _ _ _ _).trans (by rw [show a1 = sk_5 by omega])), a1, by omega, (show S_47 1 4 = nI a1 from by rw [eS_47, q2_k _ _ (by omega)]; rw [eS_50, q2_k _ _ (by omega)]; rw [hs]; exact q2_s _ _ _ _)⟩⟩)
              · skip
                have c_141 : 1 = 0 := (nI_eq (a := 1) (b := 0) (by omega) (by omega)).mp c_141
                exact absurd c_141 (by decide)
          · skip
            refine lv_iload_n hx hb dX7_readNumber_49 rfl (lv_at hl 0 rfl) ?_
            refine lv_bipush (v := 10) hx hb dX7_readNumber_50 (by decide) ?_
            refine lv_imul hx hb dX7_readNumber_52 ?_
            refine lv_aload_n hx hb dX7_readNumber_53 rfl (lv_at hl 1 rfl) ?_
            refine q_get (o := 1) (ci := 7) (k := 0) (T := TX7) (v := .ref (ad 2)) C hM (qmem_7 E ad S23 A b (show qk 1 = 7 from by decide +kernel)) (by decide) rfl hi7 (by decide) hL4 rfl rfl dX7_readNumber_54 ?_
            refine lv_aload_n hx hb dX7_readNumber_57 rfl (lv_at hl 1 rfl) ?_
            refine q_get (o := 1) (ci := 7) (k := 4) (T := TX7) (v := .int (nI a1)) C hM (qmem_7 E ad S23 A b (show qk 1 = 7 from by decide +kernel)) (by decide) rfl hi7 (by decide) hL1 rfl (congrArg (fun z => some (Value.int z)) (show S23 1 4 = nI a1 from by rw [hs]; exact q2_s _ _ _ _)) dX7_readNumber_58 ?_
            refine q_iald (v := A 2 a1) C hM (show qk 2 = 12 from by decide +kernel) (by rw [(show ql 2 = 240 from by decide +kernel)]; exact vp_nI (by omega) (by omega)) (by rw [nIc (by omega)]) dX7_readNumber_61 ?_
            refine lv_iadd hx hb dX7_readNumber_62 ?_
            refine lv_bipush (v := 48) hx hb dX7_readNumber_63 (by decide) ?_
            refine lv_isub hx hb dX7_readNumber_65 ?_
            refine lv_sipush (v := 10000) hx hb dX7_readNumber_66 (by decide) ?_
            refine lv_irem hx hb dX7_readNumber_69 (by decide) ?_
            refine lv_topi (fun x3_51 ex3_51 => ?_)
            refine lv_istore_n (lv' := [(3, .int x3_51), (0, .ref (ad 1)), (1, .int (nI lo)), (2, .int (nI mo))]) hx hb dX7_readNumber_70 rfl hl (by decide) rfl (fun ls hl => ?_)
            refine lv_aload_n hx hb dX7_readNumber_71 rfl (lv_at hl 1 rfl) ?_
            refine lv_dup hx hb dX7_readNumber_72 rfl ?_
            refine q_get (o := 1) (ci := 7) (k := 4) (T := TX7) (v := .int (nI a1)) C hM (qmem_7 E ad S23 A b (show qk 1 = 7 from by decide +kernel)) (by decide) rfl hi7 (by decide) hL1 rfl (congrArg (fun z => some (Value.int z)) (show S23 1 4 = nI a1 from by rw [hs]; exact q2_s _ _ _ _)) dX7_readNumber_73 ?_
            refine lv_iconst (v := 1) hx hb dX7_readNumber_76 (by decide) ?_
            refine lv_iadd hx hb dX7_readNumber_77 ?_
            refine lv_as (y := nI (a1 + 1)) (nI_add _ _) ?_
            refine q_put (o := 1) (ci := 7) (k := 4) (T := TX7) (ty := .int) (v := nI (a1 + 1)) C hM (qmem_7 E ad S23 A b (show qk 1 = 7 from by decide +kernel)) (by decide) rfl hi7 tyX7 tyX7_ok nmX7 (by decide) hL1 rfl rfl (by decide +kernel) rfl rfl (Nat.le_of_ble_eq_true rfl) (qs_7_4 E ad S23 A b (show qk 1 = 7 from by decide +kernel) (nI (a1 + 1))) dX7_readNumber_78 (fun H locs hM => ?_)
            obtain ⟨S_52, eS_52⟩ : ∃ zz, zz = q2 S23 1 4 (nI (a1 + 1)) := ⟨_, rfl⟩
            rw [← eS_52] at hM
            refine lv_goto (tgt := 23) hx hb dX7_readNumber_81 (by decide) ?_
            exact ih23 (a1 + 1) x3_51 S_52 (by omega) (by rw [eS_52, hs, q2_q2]) (by rw [hv, show n - a1 = (n - (a1 + 1)) + 1 by omega, ex3_51]; exact if_pos ⟨by omega, by rw [er_27, q01_eq0] at c_46; exact Classical.not_not.mp c_46⟩) (by omega) _ _ _ hM hl
    exact loop23 (n - sk_5 + 1) sk_5 0 S_6 (by omega) (by rw [show nI sk_5 = S_6 1 4 from (by rw [eS_6, q2_k _ _ (by omega), eS_2, q2_s]), q2_self]) rfl (Nat.lt_succ_self _) _ _ _ hM hl
  · skip
    exact absurd hk0 c_4

set_option maxHeartbeats 4000000 in
set_option maxRecDepth 100000 in
theorem c_X7_readNumber_k (E : qE) (ad : Nat → Nat) (l : Launch) (S A : qA2) (b : qB) (a1 a2 : Int32) (hk : ¬ S 1 2 = 0) : MI E ad l yX7_readNumber wsX7_readNumber { frames := 1, cells := 0, slots := 0, locals := 22 } [.ref (ad 1), .int a1, .int a2] S A b (fun r S' A' b' => (S = S' ∧ A = A' ∧ b = b') ∧ r = 0) := by
  refine MI.of (cc := cX7_readNumber) (maxL := 5) (ret := some .int) RX7 rfl (by decide) rfl ?_
  intro pg e s m below meth cd C hM
  have hx := C.1
  have hb := C.2.1
  have hts := C.2.2.2.2.1
  have hA : ∀ q, s.heap.size ≤ q → qAr ad s.heap.size q := fun _ h => Or.inr h
  have hi7 : ∀ w ∈ u_ws RX7 TX7 6, w ∈ wsX7_readNumber := by decide +kernel
  have hL0 := hts (.fieldLink RX7 27 "CrowFences$Text" "faultKind" "I") (by decide +kernel)
  have hl := lv_entry ([.ref (ad 1), .int a1, .int a2]) (n := 5) (Nat.le_of_ble_eq_true rfl)
  rw [lg_entry_eq]
  generalize (lg_sl ([.ref (ad 1), .int a1, .int a2]) ++ List.replicate (5 - (lg_sl ([.ref (ad 1), .int a1, .int a2])).length) Slot.unset).toArray = ls at hl ⊢
  have hl : lv_has ls 5 [(0, .ref (ad 1)), (1, .int a1), (2, .int a2)] := hl
  refine lv_aload_n hx hb dX7_readNumber_0 rfl (lv_at hl 0 rfl) ?_
  refine q_get (o := 1) (ci := 7) (k := 2) (T := TX7) (v := .int (S 1 2)) C hM (qmem_7 E ad S A b (show qk 1 = 7 from by decide +kernel)) (by decide) rfl hi7 (by decide) hL0 rfl rfl dX7_readNumber_1 ?_
  refine lv_if_eq (tgt := 9) hx hb dX7_readNumber_4 (by decide) (fun c_4 => ?_) (fun c_4 => ?_)
  · skip
    exact absurd c_4 hk
  · skip
    refine lv_iconst (v := 0) hx hb dX7_readNumber_7 (by decide) ?_
    exact q_iret C hM dX7_readNumber_8 (by exact ⟨⟨rfl, rfl, rfl⟩, rfl⟩)

set_option maxHeartbeats 4000000 in
set_option maxRecDepth 100000 in
theorem c_X7_readEnd (E : qE) (ad : Nat → Nat) (l : Launch) (S A : qA2) (b : qB) (n a : Nat) (hln : S 1 1 = nI n) (hnb : n ≤ 240) (hat : S 1 4 = nI a) (hab : a ≤ 245) (hk0 : S 1 2 = 0) : MV E ad l yX7_readEnd wsX7_readEnd { frames := 1, cells := 0, slots := 0, locals := 22 } [.ref (ad 1)] S A b (fun S' A' b' => (A = A' ∧ b = b') ∧ (∀ i, i ≠ 1 → S' i = S i) ∧ S' 1 1 = nI n ∧ S' 1 4 = nI (qsk (A 2) n a + 1) ∧ ((¬ (qsk (A 2) n a < n ∧ A 2 (qsk (A 2) n a) = 59) ∧ S' 1 2 = 1 ∧ S' 1 3 = nI (qsk (A 2) n a)) ∨ ((qsk (A 2) n a < n ∧ A 2 (qsk (A 2) n a) = 59) ∧ S' 1 2 = 0 ∧ S' 1 3 = S 1 3))) := by
  refine MV.of (cc := cX7_readEnd) (maxL := 1) (ret := none) RX7 rfl (by decide) rfl ?_
  intro pg e s m below meth cd C hM
  have hx := C.1
  have hb := C.2.1
  have hts := C.2.2.2.2.1
  have hA : ∀ q, s.heap.size ≤ q → qAr ad s.heap.size q := fun _ h => Or.inr h
  have hi7 : ∀ w ∈ u_ws RX7 TX7 6, w ∈ wsX7_readEnd := by decide +kernel
  have hL0 := hts (.fieldLink RX7 27 "CrowFences$Text" "faultKind" "I") (by decide +kernel)
  have hL1 := hts (.fieldLink RX7 30 "CrowFences$Text" "at" "I") (by decide +kernel)
  have hL2 := hts (.fieldLink RX7 19 "CrowFences$Text" "length" "I") (by decide +kernel)
  have hL3 := hts (.fieldLink RX7 9 "CrowFences$Text" "letters" "[I") (by decide +kernel)
  have hl := lv_entry ([.ref (ad 1)]) (n := 1) (Nat.le_of_ble_eq_true rfl)
  rw [lg_entry_eq]
  generalize (lg_sl ([.ref (ad 1)]) ++ List.replicate (1 - (lg_sl ([.ref (ad 1)])).length) Slot.unset).toArray = ls at hl ⊢
  have hl : lv_has ls 1 [(0, .ref (ad 1))] := hl
  refine lv_aload_n hx hb dX7_readEnd_0 rfl (lv_at hl 0 rfl) ?_
  refine q_get (o := 1) (ci := 7) (k := 2) (T := TX7) (v := .int (S 1 2)) C hM (qmem_7 E ad S A b (show qk 1 = 7 from by decide +kernel)) (by decide) rfl hi7 (by decide) hL0 rfl rfl dX7_readEnd_1 ?_
  refine lv_if_eq (tgt := 8) hx hb dX7_readEnd_4 (by decide) (fun c_4 => ?_) (fun c_4 => ?_)
  · skip
    refine lv_aload_n hx hb dX7_readEnd_8 rfl (lv_at hl 0 rfl) ?_
    refine q_callVV (n := 0) (o := 1) (As := []) (rest := []) C hM hA (c_X7_skipBlanks E ad l S A b n a hln (by omega) hat (by omega)) (qmem_7 E ad S A b (show qk 1 = 7 from by decide +kernel)) (by decide) rfl gX7_readEnd_X7_skipBlanks rfl rfl rfl (by decide +kernel) ⟨Nat.le_of_ble_eq_true rfl, Nat.le_of_ble_eq_true rfl⟩ rfl hl.1 rfl (Nat.le_of_ble_eq_true rfl) ⟨Nat.zero_le _, Nat.zero_le _⟩ dX7_readEnd_9 (fun S_2 A_3 b_4 H locs qr_1 hM => ?_)
    obtain ⟨eS_2, e2, e3⟩ := qr_1
    subst e2; subst e3
    obtain ⟨sk_5, esk_5⟩ : ∃ zz, zz = qsk (A 2) n a := ⟨_, rfl⟩
    have lsk_5 := qsk_le (A 2) n a
    rw [← esk_5] at eS_2 lsk_5
    refine lv_aload_n hx hb dX7_readEnd_12 rfl (lv_at hl 0 rfl) ?_
    refine q_get (o := 1) (ci := 7) (k := 4) (T := TX7) (v := .int (nI sk_5)) C hM (qmem_7 E ad S_2 A b (show qk 1 = 7 from by decide +kernel)) (by decide) rfl hi7 (by decide) hL1 rfl (congrArg (fun z => some (Value.int z)) (show S_2 1 4 = nI sk_5 from by rw [eS_2]; exact q2_s _ _ _ _)) dX7_readEnd_13 ?_
    refine lv_aload_n hx hb dX7_readEnd_16 rfl (lv_at hl 0 rfl) ?_
    refine q_get (o := 1) (ci := 7) (k := 1) (T := TX7) (v := .int (S 1 1)) C hM (qmem_7 E ad S_2 A b (show qk 1 = 7 from by decide +kernel)) (by decide) rfl hi7 (by decide) hL2 rfl (congrArg (fun z => some (Value.int z)) (show S_2 1 1 = S 1 1 from by rw [eS_2, q2_k _ _ (by omega)])) dX7_readEnd_17 ?_
    refine lv_as (y := nI n) hln ?_
    refine lv_icmp_ge (tgt := 37) hx hb dX7_readEnd_20 (by decide) (fun c_20 => ?_) (fun c_20 => ?_)
    · skip
      have c_20 : n ≤ sk_5 := (nI_leI (a := n) (b := sk_5) (by omega) (by omega)).mp c_20
      refine lv_aload_n hx hb dX7_readEnd_37 rfl (lv_at hl 0 rfl) ?_
      refine lv_iconst (v := 1) hx hb dX7_readEnd_38 (by decide) ?_
      refine lv_aload_n hx hb dX7_readEnd_39 rfl (lv_at hl 0 rfl) ?_
      refine q_get (o := 1) (ci := 7) (k := 4) (T := TX7) (v := .int (nI sk_5)) C hM (qmem_7 E ad S_2 A b (show qk 1 = 7 from by decide +kernel)) (by decide) rfl hi7 (by decide) hL1 rfl (congrArg (fun z => some (Value.int z)) (show S_2 1 4 = nI sk_5 from by rw [eS_2]; exact q2_s _ _ _ _)) dX7_readEnd_40 ?_
      refine q_callVV (n := 2) (o := 1) (As := [.int 1, .int (nI sk_5)]) (rest := []) C hM hA (c_X7_refuse E ad l S_2 A b 1 (nI sk_5) ((show S_2 1 2 = S 1 2 from by rw [eS_2, q2_k _ _ (by omega)]).trans hk0)) (qmem_7 E ad S_2 A b (show qk 1 = 7 from by decide +kernel)) (by decide) rfl gX7_readEnd_X7_refuse rfl rfl rfl (by decide +kernel) ⟨Nat.le_of_ble_eq_true rfl, Nat.le_of_ble_eq_true rfl⟩ rfl hl.1 rfl (Nat.le_of_ble_eq_true rfl) ⟨Nat.zero_le _, Nat.zero_le _⟩ dX7_readEnd_43 (fun S_7 A_8 b_9 H locs qr_6 hM => ?_)
      obtain ⟨eS_7, e2, e3⟩ := qr_6
      subst e2; subst e3
      obtain ⟨S_10, eS_10⟩ : ∃ zz, zz = q2 S_2 1 2 1 := ⟨_, rfl⟩
      rw [← eS_10] at eS_7
      refine lv_aload_n hx hb dX7_readEnd_46 rfl (lv_at hl 0 rfl) ?_
      refine lv_dup hx hb dX7_readEnd_47 rfl ?_
      refine q_get (o := 1) (ci := 7) (k := 4) (T := TX7) (v := .int (nI sk_5)) C hM (qmem_7 E ad S_7 A b (show qk 1 = 7 from by decide +kernel)) (by decide) rfl hi7 (by decide) hL1 rfl (congrArg (fun z => some (Value.int z)) (show S_7 1 4 = nI sk_5 from by rw [eS_7, q2_k _ _ (by omega)]; rw [eS_10, q2_k _ _ (by omega)]; rw [eS_2]; exact q2_s _ _ _ _)) dX7_readEnd_48 ?_
      refine lv_iconst (v := 1) hx hb dX7_readEnd_51 (by decide) ?_
      refine lv_iadd hx hb dX7_readEnd_52 ?_
      refine lv_as (y := nI (sk_5 + 1)) (nI_add _ _) ?_
      refine q_put (o := 1) (ci := 7) (k := 4) (T := TX7) (ty := .int) (v := nI (sk_5 + 1)) C hM (qmem_7 E ad S_7 A b (show qk 1 = 7 from by decide +kernel)) (by decide) rfl hi7 tyX7 tyX7_ok nmX7 (by decide) hL1 rfl rfl (by decide +kernel) rfl rfl (Nat.le_of_ble_eq_true rfl) (qs_7_4 E ad S_7 A b (show qk 1 = 7 from by decide +kernel) (nI (sk_5 + 1))) dX7_readEnd_53 (fun H locs hM => ?_)
      obtain ⟨S_11, eS_11⟩ : ∃ zz, zz = q2 S_7 1 4 (nI (sk_5 + 1)) := ⟨_, rfl⟩
      rw [← eS_11] at hM
      exact q_vret C hM dX7_readEnd_56 (by rw [← esk_5]; exact ⟨⟨rfl, rfl⟩, fun i hi => by rw [eS_11, q2_or _ _ hi, eS_7, q2_or _ _ hi, eS_10, q2_or _ _ hi, eS_2, q2_or _ _ hi], ((show S_11 1 1 = S 1 1 from by rw [eS_11, q2_k _ _ (by omega)]; rw [eS_7, q2_k _ _ (by omega)]; rw [eS_10, q2_k _ _ (by omega)]; rw [eS_2, q2_k _ _ (by omega)]).trans hln), (show S_11 1 4 = nI (sk_5 + 1) from by rw [eS_11]; exact q2_s _ _ _ _), Or.inl ⟨fun z => absurd z.1 (by omega), (show S_11 1 2 = 1 from by rw [eS_11, q2_k _ _ (by omega)]; rw [eS_7, q2_k _ _ (by omega)]; rw [eS_10]; exact q2_s _ _ _ _), (show S_11 1 3 = nI sk_5 from by rw [eS_11, q2_k _ _ (by omega)]; rw [eS_7]; exact q2_s _ _ _ _)⟩⟩)
    · skip
      have c_20 : ¬ (n ≤ sk_5) := fun z => c_20 ((nI_leI (a := n) (b := sk_5) (by omega) (by omega)).mpr z)
      refine lv_aload_n hx hb dX7_readEnd_23 rfl (lv_at hl 0 rfl) ?_
      refine q_get (o := 1) (ci := 7) (k := 0) (T := TX7) (v := .ref (ad 2)) C hM (qmem_7 E ad S_2 A b (show qk 1 = 7 from by decide +kernel)) (by decide) rfl hi7 (by decide) hL3 rfl rfl dX7_readEnd_24 ?_
      refine lv_aload_n hx hb dX7_readEnd_27 rfl (lv_at hl 0 rfl) ?_
      refine q_get (o := 1) (ci := 7) (k := 4) (T := TX7) (v := .int (nI sk_5)) C hM (qmem_7 E ad S_2 A b (show qk 1 = 7 from by decide +kernel)) (by decide) rfl hi7 (by decide) hL1 rfl (congrArg (fun z => some (Value.int z)) (show S_2 1 4 = nI sk_5 from by rw [eS_2]; exact q2_s _ _ _ _)) dX7_readEnd_28 ?_
      refine q_iald (v := A 2 sk_5) C hM (show qk 2 = 12 from by decide +kernel) (by rw [(show ql 2 = 240 from by decide +kernel)]; exact vp_nI (by omega) (by omega)) (by rw [nIc (by omega)]) dX7_readEnd_31 ?_
      refine lv_bipush (v := 59) hx hb dX7_readEnd_32 (by decide) ?_
      refine lv_icmp_eq (tgt := 46) hx hb dX7_readEnd_34 (by decide) (fun c_34 => ?_) (fun c_34 => ?_)
      · skip
        refine lv_aload_n hx hb dX7_readEnd_46 rfl (lv_at hl 0 rfl) ?_
        refine lv_dup hx hb dX7_readEnd_47 rfl ?_
        refine q_get (o := 1) (ci := 7) (k := 4) (T := TX7) (v := .int (nI sk_5)) C hM (qmem_7 E ad S_2 A b (show qk 1 = 7 from by decide +kernel)) (by decide) rfl hi7 (by decide) hL1 rfl (congrArg (fun z => some (Value.int z)) (show S_2 1 4 = nI sk_5 from by rw [eS_2]; exact q2_s _ _ _ _)) dX7_readEnd_48 ?_
        refine lv_iconst (v := 1) hx hb dX7_readEnd_51 (by decide) ?_
        refine lv_iadd hx hb dX7_readEnd_52 ?_
        refine lv_as (y := nI (sk_5 + 1)) (nI_add _ _) ?_
        refine q_put (o := 1) (ci := 7) (k := 4) (T := TX7) (ty := .int) (v := nI (sk_5 + 1)) C hM (qmem_7 E ad S_2 A b (show qk 1 = 7 from by decide +kernel)) (by decide) rfl hi7 tyX7 tyX7_ok nmX7 (by decide) hL1 rfl rfl (by decide +kernel) rfl rfl (Nat.le_of_ble_eq_true rfl) (qs_7_4 E ad S_2 A b (show qk 1 = 7 from by decide +kernel) (nI (sk_5 + 1))) dX7_readEnd_53 (fun H locs hM => ?_)
        obtain ⟨S_12, eS_12⟩ : ∃ zz, zz = q2 S_2 1 4 (nI (sk_5 + 1)) := ⟨_, rfl⟩
        rw [← eS_12] at hM
        exact q_vret C hM dX7_readEnd_56 (by rw [← esk_5]; exact ⟨⟨rfl, rfl⟩, fun i hi => by rw [eS_12, q2_or _ _ hi, eS_2, q2_or _ _ hi], ((show S_12 1 1 = S 1 1 from by rw [eS_12, q2_k _ _ (by omega)]; rw [eS_2, q2_k _ _ (by omega)]).trans hln), (show S_12 1 4 = nI (sk_5 + 1) from by rw [eS_12]; exact q2_s _ _ _ _), Or.inr ⟨⟨by omega, c_34⟩, ((show S_12 1 2 = S 1 2 from by rw [eS_12, q2_k _ _ (by omega)]; rw [eS_2, q2_k _ _ (by omega)]).trans hk0), (show S_12 1 3 = S 1 3 from by rw [eS_12, q2_k _ _ (by omega)]; rw [eS_2, q2_k _ _ (by omega)])⟩⟩)
      · skip
        refine lv_aload_n hx hb dX7_readEnd_37 rfl (lv_at hl 0 rfl) ?_
        refine lv_iconst (v := 1) hx hb dX7_readEnd_38 (by decide) ?_
        refine lv_aload_n hx hb dX7_readEnd_39 rfl (lv_at hl 0 rfl) ?_
        refine q_get (o := 1) (ci := 7) (k := 4) (T := TX7) (v := .int (nI sk_5)) C hM (qmem_7 E ad S_2 A b (show qk 1 = 7 from by decide +kernel)) (by decide) rfl hi7 (by decide) hL1 rfl (congrArg (fun z => some (Value.int z)) (show S_2 1 4 = nI sk_5 from by rw [eS_2]; exact q2_s _ _ _ _)) dX7_readEnd_40 ?_
        refine q_callVV (n := 2) (o := 1) (As := [.int 1, .int (nI sk_5)]) (rest := []) C hM hA (c_X7_refuse E ad l S_2 A b 1 (nI sk_5) ((show S_2 1 2 = S 1 2 from by rw [eS_2, q2_k _ _ (by omega)]).trans hk0)) (qmem_7 E ad S_2 A b (show qk 1 = 7 from by decide +kernel)) (by decide) rfl gX7_readEnd_X7_refuse rfl rfl rfl (by decide +kernel) ⟨Nat.le_of_ble_eq_true rfl, Nat.le_of_ble_eq_true rfl⟩ rfl hl.1 rfl (Nat.le_of_ble_eq_true rfl) ⟨Nat.zero_le _, Nat.zero_le _⟩ dX7_readEnd_43 (fun S_14 A_15 b_16 H locs qr_13 hM => ?_)
        obtain ⟨eS_14, e2, e3⟩ := qr_13
        subst e2; subst e3
        obtain ⟨S_17, eS_17⟩ : ∃ zz, zz = q2 S_2 1 2 1 := ⟨_, rfl⟩
        rw [← eS_17] at eS_14
        refine lv_aload_n hx hb dX7_readEnd_46 rfl (lv_at hl 0 rfl) ?_
        refine lv_dup hx hb dX7_readEnd_47 rfl ?_
        refine q_get (o := 1) (ci := 7) (k := 4) (T := TX7) (v := .int (nI sk_5)) C hM (qmem_7 E ad S_14 A b (show qk 1 = 7 from by decide +kernel)) (by decide) rfl hi7 (by decide) hL1 rfl (congrArg (fun z => some (Value.int z)) (show S_14 1 4 = nI sk_5 from by rw [eS_14, q2_k _ _ (by omega)]; rw [eS_17, q2_k _ _ (by omega)]; rw [eS_2]; exact q2_s _ _ _ _)) dX7_readEnd_48 ?_
        refine lv_iconst (v := 1) hx hb dX7_readEnd_51 (by decide) ?_
        refine lv_iadd hx hb dX7_readEnd_52 ?_
        refine lv_as (y := nI (sk_5 + 1)) (nI_add _ _) ?_
        refine q_put (o := 1) (ci := 7) (k := 4) (T := TX7) (ty := .int) (v := nI (sk_5 + 1)) C hM (qmem_7 E ad S_14 A b (show qk 1 = 7 from by decide +kernel)) (by decide) rfl hi7 tyX7 tyX7_ok nmX7 (by decide) hL1 rfl rfl (by decide +kernel) rfl rfl (Nat.le_of_ble_eq_true rfl) (qs_7_4 E ad S_14 A b (show qk 1 = 7 from by decide +kernel) (nI (sk_5 + 1))) dX7_readEnd_53 (fun H locs hM => ?_)
        obtain ⟨S_18, eS_18⟩ : ∃ zz, zz = q2 S_14 1 4 (nI (sk_5 + 1)) := ⟨_, rfl⟩
        rw [← eS_18] at hM
        exact q_vret C hM dX7_readEnd_56 (by rw [← esk_5]; exact ⟨⟨rfl, rfl⟩, fun i hi => by rw [eS_18, q2_or _ _ hi, eS_14, q2_or _ _ hi, eS_17, q2_or _ _ hi, eS_2, q2_or _ _ hi], ((show S_18 1 1 = S 1 1 from by rw [eS_18, q2_k _ _ (by omega)]; rw [eS_14, q2_k _ _ (by omega)]; rw [eS_17, q2_k _ _ (by omega)]; rw [eS_2, q2_k _ _ (by omega)]).trans hln), (show S_18 1 4 = nI (sk_5 + 1) from by rw [eS_18]; exact q2_s _ _ _ _), Or.inl ⟨fun z => c_34 z.2, (show S_18 1 2 = 1 from by rw [eS_18, q2_k _ _ (by omega)]; rw [eS_14, q2_k _ _ (by omega)]; rw [eS_17]; exact q2_s _ _ _ _), (show S_18 1 3 = nI sk_5 from by rw [eS_18, q2_k _ _ (by omega)]; rw [eS_14]; exact q2_s _ _ _ _)⟩⟩)
  · skip
    exact absurd hk0 c_4

set_option maxHeartbeats 4000000 in
set_option maxRecDepth 100000 in
theorem c_X7_readEnd_k (E : qE) (ad : Nat → Nat) (l : Launch) (S A : qA2) (b : qB) (hk : ¬ S 1 2 = 0) : MV E ad l yX7_readEnd wsX7_readEnd { frames := 1, cells := 0, slots := 0, locals := 22 } [.ref (ad 1)] S A b (fun S' A' b' => S = S' ∧ A = A' ∧ b = b') := by
  refine MV.of (cc := cX7_readEnd) (maxL := 1) (ret := none) RX7 rfl (by decide) rfl ?_
  intro pg e s m below meth cd C hM
  have hx := C.1
  have hb := C.2.1
  have hts := C.2.2.2.2.1
  have hA : ∀ q, s.heap.size ≤ q → qAr ad s.heap.size q := fun _ h => Or.inr h
  have hi7 : ∀ w ∈ u_ws RX7 TX7 6, w ∈ wsX7_readEnd := by decide +kernel
  have hL0 := hts (.fieldLink RX7 27 "CrowFences$Text" "faultKind" "I") (by decide +kernel)
  have hl := lv_entry ([.ref (ad 1)]) (n := 1) (Nat.le_of_ble_eq_true rfl)
  rw [lg_entry_eq]
  generalize (lg_sl ([.ref (ad 1)]) ++ List.replicate (1 - (lg_sl ([.ref (ad 1)])).length) Slot.unset).toArray = ls at hl ⊢
  have hl : lv_has ls 1 [(0, .ref (ad 1))] := hl
  refine lv_aload_n hx hb dX7_readEnd_0 rfl (lv_at hl 0 rfl) ?_
  refine q_get (o := 1) (ci := 7) (k := 2) (T := TX7) (v := .int (S 1 2)) C hM (qmem_7 E ad S A b (show qk 1 = 7 from by decide +kernel)) (by decide) rfl hi7 (by decide) hL0 rfl rfl dX7_readEnd_1 ?_
  refine lv_if_eq (tgt := 8) hx hb dX7_readEnd_4 (by decide) (fun c_4 => ?_) (fun c_4 => ?_)
  · skip
    exact absurd c_4 hk
  · skip
    exact q_vret C hM dX7_readEnd_7 (by exact ⟨rfl, rfl, rfl⟩)
