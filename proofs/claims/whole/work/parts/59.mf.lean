set_option maxHeartbeats 4000000 in
set_option maxRecDepth 100000 in
theorem c_X11_here (E : qE) (ad : Nat → Nat) (l : Launch) (S A : qA2) (b : qB) (n a : Nat) (hln : S 188 14 = nI n) (hnb : n ≤ 240) (hat : S 188 16 = nI a) (hab : a ≤ 245) : MI E ad l yX11_here wsX11_here { frames := 0, cells := 0, slots := 0, locals := 0 } [.ref (ad 188)] S A b (fun r S' A' b' => (A = A' ∧ b = b') ∧ S' = q2 S 188 16 (nI (qsk (A 194) n a)) ∧ r = (if qsk (A 194) n a < n then A 194 (qsk (A 194) n a) else -1)) := by
  refine MI.of (cc := cX11_here) (maxL := 1) (ret := some .int) RX11 rfl (by decide) rfl ?_
  intro pg e s m below meth cd C hM
  have hx := C.1
  have hb := C.2.1
  have hts := C.2.2.2.2.1
  have hA : ∀ q, s.heap.size ≤ q → qAr ad s.heap.size q := fun _ h => Or.inr h
  have hi11 : ∀ w ∈ u_ws RX11 TX11 45, w ∈ wsX11_here := by decide +kernel
  have hL0 := hts (.fieldLink RX11 110 "CrowFencesModel" "at0" "I") (by decide +kernel)
  have hL1 := hts (.fieldLink RX11 106 "CrowFencesModel" "texted" "I") (by decide +kernel)
  have hL2 := hts (.fieldLink RX11 25 "CrowFencesModel" "text" "[I") (by decide +kernel)
  have hl := lv_entry ([.ref (ad 188)]) (n := 1) (Nat.le_of_ble_eq_true rfl)
  rw [lg_entry_eq]
  generalize (lg_sl ([.ref (ad 188)]) ++ List.replicate (1 - (lg_sl ([.ref (ad 188)])).length) Slot.unset).toArray = ls at hl ⊢
  have hl : lv_has ls 1 [(0, .ref (ad 188))] := hl
  have loop0 : ∀ (fu : Nat) (a1 : Nat) (S0 : qA2) (ha1 : a1 ≤ 245) (hs : S0 = q2 S 188 16 (nI a1)) (hv : qsk (A 194) n a = qskF (A 194) n (n - a1) a1), n - a1 < fu → ∀ (H : Heap) (locs : List Loc) (ls : Array Slot), qM E ad S0 A b (qAr ad s.heap.size) s H locs → lv_has ls 1 [(0, .ref (ad 188))] → W pg l e (headSpec wsX11_here { frames := 0, cells := 0, slots := 0, locals := 0 }).room s m ([.ref (ad 188)] : List Value).toArray below meth cd H locs 0 0 (MQ below (qQi E ad s.heap.size (fun r S' A' b' => (A = A' ∧ b = b') ∧ S' = q2 S 188 16 (nI (qsk (A 194) n a)) ∧ r = (if qsk (A 194) n a < n then A 194 (qsk (A 194) n a) else -1))) ([.ref (ad 188)] : List Value).toArray s 0 0 (qAr ad s.heap.size)) (F0 m 0 ls []) := by
    intro fu
    induction fu with
    | zero => intro a1 S0 ha1 hs hv hn; exact absurd hn (Nat.not_lt_zero _)
    | succ fu ih0 =>
      intro a1 S0 ha1 hs hv hn H locs ls hM hl
      refine lv_aload_n hx hb dX11_here_0 rfl (lv_at hl 0 rfl) ?_
      refine q_get (o := 188) (ci := 11) (k := 16) (T := TX11) (v := .int (nI a1)) C hM (qmem_11 E ad S0 A b (show qk 188 = 11 from by decide +kernel)) (by decide) rfl hi11 (by decide) hL0 rfl (congrArg (fun z => some (Value.int z)) (show S0 188 16 = nI a1 from by rw [hs]; exact q2_s _ _ _ _)) dX11_here_1 ?_
      refine lv_aload_n hx hb dX11_here_4 rfl (lv_at hl 0 rfl) ?_
      refine q_get (o := 188) (ci := 11) (k := 14) (T := TX11) (v := .int (S 188 14)) C hM (qmem_11 E ad S0 A b (show qk 188 = 11 from by decide +kernel)) (by decide) rfl hi11 (by decide) hL1 rfl (congrArg (fun z => some (Value.int z)) (show S0 188 14 = S 188 14 from by rw [hs, q2_k _ _ (by omega)])) dX11_here_5 ?_
      refine lv_as (y := nI n) hln ?_
      refine lv_icmp_ge (tgt := 38) hx hb dX11_here_8 (by decide) (fun c_8 => ?_) (fun c_8 => ?_)
      · skip
        have c_8 : n ≤ a1 := (nI_leI (a := n) (b := a1) (by omega) (by omega)).mp c_8
        refine lv_aload_n hx hb dX11_here_38 rfl (lv_at hl 0 rfl) ?_
        refine q_get (o := 188) (ci := 11) (k := 16) (T := TX11) (v := .int (nI a1)) C hM (qmem_11 E ad S0 A b (show qk 188 = 11 from by decide +kernel)) (by decide) rfl hi11 (by decide) hL0 rfl (congrArg (fun z => some (Value.int z)) (show S0 188 16 = nI a1 from by rw [hs]; exact q2_s _ _ _ _)) dX11_here_39 ?_
        refine lv_aload_n hx hb dX11_here_42 rfl (lv_at hl 0 rfl) ?_
        refine q_get (o := 188) (ci := 11) (k := 14) (T := TX11) (v := .int (S 188 14)) C hM (qmem_11 E ad S0 A b (show qk 188 = 11 from by decide +kernel)) (by decide) rfl hi11 (by decide) hL1 rfl (congrArg (fun z => some (Value.int z)) (show S0 188 14 = S 188 14 from by rw [hs, q2_k _ _ (by omega)])) dX11_here_43 ?_
        refine lv_as (y := nI n) hln ?_
        refine lv_icmp_ge (tgt := 61) hx hb dX11_here_46 (by decide) (fun c_46 => ?_) (fun c_46 => ?_)
        · skip
          have c_46 : n ≤ a1 := (nI_leI (a := n) (b := a1) (by omega) (by omega)).mp c_46
          refine lv_iconst (v := (-1)) hx hb dX11_here_61 (by decide) ?_
          exact q_iret C hM dX11_here_62 (by have hq : qsk (A 194) n a = a1 := (by rw [hv, show n - a1 = 0 by omega]; rfl); rw [hq]; exact ⟨⟨rfl, rfl⟩, hs, by rw [if_neg (by omega)]⟩)
        · skip
          have c_46 : ¬ (n ≤ a1) := fun z => c_46 ((nI_leI (a := n) (b := a1) (by omega) (by omega)).mpr z)
          omega
      · skip
        have c_8 : ¬ (n ≤ a1) := fun z => c_8 ((nI_leI (a := n) (b := a1) (by omega) (by omega)).mpr z)
        refine lv_aload_n hx hb dX11_here_11 rfl (lv_at hl 0 rfl) ?_
        refine q_get (o := 188) (ci := 11) (k := 13) (T := TX11) (v := .ref (ad 194)) C hM (qmem_11 E ad S0 A b (show qk 188 = 11 from by decide +kernel)) (by decide) rfl hi11 (by decide) hL2 rfl rfl dX11_here_12 ?_
        refine lv_aload_n hx hb dX11_here_15 rfl (lv_at hl 0 rfl) ?_
        refine q_get (o := 188) (ci := 11) (k := 16) (T := TX11) (v := .int (nI a1)) C hM (qmem_11 E ad S0 A b (show qk 188 = 11 from by decide +kernel)) (by decide) rfl hi11 (by decide) hL0 rfl (congrArg (fun z => some (Value.int z)) (show S0 188 16 = nI a1 from by rw [hs]; exact q2_s _ _ _ _)) dX11_here_16 ?_
        refine q_iald (v := A 194 a1) C hM (show qk 194 = 12 from by decide +kernel) (by rw [(show ql 194 = 240 from by decide +kernel)]; exact vp_nI (by omega) (by omega)) (by rw [nIc (by omega)]) dX11_here_19 ?_
        refine lv_bipush (v := 32) hx hb dX11_here_20 (by decide) ?_
        refine lv_icmp_ne (tgt := 38) hx hb dX11_here_22 (by decide) (fun c_22 => ?_) (fun c_22 => ?_)
        · skip
          refine lv_aload_n hx hb dX11_here_38 rfl (lv_at hl 0 rfl) ?_
          refine q_get (o := 188) (ci := 11) (k := 16) (T := TX11) (v := .int (nI a1)) C hM (qmem_11 E ad S0 A b (show qk 188 = 11 from by decide +kernel)) (by decide) rfl hi11 (by decide) hL0 rfl (congrArg (fun z => some (Value.int z)) (show S0 188 16 = nI a1 from by rw [hs]; exact q2_s _ _ _ _)) dX11_here_39 ?_
          refine lv_aload_n hx hb dX11_here_42 rfl (lv_at hl 0 rfl) ?_
          refine q_get (o := 188) (ci := 11) (k := 14) (T := TX11) (v := .int (S 188 14)) C hM (qmem_11 E ad S0 A b (show qk 188 = 11 from by decide +kernel)) (by decide) rfl hi11 (by decide) hL1 rfl (congrArg (fun z => some (Value.int z)) (show S0 188 14 = S 188 14 from by rw [hs, q2_k _ _ (by omega)])) dX11_here_43 ?_
          refine lv_as (y := nI n) hln ?_
          refine lv_icmp_ge (tgt := 61) hx hb dX11_here_46 (by decide) (fun c_46 => ?_) (fun c_46 => ?_)
          · skip
            have c_46 : n ≤ a1 := (nI_leI (a := n) (b := a1) (by omega) (by omega)).mp c_46
            omega
          · skip
            have c_46 : ¬ (n ≤ a1) := fun z => c_46 ((nI_leI (a := n) (b := a1) (by omega) (by omega)).mpr z)
            refine lv_aload_n hx hb dX11_here_49 rfl (lv_at hl 0 rfl) ?_
            refine q_get (o := 188) (ci := 11) (k := 13) (T := TX11) (v := .ref (ad 194)) C hM (qmem_11 E ad S0 A b (show qk 188 = 11 from by decide +kernel)) (by decide) rfl hi11 (by decide) hL2 rfl rfl dX11_here_50 ?_
            refine lv_aload_n hx hb dX11_here_53 rfl (lv_at hl 0 rfl) ?_
            refine q_get (o := 188) (ci := 11) (k := 16) (T := TX11) (v := .int (nI a1)) C hM (qmem_11 E ad S0 A b (show qk 188 = 11 from by decide +kernel)) (by decide) rfl hi11 (by decide) hL0 rfl (congrArg (fun z => some (Value.int z)) (show S0 188 16 = nI a1 from by rw [hs]; exact q2_s _ _ _ _)) dX11_here_54 ?_
            refine q_iald (v := A 194 a1) C hM (show qk 194 = 12 from by decide +kernel) (by rw [(show ql 194 = 240 from by decide +kernel)]; exact vp_nI (by omega) (by omega)) (by rw [nIc (by omega)]) dX11_here_57 ?_
            refine lv_goto (tgt := 62) hx hb dX11_here_58 (by decide) ?_
            exact q_iret C hM dX11_here_62 (by have hq : qsk (A 194) n a = a1 := (by rw [hv, show n - a1 = (n - (a1 + 1)) + 1 by omega]; exact if_neg (fun z => c_22 z.2)); rw [hq]; exact ⟨⟨rfl, rfl⟩, hs, by rw [if_pos (by omega)]⟩)
        · skip
          refine lv_aload_n hx hb dX11_here_25 rfl (lv_at hl 0 rfl) ?_
          refine lv_dup hx hb dX11_here_26 rfl ?_
          refine q_get (o := 188) (ci := 11) (k := 16) (T := TX11) (v := .int (nI a1)) C hM (qmem_11 E ad S0 A b (show qk 188 = 11 from by decide +kernel)) (by decide) rfl hi11 (by decide) hL0 rfl (congrArg (fun z => some (Value.int z)) (show S0 188 16 = nI a1 from by rw [hs]; exact q2_s _ _ _ _)) dX11_here_27 ?_
          refine lv_iconst (v := 1) hx hb dX11_here_30 (by decide) ?_
          refine lv_iadd hx hb dX11_here_31 ?_
          refine lv_as (y := nI (a1 + 1)) (nI_add _ _) ?_
          refine q_put (o := 188) (ci := 11) (k := 16) (T := TX11) (ty := .int) (v := nI (a1 + 1)) C hM (qmem_11 E ad S0 A b (show qk 188 = 11 from by decide +kernel)) (by decide) rfl hi11 tyX11 tyX11_ok nmX11 (by decide) hL0 rfl rfl (by decide +kernel) rfl rfl (Nat.le_of_ble_eq_true rfl) (qs_11_16 E ad S0 A b (show qk 188 = 11 from by decide +kernel) (nI (a1 + 1))) dX11_here_32 (fun H locs hM => ?_)
          obtain ⟨S_1, eS_1⟩ : ∃ zz, zz = q2 S0 188 16 (nI (a1 + 1)) := ⟨_, rfl⟩
          rw [← eS_1] at hM
          refine lv_goto (tgt := 0) hx hb dX11_here_35 (by decide) ?_
          exact ih0 (a1 + 1) S_1 (by omega) (by rw [eS_1, hs, q2_q2]) (by rw [hv, show n - a1 = (n - (a1 + 1)) + 1 by omega]; exact if_pos ⟨by omega, c_22⟩) (by omega) _ _ _ hM hl
  exact loop0 (n - a + 1) a S (by omega) (by rw [← hat, q2_self]) rfl (Nat.lt_succ_self _) _ _ _ hM hl

set_option maxHeartbeats 4000000 in
set_option maxRecDepth 100000 in
theorem c_X11_takeNumber (E : qE) (ad : Nat → Nat) (l : Launch) (S A : qA2) (b : qB) (lo mo : Nat) (n a : Nat) (hln : S 188 14 = nI n) (hnb : n ≤ 240) (hat : S 188 16 = nI a) (hab : a ≤ 245) (hlo : lo < 1000) (hmo : mo < 1000) : MI E ad l yX11_takeNumber wsX11_takeNumber { frames := 1, cells := 0, slots := 0, locals := 25 } [.ref (ad 188), .int (nI lo), .int (nI mo)] S A b (fun r S' A' b' => (A = A' ∧ b = b') ∧ (∀ i j, (i ≠ 188 ∨ j < 15 ∨ 18 < j) → S' i j = S i j) ∧ ((∃ kd pl, qnum qstM (A 194) n a lo mo = .inl (kd, pl) ∧ (1 ≤ kd ∧ kd ≤ 2) ∧ r = nI kd ∧ S' 188 15 = nI pl) ∨ (∃ v e a1, qnum qstM (A 194) n a lo mo = .inr (v, e, a1) ∧ lo ≤ v ∧ v ≤ mo ∧ (a ≤ e ∧ e ≤ max n a) ∧ r = 0 ∧ S' 188 15 = S 188 15 ∧ S' 188 16 = nI e ∧ S' 188 17 = nI v ∧ S' 188 18 = nI a1))) := by
  refine MI.of (cc := cX11_takeNumber) (maxL := 4) (ret := some .int) RX11 rfl (by decide) rfl ?_
  intro pg e s m below meth cd C hM
  have hx := C.1
  have hb := C.2.1
  have hts := C.2.2.2.2.1
  have hA : ∀ q, s.heap.size ≤ q → qAr ad s.heap.size q := fun _ h => Or.inr h
  have hi11 : ∀ w ∈ u_ws RX11 TX11 45, w ∈ wsX11_takeNumber := by decide +kernel
  have hL0 := hts (.constantLong RX11 117 (48)) (by decide +kernel)
  have hL1 := hts (.constantLong RX11 119 (57)) (by decide +kernel)
  have hL2 := hts (.fieldLink RX11 110 "CrowFencesModel" "at0" "I") (by decide +kernel)
  have hL3 := hts (.fieldLink RX11 125 "CrowFencesModel" "numberAt" "I") (by decide +kernel)
  have hL4 := hts (.fieldLink RX11 128 "CrowFencesModel" "number" "I") (by decide +kernel)
  have hL5 := hts (.fieldLink RX11 106 "CrowFencesModel" "texted" "I") (by decide +kernel)
  have hL6 := hts (.fieldLink RX11 25 "CrowFencesModel" "text" "[I") (by decide +kernel)
  have hl := lv_entry ([.ref (ad 188), .int (nI lo), .int (nI mo)]) (n := 4) (Nat.le_of_ble_eq_true rfl)
  rw [lg_entry_eq]
  generalize (lg_sl ([.ref (ad 188), .int (nI lo), .int (nI mo)]) ++ List.replicate (4 - (lg_sl ([.ref (ad 188), .int (nI lo), .int (nI mo)])).length) Slot.unset).toArray = ls at hl ⊢
  have hl : lv_has ls 4 [(0, .ref (ad 188)), (1, .int (nI lo)), (2, .int (nI mo))] := hl
  refine lv_aload_n hx hb dX11_takeNumber_0 rfl (lv_at hl 0 rfl) ?_
  refine q_callVI (n := 0) (o := 188) (As := []) (rest := []) C hM hA (c_X11_here E ad l S A b n a hln (by omega) hat (by omega)) (qmem_11 E ad S A b (show qk 188 = 11 from by decide +kernel)) (by decide) rfl gX11_takeNumber_X11_here rfl rfl rfl (by decide +kernel) ⟨Nat.le_of_ble_eq_true rfl, Nat.le_of_ble_eq_true rfl⟩ rfl hl.1 rfl (Nat.le_of_ble_eq_true rfl) ⟨Nat.zero_le _, Nat.zero_le _⟩ dX11_takeNumber_1 (fun r_1 S_2 A_3 b_4 H locs qr_1 hM => ?_)
  obtain ⟨sk_5, esk_5⟩ : ∃ zz, zz = qsk (A 194) n a := ⟨_, rfl⟩
  have lsk_5 := qsk_le (A 194) n a
  rw [← esk_5] at lsk_5 qr_1
  obtain ⟨⟨e2, e3⟩, eS_2, er_1⟩ := qr_1
  subst e2; subst e3
  by_cases hltsk_5 : sk_5 < n
  · skip
    rw [if_pos hltsk_5] at er_1
    subst er_1
    refine lv_istore_n (lv' := [(3, .int (A 194 sk_5)), (0, .ref (ad 188)), (1, .int (nI lo)), (2, .int (nI mo))]) hx hb dX11_takeNumber_4 rfl hl (by decide) rfl (fun ls hl => ?_)
    refine lv_iload_n hx hb dX11_takeNumber_5 rfl (lv_at hl 0 rfl) ?_
    refine lv_i2l (v := (A 194 sk_5 : Int32).toInt64) hx hb dX11_takeNumber_6 rfl ?_
    refine lv_ldc2 (v := 48) hx hb C.2.2.2.1 hL0 dX11_takeNumber_7 ?_
    refine lv_ldc2 (v := 57) hx hb C.2.2.2.1 hL1 dX11_takeNumber_10 ?_
    refine q_callSI (n := 3) (As := [.long ((A 194 sk_5 : Int32).toInt64), .long 48, .long 57]) (rest := []) C hM hA (c_X11_in E ad l S_2 A b ((A 194 sk_5 : Int32).toInt64) 48 57) gX11_takeNumber_X11_in rfl rfl rfl (by decide +kernel) ⟨Nat.le_of_ble_eq_true rfl, Nat.le_of_ble_eq_true rfl⟩ rfl hl.1 rfl (Nat.le_of_ble_eq_true rfl) ⟨Nat.zero_le _, Nat.zero_le _⟩ dX11_takeNumber_13 (fun r_6 S_7 A_8 b_9 H locs qr_6 hM => ?_)
    obtain ⟨⟨e1, e2, e3⟩, er_6⟩ := qr_6
    subst e1; subst e2; subst e3
    rw [q64 (x := A 194 sk_5) (lo := 48) (hi := 57) (by first | rfl | decide) (by first | rfl | decide)] at er_6
    rcases q01_cases (48 ≤ (A 194 sk_5 : Int32) ∧ (A 194 sk_5 : Int32) ≤ 57) with ⟨hzr_6, hir_6⟩ | ⟨hzr_6, hir_6⟩
    · skip
      rw [hzr_6] at er_6
      subst er_6
      refine lv_if_ne (tgt := 29) hx hb dX11_takeNumber_16 (by decide) (fun c_16 => ?_) (fun c_16 => ?_)
      · skip
        have c_16 : ¬ (1 = 0) := fun z => c_16 ((nI_eq (a := 1) (b := 0) (by omega) (by omega)).mpr z)
        refine lv_aload_n hx hb dX11_takeNumber_29 rfl (lv_at hl 1 rfl) ?_
        refine lv_aload_n hx hb dX11_takeNumber_30 rfl (lv_at hl 1 rfl) ?_
        refine q_get (o := 188) (ci := 11) (k := 16) (T := TX11) (v := .int (nI sk_5)) C hM (qmem_11 E ad S_2 A b (show qk 188 = 11 from by decide +kernel)) (by decide) rfl hi11 (by decide) hL2 rfl (congrArg (fun z => some (Value.int z)) (show S_2 188 16 = nI sk_5 from by rw [eS_2]; exact q2_s _ _ _ _)) dX11_takeNumber_31 ?_
        refine q_put (o := 188) (ci := 11) (k := 18) (T := TX11) (ty := .int) (v := nI sk_5) C hM (qmem_11 E ad S_2 A b (show qk 188 = 11 from by decide +kernel)) (by decide) rfl hi11 tyX11 tyX11_ok nmX11 (by decide) hL3 rfl rfl (by decide +kernel) rfl rfl (Nat.le_of_ble_eq_true rfl) (qs_11_18 E ad S_2 A b (show qk 188 = 11 from by decide +kernel) (nI sk_5)) dX11_takeNumber_34 (fun H locs hM => ?_)
        obtain ⟨S_10, eS_10⟩ : ∃ zz, zz = q2 S_2 188 18 (nI sk_5) := ⟨_, rfl⟩
        rw [← eS_10] at hM
        refine lv_aload_n hx hb dX11_takeNumber_37 rfl (lv_at hl 1 rfl) ?_
        refine lv_iconst (v := 0) hx hb dX11_takeNumber_38 (by decide) ?_
        refine q_put (o := 188) (ci := 11) (k := 17) (T := TX11) (ty := .int) (v := 0) C hM (qmem_11 E ad S_10 A b (show qk 188 = 11 from by decide +kernel)) (by decide) rfl hi11 tyX11 tyX11_ok nmX11 (by decide) hL4 rfl rfl (by decide +kernel) rfl rfl (Nat.le_of_ble_eq_true rfl) (qs_11_17 E ad S_10 A b (show qk 188 = 11 from by decide +kernel) 0) dX11_takeNumber_39 (fun H locs hM => ?_)
        obtain ⟨S_11, eS_11⟩ : ∃ zz, zz = q2 S_10 188 17 0 := ⟨_, rfl⟩
        rw [← eS_11] at hM
        have loop42 : ∀ (fu : Nat) (a1 : Nat) (v : Int32) (S42 : qA2) (ha1 : sk_5 ≤ a1 ∧ a1 ≤ max n a) (hne : sk_5 < n ∧ 48 ≤ A 194 sk_5 ∧ A 194 sk_5 ≤ 57) (h16 : S42 188 16 = nI a1) (h17 : S42 188 17 = v) (hfr : ∀ i j, (i ≠ 188 ∨ (j ≠ 16 ∧ j ≠ 17)) → S42 i j = S_11 i j) (hv : qdg qstM (A 194) n (n - sk_5) sk_5 0 = qdg qstM (A 194) n (n - a1) a1 v), n - a1 < fu → ∀ (H : Heap) (locs : List Loc) (ls : Array Slot), qM E ad S42 A b (qAr ad s.heap.size) s H locs → lv_has ls 4 [(0, .ref (ad 188)), (1, .int (nI lo)), (2, .int (nI mo))] → W pg l e (headSpec wsX11_takeNumber { frames := 1, cells := 0, slots := 0, locals := 25 }).room s m ([.ref (ad 188), .int (nI lo), .int (nI mo)] : List Value).toArray below meth cd H locs 0 0 (MQ below (qQi E ad s.heap.size (fun r S' A' b' => (A = A' ∧ b = b') ∧ (∀ i j, (i ≠ 188 ∨ j < 15 ∨ 18 < j) → S' i j = S i j) ∧ ((∃ kd pl, qnum qstM (A 194) n a lo mo = .inl (kd, pl) ∧ (1 ≤ kd ∧ kd ≤ 2) ∧ r = nI kd ∧ S' 188 15 = nI pl) ∨ (∃ v e a1, qnum qstM (A 194) n a lo mo = .inr (v, e, a1) ∧ lo ≤ v ∧ v ≤ mo ∧ (a ≤ e ∧ e ≤ max n a) ∧ r = 0 ∧ S' 188 15 = S 188 15 ∧ S' 188 16 = nI e ∧ S' 188 17 = nI v ∧ S' 188 18 = nI a1)))) ([.ref (ad 188), .int (nI lo), .int (nI mo)] : List Value).toArray s 0 0 (qAr ad s.heap.size)) (F0 m 42 ls []) := by
          intro fu
          induction fu with
          | zero => intro a1 v S42 ha1 hne h16 h17 hfr hv hn; exact absurd hn (Nat.not_lt_zero _)
          | succ fu ih42 =>
            intro a1 v S42 ha1 hne h16 h17 hfr hv hn H locs ls hM hl
            refine lv_aload_n hx hb dX11_takeNumber_42 rfl (lv_at hl 0 rfl) ?_
            refine q_get (o := 188) (ci := 11) (k := 16) (T := TX11) (v := .int (nI a1)) C hM (qmem_11 E ad S42 A b (show qk 188 = 11 from by decide +kernel)) (by decide) rfl hi11 (by decide) hL2 rfl (congrArg (fun z => some (Value.int z)) (show S42 188 16 = nI a1 from by exact h16)) dX11_takeNumber_43 ?_
            refine lv_aload_n hx hb dX11_takeNumber_46 rfl (lv_at hl 0 rfl) ?_
            refine q_get (o := 188) (ci := 11) (k := 14) (T := TX11) (v := .int (S 188 14)) C hM (qmem_11 E ad S42 A b (show qk 188 = 11 from by decide +kernel)) (by decide) rfl hi11 (by decide) hL5 rfl (congrArg (fun z => some (Value.int z)) (show S42 188 14 = S 188 14 from by rw [hfr 188 14 (by omega)]; rw [eS_11, q2_k _ _ (by omega)]; rw [eS_10, q2_k _ _ (by omega)]; rw [eS_2, q2_k _ _ (by omega)])) dX11_takeNumber_47 ?_
            refine lv_as (y := nI n) hln ?_
            refine lv_icmp_ge (tgt := 129) hx hb dX11_takeNumber_50 (by decide) (fun c_50 => ?_) (fun c_50 => ?_)
            · skip
              have c_50 : n ≤ a1 := (nI_leI (a := n) (b := a1) (by omega) (by omega)).mp c_50
              refine lv_aload_n hx hb dX11_takeNumber_129 rfl (lv_at hl 0 rfl) ?_
              refine q_get (o := 188) (ci := 11) (k := 16) (T := TX11) (v := .int (nI a1)) C hM (qmem_11 E ad S42 A b (show qk 188 = 11 from by decide +kernel)) (by decide) rfl hi11 (by decide) hL2 rfl (congrArg (fun z => some (Value.int z)) (show S42 188 16 = nI a1 from by exact h16)) dX11_takeNumber_130 ?_
              refine lv_aload_n hx hb dX11_takeNumber_133 rfl (lv_at hl 0 rfl) ?_
              refine q_get (o := 188) (ci := 11) (k := 18) (T := TX11) (v := .int (nI sk_5)) C hM (qmem_11 E ad S42 A b (show qk 188 = 11 from by decide +kernel)) (by decide) rfl hi11 (by decide) hL3 rfl (congrArg (fun z => some (Value.int z)) (show S42 188 18 = nI sk_5 from by rw [hfr 188 18 (by omega)]; rw [eS_11, q2_k _ _ (by omega)]; rw [eS_10]; exact q2_s _ _ _ _)) dX11_takeNumber_134 ?_
              refine lv_isub hx hb dX11_takeNumber_137 ?_
              refine lv_as (y := nI (a1 - sk_5)) (pk_sub (a := a1) (b := sk_5) (by omega)) ?_
              refine lv_iconst (v := 3) hx hb dX11_takeNumber_138 (by decide) ?_
              refine lv_icmp_gt (tgt := 157) hx hb dX11_takeNumber_139 (by decide) (fun c_139 => ?_) (fun c_139 => ?_)
              · skip
                have c_139 : 3 < a1 - sk_5 := (nI_ltI (a := 3) (b := a1 - sk_5) (by omega) (by omega)).mp c_139
                refine lv_aload_n hx hb dX11_takeNumber_157 rfl (lv_at hl 0 rfl) ?_
                refine lv_iconst (v := 2) hx hb dX11_takeNumber_158 (by decide) ?_
                refine lv_aload_n hx hb dX11_takeNumber_159 rfl (lv_at hl 0 rfl) ?_
                refine q_get (o := 188) (ci := 11) (k := 18) (T := TX11) (v := .int (nI sk_5)) C hM (qmem_11 E ad S42 A b (show qk 188 = 11 from by decide +kernel)) (by decide) rfl hi11 (by decide) hL3 rfl (congrArg (fun z => some (Value.int z)) (show S42 188 18 = nI sk_5 from by rw [hfr 188 18 (by omega)]; rw [eS_11, q2_k _ _ (by omega)]; rw [eS_10]; exact q2_s _ _ _ _)) dX11_takeNumber_160 ?_
                refine q_callVI (n := 2) (o := 188) (As := [.int 2, .int (nI sk_5)]) (rest := []) C hM hA (c_X11_fails E ad l S42 A b 2 (nI sk_5)) (qmem_11 E ad S42 A b (show qk 188 = 11 from by decide +kernel)) (by decide) rfl gX11_takeNumber_X11_fails rfl rfl rfl (by decide +kernel) ⟨Nat.le_of_ble_eq_true rfl, Nat.le_of_ble_eq_true rfl⟩ rfl hl.1 rfl (Nat.le_of_ble_eq_true rfl) ⟨Nat.zero_le _, Nat.zero_le _⟩ dX11_takeNumber_163 (fun r_12 S_13 A_14 b_15 H locs qr_12 hM => ?_)
                obtain ⟨⟨e2, e3⟩, er_12, eS_13⟩ := qr_12
                subst e2; subst e3
                subst er_12
                refine lv_goto (tgt := 170) hx hb dX11_takeNumber_166 (by decide) ?_
                exact q_iret C hM dX11_takeNumber_170 (by have hqd : qdg qstM (A 194) n (n - sk_5) sk_5 0 = (a1, v) := hv.trans (by rw [show n - a1 = 0 by omega]; rfl); exact ⟨⟨rfl, rfl⟩, fun i j hij => by rw [eS_13, q2_ne _ _ (by omega), hfr i j (by omega), eS_11, q2_ne _ _ (by omega), eS_10, q2_ne _ _ (by omega), eS_2, q2_ne _ _ (by omega)], Or.inl ⟨2, sk_5, by simp only [qnum, ← esk_5]; rw [hqd]; rw [if_neg (show ¬ a1 = sk_5 by omega)]; exact if_pos (Or.inl c_139), by omega, rfl, (show S_13 188 15 = nI sk_5 from by rw [eS_13]; exact q2_s _ _ _ _)⟩⟩)
              · skip
                have c_139 : ¬ (3 < a1 - sk_5) := fun z => c_139 ((nI_ltI (a := 3) (b := a1 - sk_5) (by omega) (by omega)).mpr z)
                refine lv_aload_n hx hb dX11_takeNumber_142 rfl (lv_at hl 0 rfl) ?_
                refine q_get (o := 188) (ci := 11) (k := 17) (T := TX11) (v := .int v) C hM (qmem_11 E ad S42 A b (show qk 188 = 11 from by decide +kernel)) (by decide) rfl hi11 (by decide) hL4 rfl (congrArg (fun z => some (Value.int z)) (show S42 188 17 = v from by exact h17)) dX11_takeNumber_143 ?_
                refine lv_i2l (v := (v : Int32).toInt64) hx hb dX11_takeNumber_146 rfl ?_
                refine lv_iload_n hx hb dX11_takeNumber_147 rfl (lv_at hl 1 rfl) ?_
                refine lv_i2l (v := (nI lo : Int32).toInt64) hx hb dX11_takeNumber_148 rfl ?_
                refine lv_iload_n hx hb dX11_takeNumber_149 rfl (lv_at hl 2 rfl) ?_
                refine lv_i2l (v := (nI mo : Int32).toInt64) hx hb dX11_takeNumber_150 rfl ?_
                refine q_callSI (n := 3) (As := [.long ((v : Int32).toInt64), .long ((nI lo : Int32).toInt64), .long ((nI mo : Int32).toInt64)]) (rest := []) C hM hA (c_X11_in E ad l S42 A b ((v : Int32).toInt64) ((nI lo : Int32).toInt64) ((nI mo : Int32).toInt64)) gX11_takeNumber_X11_in rfl rfl rfl (by decide +kernel) ⟨Nat.le_of_ble_eq_true rfl, Nat.le_of_ble_eq_true rfl⟩ rfl hl.1 rfl (Nat.le_of_ble_eq_true rfl) ⟨Nat.zero_le _, Nat.zero_le _⟩ dX11_takeNumber_151 (fun r_16 S_17 A_18 b_19 H locs qr_16 hM => ?_)
                obtain ⟨⟨e1, e2, e3⟩, er_16⟩ := qr_16
                subst e1; subst e2; subst e3
                rw [q64 (x := v) (lo := nI lo) (hi := nI mo) (by first | rfl | decide) (by first | rfl | decide)] at er_16
                rcases q01_cases (nI lo ≤ (v : Int32) ∧ (v : Int32) ≤ nI mo) with ⟨hzr_16, hir_16⟩ | ⟨hzr_16, hir_16⟩
                · skip
                  rw [hzr_16] at er_16
                  subst er_16
                  refine lv_if_ne (tgt := 169) hx hb dX11_takeNumber_154 (by decide) (fun c_154 => ?_) (fun c_154 => ?_)
                  · skip
                    have c_154 : ¬ (1 = 0) := fun z => c_154 ((nI_eq (a := 1) (b := 0) (by omega) (by omega)).mpr z)
                    refine lv_iconst (v := 0) hx hb dX11_takeNumber_169 (by decide) ?_
                    exact q_iret C hM dX11_takeNumber_170 (by have hqd : qdg qstM (A 194) n (n - sk_5) sk_5 0 = (a1, v) := hv.trans (by rw [show n - a1 = 0 by omega]; rfl); have hb9 := nI_betw (by omega) (Int32.not_lt.mpr hir_16.1) (Int32.not_lt.mpr hir_16.2) (by omega); exact ⟨⟨rfl, rfl⟩, fun i j hij => by rw [hfr i j (by omega), eS_11, q2_ne _ _ (by omega), eS_10, q2_ne _ _ (by omega), eS_2, q2_ne _ _ (by omega)], Or.inr ⟨v.toNatClampNeg, a1, sk_5, by simp only [qnum, ← esk_5]; rw [hqd]; rw [if_neg (show ¬ a1 = sk_5 by omega)]; exact if_neg (fun z => z.elim (fun q => c_139 q) (fun q => q.elim (Int32.not_lt.mpr hir_16.1) (Int32.not_lt.mpr hir_16.2))), hb9.2.1, hb9.2.2, by omega, rfl, (show S42 188 15 = S 188 15 from by rw [hfr 188 15 (by omega)]; rw [eS_11, q2_k _ _ (by omega)]; rw [eS_10, q2_k _ _ (by omega)]; rw [eS_2, q2_k _ _ (by omega)]), (show S42 188 16 = nI a1 from by exact h16), ((show S42 188 17 = v from by exact h17)).trans hb9.1, (show S42 188 18 = nI sk_5 from by rw [hfr 188 18 (by omega)]; rw [eS_11, q2_k _ _ (by omega)]; rw [eS_10]; exact q2_s _ _ _ _)⟩⟩)
                  · skip
                    have c_154 : 1 = 0 := (nI_eq (a := 1) (b := 0) (by omega) (by omega)).mp c_154
                    exact absurd c_154 (by decide)
                · skip
                  rw [hzr_16] at er_16
                  subst er_16
                  refine lv_if_ne (tgt := 169) hx hb dX11_takeNumber_154 (by decide) (fun c_154 => ?_) (fun c_154 => ?_)
                  · skip
                    have c_154 : ¬ (0 = 0) := fun z => c_154 ((nI_eq (a := 0) (b := 0) (by omega) (by omega)).mpr z)
                    exact absurd rfl c_154
                  · skip
                    have c_154 : 0 = 0 := (nI_eq (a := 0) (b := 0) (by omega) (by omega)).mp c_154
                    refine lv_aload_n hx hb dX11_takeNumber_157 rfl (lv_at hl 0 rfl) ?_
                    refine lv_iconst (v := 2) hx hb dX11_takeNumber_158 (by decide) ?_
                    refine lv_aload_n hx hb dX11_takeNumber_159 rfl (lv_at hl 0 rfl) ?_
                    refine q_get (o := 188) (ci := 11) (k := 18) (T := TX11) (v := .int (nI sk_5)) C hM (qmem_11 E ad S42 A b (show qk 188 = 11 from by decide +kernel)) (by decide) rfl hi11 (by decide) hL3 rfl (congrArg (fun z => some (Value.int z)) (show S42 188 18 = nI sk_5 from by rw [hfr 188 18 (by omega)]; rw [eS_11, q2_k _ _ (by omega)]; rw [eS_10]; exact q2_s _ _ _ _)) dX11_takeNumber_160 ?_
                    refine q_callVI (n := 2) (o := 188) (As := [.int 2, .int (nI sk_5)]) (rest := []) C hM hA (c_X11_fails E ad l S42 A b 2 (nI sk_5)) (qmem_11 E ad S42 A b (show qk 188 = 11 from by decide +kernel)) (by decide) rfl gX11_takeNumber_X11_fails rfl rfl rfl (by decide +kernel) ⟨Nat.le_of_ble_eq_true rfl, Nat.le_of_ble_eq_true rfl⟩ rfl hl.1 rfl (Nat.le_of_ble_eq_true rfl) ⟨Nat.zero_le _, Nat.zero_le _⟩ dX11_takeNumber_163 (fun r_20 S_21 A_22 b_23 H locs qr_20 hM => ?_)
                    obtain ⟨⟨e2, e3⟩, er_20, eS_21⟩ := qr_20
                    subst e2; subst e3
                    subst er_20
                    refine lv_goto (tgt := 170) hx hb dX11_takeNumber_166 (by decide) ?_
                    exact q_iret C hM dX11_takeNumber_170 (by have hqd : qdg qstM (A 194) n (n - sk_5) sk_5 0 = (a1, v) := hv.trans (by rw [show n - a1 = 0 by omega]; rfl); exact ⟨⟨rfl, rfl⟩, fun i j hij => by rw [eS_21, q2_ne _ _ (by omega), hfr i j (by omega), eS_11, q2_ne _ _ (by omega), eS_10, q2_ne _ _ (by omega), eS_2, q2_ne _ _ (by omega)], Or.inl ⟨2, sk_5, by simp only [qnum, ← esk_5]; rw [hqd]; rw [if_neg (show ¬ a1 = sk_5 by omega)]; exact if_pos (Or.inr ((Decidable.em (v < nI lo)).elim Or.inl (fun z => Or.inr (Int32.not_le.mp (fun y => hir_16 ⟨Int32.not_lt.mp z, y⟩))))), by omega, rfl, (show S_21 188 15 = nI sk_5 from by rw [eS_21]; exact q2_s _ _ _ _)⟩⟩)
            · skip
              have c_50 : ¬ (n ≤ a1) := fun z => c_50 ((nI_leI (a := n) (b := a1) (by omega) (by omega)).mpr z)
              refine lv_aload_n hx hb dX11_takeNumber_53 rfl (lv_at hl 0 rfl) ?_
              refine q_get (o := 188) (ci := 11) (k := 13) (T := TX11) (v := .ref (ad 194)) C hM (qmem_11 E ad S42 A b (show qk 188 = 11 from by decide +kernel)) (by decide) rfl hi11 (by decide) hL6 rfl rfl dX11_takeNumber_54 ?_
              refine lv_aload_n hx hb dX11_takeNumber_57 rfl (lv_at hl 0 rfl) ?_
              refine q_get (o := 188) (ci := 11) (k := 16) (T := TX11) (v := .int (nI a1)) C hM (qmem_11 E ad S42 A b (show qk 188 = 11 from by decide +kernel)) (by decide) rfl hi11 (by decide) hL2 rfl (congrArg (fun z => some (Value.int z)) (show S42 188 16 = nI a1 from by exact h16)) dX11_takeNumber_58 ?_
              refine q_iald (v := A 194 a1) C hM (show qk 194 = 12 from by decide +kernel) (by rw [(show ql 194 = 240 from by decide +kernel)]; exact vp_nI (by omega) (by omega)) (by rw [nIc (by omega)]) dX11_takeNumber_61 ?_
              refine lv_i2l (v := (A 194 a1 : Int32).toInt64) hx hb dX11_takeNumber_62 rfl ?_
              refine lv_ldc2 (v := 48) hx hb C.2.2.2.1 hL0 dX11_takeNumber_63 ?_
              refine lv_ldc2 (v := 57) hx hb C.2.2.2.1 hL1 dX11_takeNumber_66 ?_
              refine q_callSI (n := 3) (As := [.long ((A 194 a1 : Int32).toInt64), .long 48, .long 57]) (rest := []) C hM hA (c_X11_in E ad l S42 A b ((A 194 a1 : Int32).toInt64) 48 57) gX11_takeNumber_X11_in rfl rfl rfl (by decide +kernel) ⟨Nat.le_of_ble_eq_true rfl, Nat.le_of_ble_eq_true rfl⟩ rfl hl.1 rfl (Nat.le_of_ble_eq_true rfl) ⟨Nat.zero_le _, Nat.zero_le _⟩ dX11_takeNumber_69 (fun r_24 S_25 A_26 b_27 H locs qr_24 hM => ?_)
              obtain ⟨⟨e1, e2, e3⟩, er_24⟩ := qr_24
              subst e1; subst e2; subst e3
              rw [q64 (x := A 194 a1) (lo := 48) (hi := 57) (by first | rfl | decide) (by first | rfl | decide)] at er_24
              rcases q01_cases (48 ≤ (A 194 a1 : Int32) ∧ (A 194 a1 : Int32) ≤ 57) with ⟨hzr_24, hir_24⟩ | ⟨hzr_24, hir_24⟩
              · skip
                rw [hzr_24] at er_24
                subst er_24
                refine lv_if_eq (tgt := 129) hx hb dX11_takeNumber_72 (by decide) (fun c_72 => ?_) (fun c_72 => ?_)
                · skip
                  have c_72 : 1 = 0 := (nI_eq (a := 1) (b := 0) (by omega) (by omega)).mp c_72
                  exact absurd c_72 (by decide)
                · skip
                  have c_72 : ¬ (1 = 0) := fun z => c_72 ((nI_eq (a := 1) (b := 0) (by omega) (by omega)).mpr z)
                  refine lv_aload_n hx hb dX11_takeNumber_75 rfl (lv_at hl 0 rfl) ?_
                  refine lv_aload_n hx hb dX11_takeNumber_76 rfl (lv_at hl 0 rfl) ?_
                  refine q_get (o := 188) (ci := 11) (k := 17) (T := TX11) (v := .int v) C hM (qmem_11 E ad S42 A b (show qk 188 = 11 from by decide +kernel)) (by decide) rfl hi11 (by decide) hL4 rfl (congrArg (fun z => some (Value.int z)) (show S42 188 17 = v from by exact h17)) dX11_takeNumber_77 ?_
                  refine lv_sipush (v := 10000) hx hb dX11_takeNumber_80 (by decide) ?_
                  refine lv_icmp_le (tgt := 93) hx hb dX11_takeNumber_83 (by decide) (fun c_83 => ?_) (fun c_83 => ?_)
                  · skip
                    refine lv_bipush (v := 10) hx hb dX11_takeNumber_93 (by decide) ?_
                    refine lv_aload_n hx hb dX11_takeNumber_95 rfl (lv_at hl 0 rfl) ?_
                    refine q_get (o := 188) (ci := 11) (k := 17) (T := TX11) (v := .int v) C hM (qmem_11 E ad S42 A b (show qk 188 = 11 from by decide +kernel)) (by decide) rfl hi11 (by decide) hL4 rfl (congrArg (fun z => some (Value.int z)) (show S42 188 17 = v from by exact h17)) dX11_takeNumber_96 ?_
                    refine lv_imul hx hb dX11_takeNumber_99 ?_
                    refine lv_aload_n hx hb dX11_takeNumber_100 rfl (lv_at hl 0 rfl) ?_
                    refine q_get (o := 188) (ci := 11) (k := 13) (T := TX11) (v := .ref (ad 194)) C hM (qmem_11 E ad S42 A b (show qk 188 = 11 from by decide +kernel)) (by decide) rfl hi11 (by decide) hL6 rfl rfl dX11_takeNumber_101 ?_
                    refine lv_aload_n hx hb dX11_takeNumber_104 rfl (lv_at hl 0 rfl) ?_
                    refine q_get (o := 188) (ci := 11) (k := 16) (T := TX11) (v := .int (nI a1)) C hM (qmem_11 E ad S42 A b (show qk 188 = 11 from by decide +kernel)) (by decide) rfl hi11 (by decide) hL2 rfl (congrArg (fun z => some (Value.int z)) (show S42 188 16 = nI a1 from by exact h16)) dX11_takeNumber_105 ?_
                    refine q_iald (v := A 194 a1) C hM (show qk 194 = 12 from by decide +kernel) (by rw [(show ql 194 = 240 from by decide +kernel)]; exact vp_nI (by omega) (by omega)) (by rw [nIc (by omega)]) dX11_takeNumber_108 ?_
                    refine lv_iadd hx hb dX11_takeNumber_109 ?_
                    refine lv_bipush (v := 48) hx hb dX11_takeNumber_110 (by decide) ?_
                    refine lv_isub hx hb dX11_takeNumber_112 ?_
                    refine lv_topi (fun v_28 ev_28 => ?_)
                    refine q_put (o := 188) (ci := 11) (k := 17) (T := TX11) (ty := .int) (v := v_28) C hM (qmem_11 E ad S42 A b (show qk 188 = 11 from by decide +kernel)) (by decide) rfl hi11 tyX11 tyX11_ok nmX11 (by decide) hL4 rfl rfl (by decide +kernel) rfl rfl (Nat.le_of_ble_eq_true rfl) (qs_11_17 E ad S42 A b (show qk 188 = 11 from by decide +kernel) v_28) dX11_takeNumber_113 (fun H locs hM => ?_)
                    obtain ⟨S_29, eS_29⟩ : ∃ zz, zz = q2 S42 188 17 v_28 := ⟨_, rfl⟩
                    rw [← eS_29] at hM
                    refine lv_aload_n hx hb dX11_takeNumber_116 rfl (lv_at hl 0 rfl) ?_
                    refine lv_dup hx hb dX11_takeNumber_117 rfl ?_
                    refine q_get (o := 188) (ci := 11) (k := 16) (T := TX11) (v := .int (nI a1)) C hM (qmem_11 E ad S_29 A b (show qk 188 = 11 from by decide +kernel)) (by decide) rfl hi11 (by decide) hL2 rfl (congrArg (fun z => some (Value.int z)) (show S_29 188 16 = nI a1 from by rw [eS_29, q2_k _ _ (by omega)]; exact h16)) dX11_takeNumber_118 ?_
                    refine lv_iconst (v := 1) hx hb dX11_takeNumber_121 (by decide) ?_
                    refine lv_iadd hx hb dX11_takeNumber_122 ?_
                    refine lv_as (y := nI (a1 + 1)) (nI_add _ _) ?_
                    refine q_put (o := 188) (ci := 11) (k := 16) (T := TX11) (ty := .int) (v := nI (a1 + 1)) C hM (qmem_11 E ad S_29 A b (show qk 188 = 11 from by decide +kernel)) (by decide) rfl hi11 tyX11 tyX11_ok nmX11 (by decide) hL2 rfl rfl (by decide +kernel) rfl rfl (Nat.le_of_ble_eq_true rfl) (qs_11_16 E ad S_29 A b (show qk 188 = 11 from by decide +kernel) (nI (a1 + 1))) dX11_takeNumber_123 (fun H locs hM => ?_)
                    obtain ⟨S_30, eS_30⟩ : ∃ zz, zz = q2 S_29 188 16 (nI (a1 + 1)) := ⟨_, rfl⟩
                    rw [← eS_30] at hM
                    refine lv_goto (tgt := 42) hx hb dX11_takeNumber_126 (by decide) ?_
                    exact ih42 (a1 + 1) v_28 S_30 (by omega) hne (by rw [eS_30, q2_s]) (by rw [eS_30, q2_k _ _ (by omega), eS_29, q2_s]) (fun i j hij => by rw [eS_30, q2_ne _ _ (by omega), eS_29, q2_ne _ _ (by omega)]; exact hfr i j hij) (by rw [hv, show n - a1 = (n - (a1 + 1)) + 1 by omega]; refine (if_pos ⟨by omega, hir_24⟩).trans ?_; rw [show qstM v (A 194 a1) = v_28 from by unfold qstM; rw [if_neg (Int32.not_lt.mpr c_83), ev_28]]) (by omega) _ _ _ hM hl
                  · skip
                    refine lv_aload_n hx hb dX11_takeNumber_86 rfl (lv_at hl 0 rfl) ?_
                    refine q_get (o := 188) (ci := 11) (k := 17) (T := TX11) (v := .int v) C hM (qmem_11 E ad S42 A b (show qk 188 = 11 from by decide +kernel)) (by decide) rfl hi11 (by decide) hL4 rfl (congrArg (fun z => some (Value.int z)) (show S42 188 17 = v from by exact h17)) dX11_takeNumber_87 ?_
                    refine lv_goto (tgt := 113) hx hb dX11_takeNumber_90 (by decide) ?_
                    refine q_put (o := 188) (ci := 11) (k := 17) (T := TX11) (ty := .int) (v := v) C hM (qmem_11 E ad S42 A b (show qk 188 = 11 from by decide +kernel)) (by decide) rfl hi11 tyX11 tyX11_ok nmX11 (by decide) hL4 rfl rfl (by decide +kernel) rfl rfl (Nat.le_of_ble_eq_true rfl) (qs_11_17 E ad S42 A b (show qk 188 = 11 from by decide +kernel) v) dX11_takeNumber_113 (fun H locs hM => ?_)
                    obtain ⟨S_31, eS_31⟩ : ∃ zz, zz = q2 S42 188 17 v := ⟨_, rfl⟩
                    rw [← eS_31] at hM
                    refine lv_aload_n hx hb dX11_takeNumber_116 rfl (lv_at hl 0 rfl) ?_
                    refine lv_dup hx hb dX11_takeNumber_117 rfl ?_
                    refine q_get (o := 188) (ci := 11) (k := 16) (T := TX11) (v := .int (nI a1)) C hM (qmem_11 E ad S_31 A b (show qk 188 = 11 from by decide +kernel)) (by decide) rfl hi11 (by decide) hL2 rfl (congrArg (fun z => some (Value.int z)) (show S_31 188 16 = nI a1 from by rw [eS_31, q2_k _ _ (by omega)]; exact h16)) dX11_takeNumber_118 ?_
                    refine lv_iconst (v := 1) hx hb dX11_takeNumber_121 (by decide) ?_
                    refine lv_iadd hx hb dX11_takeNumber_122 ?_
                    refine lv_as (y := nI (a1 + 1)) (nI_add _ _) ?_
                    refine q_put (o := 188) (ci := 11) (k := 16) (T := TX11) (ty := .int) (v := nI (a1 + 1)) C hM (qmem_11 E ad S_31 A b (show qk 188 = 11 from by decide +kernel)) (by decide) rfl hi11 tyX11 tyX11_ok nmX11 (by decide) hL2 rfl rfl (by decide +kernel) rfl rfl (Nat.le_of_ble_eq_true rfl) (qs_11_16 E ad S_31 A b (show qk 188 = 11 from by decide +kernel) (nI (a1 + 1))) dX11_takeNumber_123 (fun H locs hM => ?_)
                    obtain ⟨S_32, eS_32⟩ : ∃ zz, zz = q2 S_31 188 16 (nI (a1 + 1)) := ⟨_, rfl⟩
                    rw [← eS_32] at hM
                    refine lv_goto (tgt := 42) hx hb dX11_takeNumber_126 (by decide) ?_
                    exact ih42 (a1 + 1) v S_32 (by omega) hne (by rw [eS_32, q2_s]) (by rw [eS_32, q2_k _ _ (by omega), eS_31, q2_s]) (fun i j hij => by rw [eS_32, q2_ne _ _ (by omega), eS_31, q2_ne _ _ (by omega)]; exact hfr i j hij) (by rw [hv, show n - a1 = (n - (a1 + 1)) + 1 by omega]; refine (if_pos ⟨by omega, hir_24⟩).trans ?_; rw [show qstM v (A 194 a1) = v from by unfold qstM; rw [if_pos (Int32.not_le.mp c_83)]]) (by omega) _ _ _ hM hl
              · skip
                rw [hzr_24] at er_24
                subst er_24
                refine lv_if_eq (tgt := 129) hx hb dX11_takeNumber_72 (by decide) (fun c_72 => ?_) (fun c_72 => ?_)
                · skip
                  have c_72 : 0 = 0 := (nI_eq (a := 0) (b := 0) (by omega) (by omega)).mp c_72
                  refine lv_aload_n hx hb dX11_takeNumber_129 rfl (lv_at hl 0 rfl) ?_
                  refine q_get (o := 188) (ci := 11) (k := 16) (T := TX11) (v := .int (nI a1)) C hM (qmem_11 E ad S42 A b (show qk 188 = 11 from by decide +kernel)) (by decide) rfl hi11 (by decide) hL2 rfl (congrArg (fun z => some (Value.int z)) (show S42 188 16 = nI a1 from by exact h16)) dX11_takeNumber_130 ?_
                  refine lv_aload_n hx hb dX11_takeNumber_133 rfl (lv_at hl 0 rfl) ?_
                  refine q_get (o := 188) (ci := 11) (k := 18) (T := TX11) (v := .int (nI sk_5)) C hM (qmem_11 E ad S42 A b (show qk 188 = 11 from by decide +kernel)) (by decide) rfl hi11 (by decide) hL3 rfl (congrArg (fun z => some (Value.int z)) (show S42 188 18 = nI sk_5 from by rw [hfr 188 18 (by omega)]; rw [eS_11, q2_k _ _ (by omega)]; rw [eS_10]; exact q2_s _ _ _ _)) dX11_takeNumber_134 ?_
                  refine lv_isub hx hb dX11_takeNumber_137 ?_
                  refine lv_as (y := nI (a1 - sk_5)) (pk_sub (a := a1) (b := sk_5) (by omega)) ?_
                  refine lv_iconst (v := 3) hx hb dX11_takeNumber_138 (by decide) ?_
                  refine lv_icmp_gt (tgt := 157) hx hb dX11_takeNumber_139 (by decide) (fun c_139 => ?_) (fun c_139 => ?_)
                  · skip
                    have c_139 : 3 < a1 - sk_5 := (nI_ltI (a := 3) (b := a1 - sk_5) (by omega) (by omega)).mp c_139
                    refine lv_aload_n hx hb dX11_takeNumber_157 rfl (lv_at hl 0 rfl) ?_
                    refine lv_iconst (v := 2) hx hb dX11_takeNumber_158 (by decide) ?_
                    refine lv_aload_n hx hb dX11_takeNumber_159 rfl (lv_at hl 0 rfl) ?_
                    refine q_get (o := 188) (ci := 11) (k := 18) (T := TX11) (v := .int (nI sk_5)) C hM (qmem_11 E ad S42 A b (show qk 188 = 11 from by decide +kernel)) (by decide) rfl hi11 (by decide) hL3 rfl (congrArg (fun z => some (Value.int z)) (show S42 188 18 = nI sk_5 from by rw [hfr 188 18 (by omega)]; rw [eS_11, q2_k _ _ (by omega)]; rw [eS_10]; exact q2_s _ _ _ _)) dX11_takeNumber_160 ?_
                    refine q_callVI (n := 2) (o := 188) (As := [.int 2, .int (nI sk_5)]) (rest := []) C hM hA (c_X11_fails E ad l S42 A b 2 (nI sk_5)) (qmem_11 E ad S42 A b (show qk 188 = 11 from by decide +kernel)) (by decide) rfl gX11_takeNumber_X11_fails rfl rfl rfl (by decide +kernel) ⟨Nat.le_of_ble_eq_true rfl, Nat.le_of_ble_eq_true rfl⟩ rfl hl.1 rfl (Nat.le_of_ble_eq_true rfl) ⟨Nat.zero_le _, Nat.zero_le _⟩ dX11_takeNumber_163 (fun r_33 S_34 A_35 b_36 H locs qr_33 hM => ?_)
                    obtain ⟨⟨e2, e3⟩, er_33, eS_34⟩ := qr_33
                    subst e2; subst e3
                    subst er_33
                    refine lv_goto (tgt := 170) hx hb dX11_takeNumber_166 (by decide) ?_
                    exact q_iret C hM dX11_takeNumber_170 (by have hqd : qdg qstM (A 194) n (n - sk_5) sk_5 0 = (a1, v) := hv.trans (by rw [show n - a1 = (n - (a1 + 1)) + 1 by omega]; exact if_neg (fun z => hir_24 z.2)); exact ⟨⟨rfl, rfl⟩, fun i j hij => by rw [eS_34, q2_ne _ _ (by omega), hfr i j (by omega), eS_11, q2_ne _ _ (by omega), eS_10, q2_ne _ _ (by omega), eS_2, q2_ne _ _ (by omega)], Or.inl ⟨2, sk_5, by simp only [qnum, ← esk_5]; rw [hqd]; rw [if_neg (show ¬ a1 = sk_5 from fun z => hir_24 (by rw [z]; exact hne.2))]; exact if_pos (Or.inl c_139), by omega, rfl, (show S_34 188 15 = nI sk_5 from by rw [eS_34]; exact q2_s _ _ _ _)⟩⟩)
                  · skip
                    have c_139 : ¬ (3 < a1 - sk_5) := fun z => c_139 ((nI_ltI (a := 3) (b := a1 - sk_5) (by omega) (by omega)).mpr z)
                    refine lv_aload_n hx hb dX11_takeNumber_142 rfl (lv_at hl 0 rfl) ?_
                    refine q_get (o := 188) (ci := 11) (k := 17) (T := TX11) (v := .int v) C hM (qmem_11 E ad S42 A b (show qk 188 = 11 from by decide +kernel)) (by decide) rfl hi11 (by decide) hL4 rfl (congrArg (fun z => some (Value.int z)) (show S42 188 17 = v from by exact h17)) dX11_takeNumber_143 ?_
                    refine lv_i2l (v := (v : Int32).toInt64) hx hb dX11_takeNumber_146 rfl ?_
                    refine lv_iload_n hx hb dX11_takeNumber_147 rfl (lv_at hl 1 rfl) ?_
                    refine lv_i2l (v := (nI lo : Int32).toInt64) hx hb dX11_takeNumber_148 rfl ?_
                    refine lv_iload_n hx hb dX11_takeNumber_149 rfl (lv_at hl 2 rfl) ?_
                    refine lv_i2l (v := (nI mo : Int32).toInt64) hx hb dX11_takeNumber_150 rfl ?_
                    refine q_callSI (n := 3) (As := [.long ((v : Int32).toInt64), .long ((nI lo : Int32).toInt64), .long ((nI mo : Int32).toInt64)]) (rest := []) C hM hA (c_X11_in E ad l S42 A b ((v : Int32).toInt64) ((nI lo : Int32).toInt64) ((nI mo : Int32).toInt64)) gX11_takeNumber_X11_in rfl rfl rfl (by decide +kernel) ⟨Nat.le_of_ble_eq_true rfl, Nat.le_of_ble_eq_true rfl⟩ rfl hl.1 rfl (Nat.le_of_ble_eq_true rfl) ⟨Nat.zero_le _, Nat.zero_le _⟩ dX11_takeNumber_151 (fun r_37 S_38 A_39 b_40 H locs qr_37 hM => ?_)
                    obtain ⟨⟨e1, e2, e3⟩, er_37⟩ := qr_37
                    subst e1; subst e2; subst e3
                    rw [q64 (x := v) (lo := nI lo) (hi := nI mo) (by first | rfl | decide) (by first | rfl | decide)] at er_37
                    rcases q01_cases (nI lo ≤ (v : Int32) ∧ (v : Int32) ≤ nI mo) with ⟨hzr_37, hir_37⟩ | ⟨hzr_37, hir_37⟩
                    · skip
                      rw [hzr_37] at er_37
                      subst er_37
                      refine lv_if_ne (tgt := 169) hx hb dX11_takeNumber_154 (by decide) (fun c_154 => ?_) (fun c_154 => ?_)
                      · skip
                        have c_154 : ¬ (1 = 0) := fun z => c_154 ((nI_eq (a := 1) (b := 0) (by omega) (by omega)).mpr z)
                        refine lv_iconst (v := 0) hx hb dX11_takeNumber_169 (by decide) ?_
                        exact q_iret C hM dX11_takeNumber_170 (by have hqd : qdg qstM (A 194) n (n - sk_5) sk_5 0 = (a1, v) := hv.trans (by rw [show n - a1 = (n - (a1 + 1)) + 1 by omega]; exact if_neg (fun z => hir_24 z.2)); have hb9 := nI_betw (by omega) (Int32.not_lt.mpr hir_37.1) (Int32.not_lt.mpr hir_37.2) (by omega); exact ⟨⟨rfl, rfl⟩, fun i j hij => by rw [hfr i j (by omega), eS_11, q2_ne _ _ (by omega), eS_10, q2_ne _ _ (by omega), eS_2, q2_ne _ _ (by omega)], Or.inr ⟨v.toNatClampNeg, a1, sk_5, by simp only [qnum, ← esk_5]; rw [hqd]; rw [if_neg (show ¬ a1 = sk_5 from fun z => hir_24 (by rw [z]; exact hne.2))]; exact if_neg (fun z => z.elim (fun q => c_139 q) (fun q => q.elim (Int32.not_lt.mpr hir_37.1) (Int32.not_lt.mpr hir_37.2))), hb9.2.1, hb9.2.2, by omega, rfl, (show S42 188 15 = S 188 15 from by rw [hfr 188 15 (by omega)]; rw [eS_11, q2_k _ _ (by omega)]; rw [eS_10, q2_k _ _ (by omega)]; rw [eS_2, q2_k _ _ (by omega)]), (show S42 188 16 = nI a1 from by exact h16), ((show S42 188 17 = v from by exact h17)).trans hb9.1, (show S42 188 18 = nI sk_5 from by rw [hfr 188 18 (by omega)]; rw [eS_11, q2_k _ _ (by omega)]; rw [eS_10]; exact q2_s _ _ _ _)⟩⟩)
                      · skip
                        have c_154 : 1 = 0 := (nI_eq (a := 1) (b := 0) (by omega) (by omega)).mp c_154
                        exact absurd c_154 (by decide)
                    · skip
                      rw [hzr_37] at er_37
                      subst er_37
                      refine lv_if_ne (tgt := 169) hx hb dX11_takeNumber_154 (by decide) (fun c_154 => ?_) (fun c_154 => ?_)
                      · skip
                        have c_154 : ¬ (0 = 0) := fun z => c_154 ((nI_eq (a := 0) (b := 0) (by omega) (by omega)).mpr z)
                        exact absurd rfl c_154
                      · skip
                        have c_154 : 0 = 0 := (nI_eq (a := 0) (b := 0) (by omega) (by omega)).mp c_154
                        refine lv_aload_n hx hb dX11_takeNumber_157 rfl (lv_at hl 0 rfl) ?_
                        refine lv_iconst (v := 2) hx hb dX11_takeNumber_158 (by decide) ?_
                        refine lv_aload_n hx hb dX11_takeNumber_159 rfl (lv_at hl 0 rfl) ?_
                        refine q_get (o := 188) (ci := 11) (k := 18) (T := TX11) (v := .int (nI sk_5)) C hM (qmem_11 E ad S42 A b (show qk 188 = 11 from by decide +kernel)) (by decide) rfl hi11 (by decide) hL3 rfl (congrArg (fun z => some (Value.int z)) (show S42 188 18 = nI sk_5 from by rw [hfr 188 18 (by omega)]; rw [eS_11, q2_k _ _ (by omega)]; rw [eS_10]; exact q2_s _ _ _ _)) dX11_takeNumber_160 ?_
                        refine q_callVI (n := 2) (o := 188) (As := [.int 2, .int (nI sk_5)]) (rest := []) C hM hA (c_X11_fails E ad l S42 A b 2 (nI sk_5)) (qmem_11 E ad S42 A b (show qk 188 = 11 from by decide +kernel)) (by decide) rfl gX11_takeNumber_X11_fails rfl rfl rfl (by decide +kernel) ⟨Nat.le_of_ble_eq_true rfl, Nat.le_of_ble_eq_true rfl⟩ rfl hl.1 rfl (Nat.le_of_ble_eq_true rfl) ⟨Nat.zero_le _, Nat.zero_le _⟩ dX11_takeNumber_163 (fun r_41 S_42 A_43 b_44 H locs qr_41 hM => ?_)
                        obtain ⟨⟨e2, e3⟩, er_41, eS_42⟩ := qr_41
                        subst e2; subst e3
                        subst er_41
                        refine lv_goto (tgt := 170) hx hb dX11_takeNumber_166 (by decide) ?_
                        exact q_iret C hM dX11_takeNumber_170 (by have hqd : qdg qstM (A 194) n (n - sk_5) sk_5 0 = (a1, v) := hv.trans (by rw [show n - a1 = (n - (a1 + 1)) + 1 by omega]; exact if_neg (fun z => hir_24 z.2)); exact ⟨⟨rfl, rfl⟩, fun i j hij => by rw [eS_42, q2_ne _ _ (by omega), hfr i j (by omega), eS_11, q2_ne _ _ (by omega), eS_10, q2_ne _ _ (by omega), eS_2, q2_ne _ _ (by omega)], Or.inl ⟨2, sk_5, by simp only [qnum, ← esk_5]; rw [hqd]; rw [if_neg (show ¬ a1 = sk_5 from fun z => hir_24 (by rw [z]; exact hne.2))]; exact if_pos (Or.inr ((Decidable.em (v < nI lo)).elim Or.inl (fun z => Or.inr (Int32.not_le.mp (fun y => hir_37 ⟨Int32.not_lt.mp z, y⟩))))), by omega, rfl, (show S_42 188 15 = nI sk_5 from by rw [eS_42]; exact q2_s _ _ _ _)⟩⟩)
                · skip
                  have c_72 : ¬ (0 = 0) := fun z => c_72 ((nI_eq (a := 0) (b := 0) (by omega) (by omega)).mpr z)
                  exact absurd rfl c_72
        exact loop42 (n - sk_5 + 1) sk_5 0 S_11 (by omega) (⟨hltsk_5, hir_6⟩) (show S_11 188 16 = nI sk_5 from by rw [eS_11, q2_k _ _ (by omega)]; rw [eS_10, q2_k _ _ (by omega)]; rw [eS_2]; exact q2_s _ _ _ _) (show S_11 188 17 = 0 from by rw [eS_11]; exact q2_s _ _ _ _) (fun _ _ _ => rfl) rfl (Nat.lt_succ_self _) _ _ _ hM (lv_sub hl [1, 2, 3] rfl)
      · skip
        have c_16 : 1 = 0 := (nI_eq (a := 1) (b := 0) (by omega) (by omega)).mp c_16
        exact absurd c_16 (by decide)
    · skip
      rw [hzr_6] at er_6
      subst er_6
      refine lv_if_ne (tgt := 29) hx hb dX11_takeNumber_16 (by decide) (fun c_16 => ?_) (fun c_16 => ?_)
      · skip
        have c_16 : ¬ (0 = 0) := fun z => c_16 ((nI_eq (a := 0) (b := 0) (by omega) (by omega)).mpr z)
        exact absurd rfl c_16
      · skip
        have c_16 : 0 = 0 := (nI_eq (a := 0) (b := 0) (by omega) (by omega)).mp c_16
        refine lv_aload_n hx hb dX11_takeNumber_19 rfl (lv_at hl 1 rfl) ?_
        refine lv_iconst (v := 1) hx hb dX11_takeNumber_20 (by decide) ?_
        refine lv_aload_n hx hb dX11_takeNumber_21 rfl (lv_at hl 1 rfl) ?_
        refine q_get (o := 188) (ci := 11) (k := 16) (T := TX11) (v := .int (nI sk_5)) C hM (qmem_11 E ad S_2 A b (show qk 188 = 11 from by decide +kernel)) (by decide) rfl hi11 (by decide) hL2 rfl (congrArg (fun z => some (Value.int z)) (show S_2 188 16 = nI sk_5 from by rw [eS_2]; exact q2_s _ _ _ _)) dX11_takeNumber_22 ?_
        refine q_callVI (n := 2) (o := 188) (As := [.int 1, .int (nI sk_5)]) (rest := []) C hM hA (c_X11_fails E ad l S_2 A b 1 (nI sk_5)) (qmem_11 E ad S_2 A b (show qk 188 = 11 from by decide +kernel)) (by decide) rfl gX11_takeNumber_X11_fails rfl rfl rfl (by decide +kernel) ⟨Nat.le_of_ble_eq_true rfl, Nat.le_of_ble_eq_true rfl⟩ rfl hl.1 rfl (Nat.le_of_ble_eq_true rfl) ⟨Nat.zero_le _, Nat.zero_le _⟩ dX11_takeNumber_25 (fun r_45 S_46 A_47 b_48 H locs qr_45 hM => ?_)
        obtain ⟨⟨e2, e3⟩, er_45, eS_46⟩ := qr_45
        subst e2; subst e3
        subst er_45
        exact q_iret C hM dX11_takeNumber_28 (by have hqd : qdg qstM (A 194) n (n - sk_5) sk_5 0 = (sk_5, 0) := (by rw [show n - sk_5 = (n - (sk_5 + 1)) + 1 by omega]; exact if_neg (fun z => hir_6 z.2)); exact ⟨⟨rfl, rfl⟩, fun i j hij => by rw [eS_46, q2_ne _ _ (by omega), eS_2, q2_ne _ _ (by omega)], Or.inl ⟨1, sk_5, by simp only [qnum, ← esk_5]; rw [hqd]; exact if_pos rfl, by omega, rfl, (show S_46 188 15 = nI sk_5 from by rw [eS_46]; exact q2_s _ _ _ _)⟩⟩)
  · skip
    rw [if_neg hltsk_5] at er_1
    subst er_1
    refine lv_istore_n (lv' := [(3, .int (-1)), (0, .ref (ad 188)), (1, .int (nI lo)), (2, .int (nI mo))]) hx hb dX11_takeNumber_4 rfl hl (by decide) rfl (fun ls hl => ?_)
    refine lv_iload_n hx hb dX11_takeNumber_5 rfl (lv_at hl 0 rfl) ?_
    refine lv_i2l (v := ((-1) : Int32).toInt64) hx hb dX11_takeNumber_6 rfl ?_
    refine lv_ldc2 (v := 48) hx hb C.2.2.2.1 hL0 dX11_takeNumber_7 ?_
    refine lv_ldc2 (v := 57) hx hb C.2.2.2.1 hL1 dX11_takeNumber_10 ?_
    refine q_callSI (n := 3) (As := [.long (((-1) : Int32).toInt64), .long 48, .long 57]) (rest := []) C hM hA (c_X11_in E ad l S_2 A b (((-1) : Int32).toInt64) 48 57) gX11_takeNumber_X11_in rfl rfl rfl (by decide +kernel) ⟨Nat.le_of_ble_eq_true rfl, Nat.le_of_ble_eq_true rfl⟩ rfl hl.1 rfl (Nat.le_of_ble_eq_true rfl) ⟨Nat.zero_le _, Nat.zero_le _⟩ dX11_takeNumber_13 (fun r_49 S_50 A_51 b_52 H locs qr_49 hM => ?_)
    obtain ⟨⟨e1, e2, e3⟩, er_49⟩ := qr_49
    subst e1; subst e2; subst e3
    rw [q64 (x := (-1)) (lo := 48) (hi := 57) (by first | rfl | decide) (by first | rfl | decide)] at er_49
    rcases q01_cases (48 ≤ ((-1) : Int32) ∧ ((-1) : Int32) ≤ 57) with ⟨hzr_49, hir_49⟩ | ⟨hzr_49, hir_49⟩
    · skip
      exact absurd hir_49.1 (by decide)
    · skip
      rw [hzr_49] at er_49
      subst er_49
      refine lv_if_ne (tgt := 29) hx hb dX11_takeNumber_16 (by decide) (fun c_16 => ?_) (fun c_16 => ?_)
      · skip
        have c_16 : ¬ (0 = 0) := fun z => c_16 ((nI_eq (a := 0) (b := 0) (by omega) (by omega)).mpr z)
        exact absurd rfl c_16
      · skip
        have c_16 : 0 = 0 := (nI_eq (a := 0) (b := 0) (by omega) (by omega)).mp c_16
        refine lv_aload_n hx hb dX11_takeNumber_19 rfl (lv_at hl 1 rfl) ?_
        refine lv_iconst (v := 1) hx hb dX11_takeNumber_20 (by decide) ?_
        refine lv_aload_n hx hb dX11_takeNumber_21 rfl (lv_at hl 1 rfl) ?_
        refine q_get (o := 188) (ci := 11) (k := 16) (T := TX11) (v := .int (nI sk_5)) C hM (qmem_11 E ad S_2 A b (show qk 188 = 11 from by decide +kernel)) (by decide) rfl hi11 (by decide) hL2 rfl (congrArg (fun z => some (Value.int z)) (show S_2 188 16 = nI sk_5 from by rw [eS_2]; exact q2_s _ _ _ _)) dX11_takeNumber_22 ?_
        refine q_callVI (n := 2) (o := 188) (As := [.int 1, .int (nI sk_5)]) (rest := []) C hM hA (c_X11_fails E ad l S_2 A b 1 (nI sk_5)) (qmem_11 E ad S_2 A b (show qk 188 = 11 from by decide +kernel)) (by decide) rfl gX11_takeNumber_X11_fails rfl rfl rfl (by decide +kernel) ⟨Nat.le_of_ble_eq_true rfl, Nat.le_of_ble_eq_true rfl⟩ rfl hl.1 rfl (Nat.le_of_ble_eq_true rfl) ⟨Nat.zero_le _, Nat.zero_le _⟩ dX11_takeNumber_25 (fun r_53 S_54 A_55 b_56 H locs qr_53 hM => ?_)
        obtain ⟨⟨e2, e3⟩, er_53, eS_54⟩ := qr_53
        subst e2; subst e3
        subst er_53
        exact q_iret C hM dX11_takeNumber_28 (by have hqd : qdg qstM (A 194) n (n - sk_5) sk_5 0 = (sk_5, 0) := (by rw [show n - sk_5 = 0 by omega]; rfl); exact ⟨⟨rfl, rfl⟩, fun i j hij => by rw [eS_54, q2_ne _ _ (by omega), eS_2, q2_ne _ _ (by omega)], Or.inl ⟨1, sk_5, by simp only [qnum, ← esk_5]; rw [hqd]; exact if_pos rfl, by omega, rfl, (show S_54 188 15 = nI sk_5 from by rw [eS_54]; exact q2_s _ _ _ _)⟩⟩)
