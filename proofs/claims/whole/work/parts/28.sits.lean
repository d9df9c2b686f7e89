set_option maxHeartbeats 4000000 in
set_option maxRecDepth 100000 in
theorem c_X6_note (E : qE) (ad : Nat → Nat) (l : Launch) (S A : qA2) (b : qB) (a1 a2 : Int32) (nS : Nat) (hS : S 164 0 = nI nS) (hSb : nS < 6) : MV E ad l yX6_note wsX6_note { frames := 0, cells := 0, slots := 0, locals := 0 } [.ref (ad 164), .int a1, .int a2] S A b (fun S' A' b' => S' = q2 S 164 0 (nI (nS + 1)) ∧ A' = q2 (q2 A 165 nS a1) 166 nS a2 ∧ b = b') := by
  refine MV.of (cc := cX6_note) (maxL := 3) (ret := none) RX6 rfl (by decide) rfl ?_
  intro pg e s m below meth cd C hM
  have hx := C.1
  have hb := C.2.1
  have hts := C.2.2.2.2.1
  have hA : ∀ q, s.heap.size ≤ q → qAr ad s.heap.size q := fun _ h => Or.inr h
  have hi6 : ∀ w ∈ u_ws RX6 TX6 8, w ∈ wsX6_note := by decide +kernel
  have hL0 := hts (.fieldLink RX6 9 "CrowFences$Sits" "crow" "[I") (by decide +kernel)
  have hL1 := hts (.fieldLink RX6 31 "CrowFences$Sits" "count" "I") (by decide +kernel)
  have hL2 := hts (.fieldLink RX6 15 "CrowFences$Sits" "post" "[I") (by decide +kernel)
  have hl := lv_entry ([.ref (ad 164), .int a1, .int a2]) (n := 3) (Nat.le_of_ble_eq_true rfl)
  rw [lg_entry_eq]
  generalize (lg_sl ([.ref (ad 164), .int a1, .int a2]) ++ List.replicate (3 - (lg_sl ([.ref (ad 164), .int a1, .int a2])).length) Slot.unset).toArray = ls at hl ⊢
  have hl : lv_has ls 3 [(0, .ref (ad 164)), (1, .int a1), (2, .int a2)] := hl
  refine lv_aload_n hx hb dX6_note_0 rfl (lv_at hl 0 rfl) ?_
  refine q_get (o := 164) (ci := 6) (k := 2) (T := TX6) (v := .ref (ad 165)) C hM (qmem_6 E ad S A b (show qk 164 = 6 from by decide +kernel)) (by decide) rfl hi6 (by decide) hL0 rfl rfl dX6_note_1 ?_
  refine lv_aload_n hx hb dX6_note_4 rfl (lv_at hl 0 rfl) ?_
  refine q_get (o := 164) (ci := 6) (k := 0) (T := TX6) (v := .int (S 164 0)) C hM (qmem_6 E ad S A b (show qk 164 = 6 from by decide +kernel)) (by decide) rfl hi6 (by decide) hL1 rfl rfl dX6_note_5 ?_
  refine lv_as (y := nI nS) hS ?_
  refine lv_iload_n hx hb dX6_note_8 rfl (lv_at hl 1 rfl) ?_
  refine q_iast C hM (show qk 165 = 12 from by decide +kernel) (by rw [(show ql 165 = 6 from by decide +kernel)]; exact vp_nI (by omega) (by omega)) dX6_note_9 (fun H locs hM => ?_)
  rw [nIc (by omega)] at hM
  obtain ⟨A_1, eA_1⟩ : ∃ zz, zz = q2 A 165 nS a1 := ⟨_, rfl⟩
  rw [← eA_1] at hM
  refine lv_aload_n hx hb dX6_note_10 rfl (lv_at hl 0 rfl) ?_
  refine q_get (o := 164) (ci := 6) (k := 3) (T := TX6) (v := .ref (ad 166)) C hM (qmem_6 E ad S A_1 b (show qk 164 = 6 from by decide +kernel)) (by decide) rfl hi6 (by decide) hL2 rfl rfl dX6_note_11 ?_
  refine lv_aload_n hx hb dX6_note_14 rfl (lv_at hl 0 rfl) ?_
  refine q_get (o := 164) (ci := 6) (k := 0) (T := TX6) (v := .int (S 164 0)) C hM (qmem_6 E ad S A_1 b (show qk 164 = 6 from by decide +kernel)) (by decide) rfl hi6 (by decide) hL1 rfl rfl dX6_note_15 ?_
  refine lv_as (y := nI nS) hS ?_
  refine lv_iload_n hx hb dX6_note_18 rfl (lv_at hl 2 rfl) ?_
  refine q_iast C hM (show qk 166 = 12 from by decide +kernel) (by rw [(show ql 166 = 6 from by decide +kernel)]; exact vp_nI (by omega) (by omega)) dX6_note_19 (fun H locs hM => ?_)
  rw [nIc (by omega)] at hM
  obtain ⟨A_2, eA_2⟩ : ∃ zz, zz = q2 A_1 166 nS a2 := ⟨_, rfl⟩
  rw [← eA_2] at hM
  refine lv_aload_n hx hb dX6_note_20 rfl (lv_at hl 0 rfl) ?_
  refine lv_dup hx hb dX6_note_21 rfl ?_
  refine q_get (o := 164) (ci := 6) (k := 0) (T := TX6) (v := .int (S 164 0)) C hM (qmem_6 E ad S A_2 b (show qk 164 = 6 from by decide +kernel)) (by decide) rfl hi6 (by decide) hL1 rfl rfl dX6_note_22 ?_
  refine lv_as (y := nI nS) hS ?_
  refine lv_iconst (v := 1) hx hb dX6_note_25 (by decide) ?_
  refine lv_iadd hx hb dX6_note_26 ?_
  refine lv_as (y := nI (nS + 1)) (nI_add _ _) ?_
  refine q_put (o := 164) (ci := 6) (k := 0) (T := TX6) (ty := .int) (v := nI (nS + 1)) C hM (qmem_6 E ad S A_2 b (show qk 164 = 6 from by decide +kernel)) (by decide) rfl hi6 tyX6 tyX6_ok nmX6 (by decide) hL1 rfl rfl (by decide +kernel) rfl rfl (Nat.le_of_ble_eq_true rfl) (qs_6_0 E ad S A_2 b (show qk 164 = 6 from by decide +kernel) (nI (nS + 1))) dX6_note_27 (fun H locs hM => ?_)
  obtain ⟨S_3, eS_3⟩ : ∃ zz, zz = q2 S 164 0 (nI (nS + 1)) := ⟨_, rfl⟩
  rw [← eS_3] at hM
  exact q_vret C hM dX6_note_30 (by subst_vars; exact ⟨rfl, rfl, rfl⟩)

set_option maxHeartbeats 4000000 in
set_option maxRecDepth 100000 in
theorem c_X6_gatherSeen (E : qE) (ad : Nat → Nat) (l : Launch) (S A : qA2) (b : qB) (nS : Nat) (hS : S 164 0 = nI nS) (hSb : nS ≤ 6) (sp : Nat → Nat) (hsp : ∀ k, k < nS → A 166 k = nI (sp k) ∧ sp k < 6) : MV E ad l yX6_gatherSeen wsX6_gatherSeen { frames := 0, cells := 0, slots := 0, locals := 0 } [.ref (ad 164)] S A b (fun S' A' b' => b = b' ∧ (∀ p, p < 6 → A' 167 p = qsat (A 165) sp p nS) ∧ S' = q2 S 164 6 (qsall (A 165) nS) ∧ ∀ i, i ≠ 167 → A' i = A i) := by
  refine MV.of (cc := cX6_gatherSeen) (maxL := 2) (ret := none) RX6 rfl (by decide) rfl ?_
  intro pg e s m below meth cd C hM
  have hx := C.1
  have hb := C.2.1
  have hts := C.2.2.2.2.1
  have hA : ∀ q, s.heap.size ≤ q → qAr ad s.heap.size q := fun _ h => Or.inr h
  have hi6 : ∀ w ∈ u_ws RX6 TX6 8, w ∈ wsX6_gatherSeen := by decide +kernel
  have hL0 := hts (.fieldLink RX6 76 "CrowFences$Sits" "seenAnywhere" "I") (by decide +kernel)
  have hL1 := hts (.fieldLink RX6 31 "CrowFences$Sits" "count" "I") (by decide +kernel)
  have hL2 := hts (.fieldLink RX6 18 "CrowFences$Sits" "seenOn" "[I") (by decide +kernel)
  have hL3 := hts (.fieldLink RX6 15 "CrowFences$Sits" "post" "[I") (by decide +kernel)
  have hL4 := hts (.fieldLink RX6 9 "CrowFences$Sits" "crow" "[I") (by decide +kernel)
  have hl := lv_entry ([.ref (ad 164)]) (n := 2) (Nat.le_of_ble_eq_true rfl)
  rw [lg_entry_eq]
  generalize (lg_sl ([.ref (ad 164)]) ++ List.replicate (2 - (lg_sl ([.ref (ad 164)])).length) Slot.unset).toArray = ls at hl ⊢
  have hl : lv_has ls 2 [(0, .ref (ad 164))] := hl
  refine lv_aload_n hx hb dX6_gatherSeen_0 rfl (lv_at hl 0 rfl) ?_
  refine lv_iconst (v := 0) hx hb dX6_gatherSeen_1 (by decide) ?_
  refine q_put (o := 164) (ci := 6) (k := 6) (T := TX6) (ty := .int) (v := 0) C hM (qmem_6 E ad S A b (show qk 164 = 6 from by decide +kernel)) (by decide) rfl hi6 tyX6 tyX6_ok nmX6 (by decide) hL0 rfl rfl (by decide +kernel) rfl rfl (Nat.le_of_ble_eq_true rfl) (qs_6_6 E ad S A b (show qk 164 = 6 from by decide +kernel) 0) dX6_gatherSeen_2 (fun H locs hM => ?_)
  obtain ⟨S_1, eS_1⟩ : ∃ zz, zz = q2 S 164 6 0 := ⟨_, rfl⟩
  rw [← eS_1] at hM
  refine lv_iconst (v := 0) hx hb dX6_gatherSeen_5 (by decide) ?_
  refine lv_istore_n (lv' := [(1, .int 0), (0, .ref (ad 164))]) hx hb dX6_gatherSeen_6 rfl hl (by decide) rfl (fun ls hl => ?_)
  have loop7 : ∀ (fu : Nat) (k : Nat) (A7 : qA2) (hk : k ≤ 6) (hr : A7 167 = qmap (fun _ _ => 0) (A 167) k) (hf : ∀ i, i ≠ 167 → A7 i = A i), 6 - k < fu → ∀ (H : Heap) (locs : List Loc) (ls : Array Slot), qM E ad S_1 A7 b (qAr ad s.heap.size) s H locs → lv_has ls 2 [(1, .int (nI k)), (0, .ref (ad 164))] → W pg l e (headSpec wsX6_gatherSeen { frames := 0, cells := 0, slots := 0, locals := 0 }).room s m ([.ref (ad 164)] : List Value).toArray below meth cd H locs 0 0 (MQ below (qQv E ad s.heap.size (fun S' A' b' => b = b' ∧ (∀ p, p < 6 → A' 167 p = qsat (A 165) sp p nS) ∧ S' = q2 S 164 6 (qsall (A 165) nS) ∧ ∀ i, i ≠ 167 → A' i = A i)) ([.ref (ad 164)] : List Value).toArray s 0 0 (qAr ad s.heap.size)) (F0 m 7 ls []) := by
    intro fu
    induction fu with
    | zero => intro k A7 hk hr hf hn; exact absurd hn (Nat.not_lt_zero _)
    | succ fu ih7 =>
      intro k A7 hk hr hf hn H locs ls hM hl
      refine lv_iload_n hx hb dX6_gatherSeen_7 rfl (lv_at hl 0 rfl) ?_
      refine lv_bipush (v := 6) hx hb dX6_gatherSeen_8 (by decide) ?_
      refine lv_icmp_ge (tgt := 26) hx hb dX6_gatherSeen_10 (by decide) (fun c_10 => ?_) (fun c_10 => ?_)
      · skip
        have c_10 : 6 ≤ k := (nI_leI (a := 6) (b := k) (by omega) (by omega)).mp c_10
        refine lv_iconst (v := 0) hx hb dX6_gatherSeen_26 (by decide) ?_
        refine lv_istore_n (lv' := [(1, .int 0), (0, .ref (ad 164))]) hx hb dX6_gatherSeen_27 rfl hl (by decide) rfl (fun ls hl => ?_)
        have loop28 : ∀ (fu : Nat) (k2 : Nat) (S28 : qA2) (A28 : qA2) (hk2 : k2 ≤ nS) (hr2 : ∀ p, p < 6 → A28 167 p = qsat (A 165) sp p k2) (hs2 : S28 = q2 S 164 6 (qsall (A 165) k2)) (hf2 : ∀ i, i ≠ 167 → A28 i = A i), nS - k2 < fu → ∀ (H : Heap) (locs : List Loc) (ls : Array Slot), qM E ad S28 A28 b (qAr ad s.heap.size) s H locs → lv_has ls 2 [(1, .int (nI k2)), (0, .ref (ad 164))] → W pg l e (headSpec wsX6_gatherSeen { frames := 0, cells := 0, slots := 0, locals := 0 }).room s m ([.ref (ad 164)] : List Value).toArray below meth cd H locs 0 0 (MQ below (qQv E ad s.heap.size (fun S' A' b' => b = b' ∧ (∀ p, p < 6 → A' 167 p = qsat (A 165) sp p nS) ∧ S' = q2 S 164 6 (qsall (A 165) nS) ∧ ∀ i, i ≠ 167 → A' i = A i)) ([.ref (ad 164)] : List Value).toArray s 0 0 (qAr ad s.heap.size)) (F0 m 28 ls []) := by
          intro fu
          induction fu with
          | zero => intro k2 S28 A28 hk2 hr2 hs2 hf2 hn; exact absurd hn (Nat.not_lt_zero _)
          | succ fu ih28 =>
            intro k2 S28 A28 hk2 hr2 hs2 hf2 hn H locs ls hM hl
            refine lv_iload_n hx hb dX6_gatherSeen_28 rfl (lv_at hl 0 rfl) ?_
            refine lv_aload_n hx hb dX6_gatherSeen_29 rfl (lv_at hl 1 rfl) ?_
            refine q_get (o := 164) (ci := 6) (k := 0) (T := TX6) (v := .int (S 164 0)) C hM (qmem_6 E ad S28 A28 b (show qk 164 = 6 from by decide +kernel)) (by decide) rfl hi6 (by decide) hL1 rfl (congrArg (fun z => some (Value.int z)) (show S28 164 0 = S 164 0 from by rw [hs2, q2_k _ _ (by omega)])) dX6_gatherSeen_30 ?_
            refine lv_as (y := nI nS) hS ?_
            refine lv_icmp_ge (tgt := 81) hx hb dX6_gatherSeen_33 (by decide) (fun c_33 => ?_) (fun c_33 => ?_)
            · skip
              have c_33 : nS ≤ k2 := (nI_leI (a := nS) (b := k2) (by omega) (by omega)).mp c_33
              exact q_vret C hM dX6_gatherSeen_81 (by exact ⟨rfl, fun p hp => by rw [hr2 p hp, show k2 = nS by omega], by rw [hs2, show k2 = nS by omega], hf2⟩)
            · skip
              have c_33 : ¬ (nS ≤ k2) := fun z => c_33 ((nI_leI (a := nS) (b := k2) (by omega) (by omega)).mpr z)
              refine lv_aload_n hx hb dX6_gatherSeen_36 rfl (lv_at hl 1 rfl) ?_
              refine q_get (o := 164) (ci := 6) (k := 4) (T := TX6) (v := .ref (ad 167)) C hM (qmem_6 E ad S28 A28 b (show qk 164 = 6 from by decide +kernel)) (by decide) rfl hi6 (by decide) hL2 rfl rfl dX6_gatherSeen_37 ?_
              refine lv_aload_n hx hb dX6_gatherSeen_40 rfl (lv_at hl 1 rfl) ?_
              refine q_get (o := 164) (ci := 6) (k := 3) (T := TX6) (v := .ref (ad 166)) C hM (qmem_6 E ad S28 A28 b (show qk 164 = 6 from by decide +kernel)) (by decide) rfl hi6 (by decide) hL3 rfl rfl dX6_gatherSeen_41 ?_
              refine lv_iload_n hx hb dX6_gatherSeen_44 rfl (lv_at hl 0 rfl) ?_
              refine q_iald (v := A 166 k2) C hM (show qk 166 = 12 from by decide +kernel) (by rw [(show ql 166 = 6 from by decide +kernel)]; exact vp_nI (by omega) (by omega)) (by rw [nIc (by omega)]; exact (show A28 166 k2 = A 166 k2 from by rw [hf2 166 (by omega)])) dX6_gatherSeen_45 ?_
              obtain ⟨hp1, hp2⟩ := hsp k2 (by omega)
              refine lv_as (y := nI (sp k2)) hp1 ?_
              refine lv_dup2_11 hx hb dX6_gatherSeen_46 rfl rfl ?_
              refine q_iald (v := A28 167 (sp k2)) C hM (show qk 167 = 12 from by decide +kernel) (by rw [(show ql 167 = 6 from by decide +kernel)]; exact vp_nI (by omega) (by omega)) (by rw [nIc (by omega)]) dX6_gatherSeen_47 ?_
              refine lv_iconst (v := 1) hx hb dX6_gatherSeen_48 (by decide) ?_
              refine lv_aload_n hx hb dX6_gatherSeen_49 rfl (lv_at hl 1 rfl) ?_
              refine q_get (o := 164) (ci := 6) (k := 2) (T := TX6) (v := .ref (ad 165)) C hM (qmem_6 E ad S28 A28 b (show qk 164 = 6 from by decide +kernel)) (by decide) rfl hi6 (by decide) hL4 rfl rfl dX6_gatherSeen_50 ?_
              refine lv_iload_n hx hb dX6_gatherSeen_53 rfl (lv_at hl 0 rfl) ?_
              refine q_iald (v := A 165 k2) C hM (show qk 165 = 12 from by decide +kernel) (by rw [(show ql 165 = 6 from by decide +kernel)]; exact vp_nI (by omega) (by omega)) (by rw [nIc (by omega)]; exact (show A28 165 k2 = A 165 k2 from by rw [hf2 165 (by omega)])) dX6_gatherSeen_54 ?_
              refine lv_ishl hx hb dX6_gatherSeen_55 ?_
              refine lv_ior hx hb dX6_gatherSeen_56 ?_
              refine lv_topi (fun v_2 ev_2 => ?_)
              refine q_iast C hM (show qk 167 = 12 from by decide +kernel) (by rw [(show ql 167 = 6 from by decide +kernel)]; exact vp_nI (by omega) (by omega)) dX6_gatherSeen_57 (fun H locs hM => ?_)
              rw [nIc (by omega)] at hM
              obtain ⟨A_3, eA_3⟩ : ∃ zz, zz = q2 A28 167 (sp k2) v_2 := ⟨_, rfl⟩
              rw [← eA_3] at hM
              refine lv_aload_n hx hb dX6_gatherSeen_58 rfl (lv_at hl 1 rfl) ?_
              refine lv_dup hx hb dX6_gatherSeen_59 rfl ?_
              refine q_get (o := 164) (ci := 6) (k := 6) (T := TX6) (v := .int (S28 164 6)) C hM (qmem_6 E ad S28 A_3 b (show qk 164 = 6 from by decide +kernel)) (by decide) rfl hi6 (by decide) hL0 rfl rfl dX6_gatherSeen_60 ?_
              refine lv_iconst (v := 1) hx hb dX6_gatherSeen_63 (by decide) ?_
              refine lv_aload_n hx hb dX6_gatherSeen_64 rfl (lv_at hl 1 rfl) ?_
              refine q_get (o := 164) (ci := 6) (k := 2) (T := TX6) (v := .ref (ad 165)) C hM (qmem_6 E ad S28 A_3 b (show qk 164 = 6 from by decide +kernel)) (by decide) rfl hi6 (by decide) hL4 rfl rfl dX6_gatherSeen_65 ?_
              refine lv_iload_n hx hb dX6_gatherSeen_68 rfl (lv_at hl 0 rfl) ?_
              refine q_iald (v := A 165 k2) C hM (show qk 165 = 12 from by decide +kernel) (by rw [(show ql 165 = 6 from by decide +kernel)]; exact vp_nI (by omega) (by omega)) (by rw [nIc (by omega)]; exact (show A_3 165 k2 = A 165 k2 from by rw [eA_3, q2_o _ _ (by omega)]; rw [hf2 165 (by omega)])) dX6_gatherSeen_69 ?_
              refine lv_ishl hx hb dX6_gatherSeen_70 ?_
              refine lv_ior hx hb dX6_gatherSeen_71 ?_
              refine lv_topi (fun v_4 ev_4 => ?_)
              refine q_put (o := 164) (ci := 6) (k := 6) (T := TX6) (ty := .int) (v := v_4) C hM (qmem_6 E ad S28 A_3 b (show qk 164 = 6 from by decide +kernel)) (by decide) rfl hi6 tyX6 tyX6_ok nmX6 (by decide) hL0 rfl rfl (by decide +kernel) rfl rfl (Nat.le_of_ble_eq_true rfl) (qs_6_6 E ad S28 A_3 b (show qk 164 = 6 from by decide +kernel) v_4) dX6_gatherSeen_72 (fun H locs hM => ?_)
              obtain ⟨S_5, eS_5⟩ : ∃ zz, zz = q2 S28 164 6 v_4 := ⟨_, rfl⟩
              rw [← eS_5] at hM
              refine lv_iinc (v := nI (k2 + 1)) (lv' := [(1, .int (nI (k2 + 1))), (0, .ref (ad 164))]) hx hb dX6_gatherSeen_75 hl (k := 0) rfl (by rw [nI_succ]; rfl) (by decide) rfl (fun ls hl => ?_)
              refine lv_goto (tgt := 28) hx hb dX6_gatherSeen_78 (by decide) ?_
              exact ih28 (k2 + 1) S_5 A_3 (by omega) (fun p hp => by rw [eA_3, q2_row, qsat_s]; by_cases hz : sp k2 = p; (subst hz; rw [if_pos rfl]; simp only [upd, if_true]; rw [ev_2, hr2 _ hp2]; rfl); (rw [if_neg hz]; simp only [upd]; rw [if_neg (fun e => hz e.symm)]; exact hr2 p hp)) (by rw [eS_5, ev_4, hs2]; funext i j; simp only [q2]; by_cases hz : i = 164 ∧ j = 6; (rw [if_pos hz, if_pos hz]; simp [qsall, qor, qsb]); (rw [if_neg hz, if_neg hz, if_neg hz])) (by rw [eA_3]; exact qfr_up hf2) (by omega) _ _ _ hM hl
        exact loop28 (nS - 0 + 1) 0 S_1 A7 (by omega) (fun p hp => by rw [hr, show k = 6 by omega, qmap_in hp]; rfl) (eS_1) hf (Nat.lt_succ_self _) _ _ _ hM hl
      · skip
        have c_10 : ¬ (6 ≤ k) := fun z => c_10 ((nI_leI (a := 6) (b := k) (by omega) (by omega)).mpr z)
        refine lv_aload_n hx hb dX6_gatherSeen_13 rfl (lv_at hl 1 rfl) ?_
        refine q_get (o := 164) (ci := 6) (k := 4) (T := TX6) (v := .ref (ad 167)) C hM (qmem_6 E ad S_1 A7 b (show qk 164 = 6 from by decide +kernel)) (by decide) rfl hi6 (by decide) hL2 rfl rfl dX6_gatherSeen_14 ?_
        refine lv_iload_n hx hb dX6_gatherSeen_17 rfl (lv_at hl 0 rfl) ?_
        refine lv_iconst (v := 0) hx hb dX6_gatherSeen_18 (by decide) ?_
        refine q_iast C hM (show qk 167 = 12 from by decide +kernel) (by rw [(show ql 167 = 6 from by decide +kernel)]; exact vp_nI (by omega) (by omega)) dX6_gatherSeen_19 (fun H locs hM => ?_)
        rw [nIc (by omega)] at hM
        obtain ⟨A_6, eA_6⟩ : ∃ zz, zz = q2 A7 167 k 0 := ⟨_, rfl⟩
        rw [← eA_6] at hM
        refine lv_iinc (v := nI (k + 1)) (lv' := [(1, .int (nI (k + 1))), (0, .ref (ad 164))]) hx hb dX6_gatherSeen_20 hl (k := 0) rfl (by rw [nI_succ]; rfl) (by decide) rfl (fun ls hl => ?_)
        refine lv_goto (tgt := 7) hx hb dX6_gatherSeen_23 (by decide) ?_
        exact ih7 (k + 1) A_6 (by omega) (by rw [eA_6, q2_row, hr]; exact qmap_s _ _ _ _ rfl) (by rw [eA_6]; exact qfr_up hf) (by omega) _ _ _ hM hl
  exact loop7 (6 - 0 + 1) 0 A (by omega) ((qmap_0 _ _).symm) (fun _ _ => rfl) (Nat.lt_succ_self _) _ _ _ hM hl

set_option maxHeartbeats 4000000 in
set_option maxRecDepth 100000 in
theorem c_X6_subletters (E : qE) (ad : Nat → Nat) (l : Launch) (S A : qA2) (b : qB) (nS : Nat) (hS : S 164 0 = nI nS) (hSb : nS ≤ 6) (sp : Nat → Nat) (hsp : ∀ k, k < nS → A 166 k = nI (sp k) ∧ sp k < 6) : MI E ad l yX6_subletters wsX6_subletters { frames := 1, cells := 0, slots := 0, locals := 21 } [.ref (ad 164), .ref (ad 3)] S A b (fun r S' A' b' => b = b' ∧ r = qsubl (A 6) (fun p => qsat (A 165) sp p nS) 6 ∧ S' = q2 S 164 6 (qsall (A 165) nS) ∧ (∀ i, i ≠ 167 → A' i = A i)) := by
  refine MI.of (cc := cX6_subletters) (maxL := 5) (ret := some .int) RX6 rfl (by decide) rfl ?_
  intro pg e s m below meth cd C hM
  have hx := C.1
  have hb := C.2.1
  have hts := C.2.2.2.2.1
  have hA : ∀ q, s.heap.size ≤ q → qAr ad s.heap.size q := fun _ h => Or.inr h
  have hi6 : ∀ w ∈ u_ws RX6 TX6 8, w ∈ wsX6_subletters := by decide +kernel
  have hi9 : ∀ w ∈ u_ws RX9 TX9 8, w ∈ wsX6_subletters := by decide +kernel
  have hL0 := hts (.fieldLink RX6 38 "CrowFences$Winter" "crowOn" "[I") (by decide +kernel)
  have hL1 := hts (.fieldLink RX6 18 "CrowFences$Sits" "seenOn" "[I") (by decide +kernel)
  have hl := lv_entry ([.ref (ad 164), .ref (ad 3)]) (n := 5) (Nat.le_of_ble_eq_true rfl)
  rw [lg_entry_eq]
  generalize (lg_sl ([.ref (ad 164), .ref (ad 3)]) ++ List.replicate (5 - (lg_sl ([.ref (ad 164), .ref (ad 3)])).length) Slot.unset).toArray = ls at hl ⊢
  have hl : lv_has ls 5 [(0, .ref (ad 164)), (1, .ref (ad 3))] := hl
  refine lv_aload_n hx hb dX6_subletters_0 rfl (lv_at hl 0 rfl) ?_
  refine q_callVV (n := 0) (o := 164) (As := []) (rest := []) C hM hA (c_X6_gatherSeen E ad l S A b nS hS (by omega) sp hsp) (qmem_6 E ad S A b (show qk 164 = 6 from by decide +kernel)) (by decide) rfl gX6_subletters_X6_gatherSeen rfl rfl rfl (by decide +kernel) ⟨Nat.le_of_ble_eq_true rfl, Nat.le_of_ble_eq_true rfl⟩ rfl hl.1 rfl (Nat.le_of_ble_eq_true rfl) ⟨Nat.zero_le _, Nat.zero_le _⟩ dX6_subletters_1 (fun S_2 A_3 b_4 H locs qr_1 hM => ?_)
  obtain ⟨e3, hrA_3, eS_2, hfA_3⟩ := qr_1
  subst e3
  refine lv_iconst (v := 0) hx hb dX6_subletters_4 (by decide) ?_
  refine lv_istore_n (lv' := [(2, .int 0), (0, .ref (ad 164)), (1, .ref (ad 3))]) hx hb dX6_subletters_5 rfl hl (by decide) rfl (fun ls hl => ?_)
  refine lv_iconst (v := 0) hx hb dX6_subletters_6 (by decide) ?_
  refine lv_istore_n (lv' := [(3, .int 0), (2, .int 0), (0, .ref (ad 164)), (1, .ref (ad 3))]) hx hb dX6_subletters_7 rfl hl (by decide) rfl (fun ls hl => ?_)
  have loop8 : ∀ (fu : Nat) (t : Int32) (k : Nat) (hk : k ≤ 6) (ht : t = qsubl (A 6) (fun p => qsat (A 165) sp p nS) k), 6 - k < fu → ∀ (H : Heap) (locs : List Loc) (ls : Array Slot), qM E ad S_2 A_3 b (qAr ad s.heap.size) s H locs → lv_has ls 5 [(3, .int (nI k)), (2, .int t), (0, .ref (ad 164)), (1, .ref (ad 3))] → W pg l e (headSpec wsX6_subletters { frames := 1, cells := 0, slots := 0, locals := 21 }).room s m ([.ref (ad 164), .ref (ad 3)] : List Value).toArray below meth cd H locs 0 0 (MQ below (qQi E ad s.heap.size (fun r S' A' b' => b = b' ∧ r = qsubl (A 6) (fun p => qsat (A 165) sp p nS) 6 ∧ S' = q2 S 164 6 (qsall (A 165) nS) ∧ (∀ i, i ≠ 167 → A' i = A i))) ([.ref (ad 164), .ref (ad 3)] : List Value).toArray s 0 0 (qAr ad s.heap.size)) (F0 m 8 ls []) := by
    intro fu
    induction fu with
    | zero => intro t k hk ht hn; exact absurd hn (Nat.not_lt_zero _)
    | succ fu ih8 =>
      intro t k hk ht hn H locs ls hM hl
      refine lv_iload_n hx hb dX6_subletters_8 rfl (lv_at hl 0 rfl) ?_
      refine lv_bipush (v := 6) hx hb dX6_subletters_9 (by decide) ?_
      refine lv_icmp_ge (tgt := 64) hx hb dX6_subletters_11 (by decide) (fun c_11 => ?_) (fun c_11 => ?_)
      · skip
        have c_11 : 6 ≤ k := (nI_leI (a := 6) (b := k) (by omega) (by omega)).mp c_11
        refine lv_iload_n hx hb dX6_subletters_64 rfl (lv_at hl 1 rfl) ?_
        exact q_iret C hM dX6_subletters_65 (by exact ⟨rfl, by rw [ht, show k = 6 by omega], eS_2, hfA_3⟩)
      · skip
        have c_11 : ¬ (6 ≤ k) := fun z => c_11 ((nI_leI (a := 6) (b := k) (by omega) (by omega)).mpr z)
        refine lv_aload_n hx hb dX6_subletters_14 rfl (lv_at hl 3 rfl) ?_
        refine q_get (o := 3) (ci := 9) (k := 2) (T := TX9) (v := .ref (ad 6)) C hM (qmem_9 E ad S_2 A_3 b (show qk 3 = 9 from by decide +kernel)) (by decide) rfl hi9 (by decide) hL0 rfl rfl dX6_subletters_15 ?_
        refine lv_iload_n hx hb dX6_subletters_18 rfl (lv_at hl 0 rfl) ?_
        refine q_iald (v := A 6 k) C hM (show qk 6 = 12 from by decide +kernel) (by rw [(show ql 6 = 6 from by decide +kernel)]; exact vp_nI (by omega) (by omega)) (by rw [nIc (by omega)]; exact (show A_3 6 k = A 6 k from by rw [hfA_3 6 (by omega)])) dX6_subletters_19 ?_
        refine lv_istore (lv' := [(4, .int (A 6 k)), (3, .int (nI k)), (2, .int t), (0, .ref (ad 164)), (1, .ref (ad 3))]) hx hb dX6_subletters_20 hl (by decide) rfl (fun ls hl => ?_)
        refine lv_iload hx hb dX6_subletters_22 (lv_at hl 0 rfl) ?_
        refine lv_iconst (v := (-1)) hx hb dX6_subletters_24 (by decide) ?_
        refine lv_icmp_eq (tgt := 58) hx hb dX6_subletters_25 (by decide) (fun c_25 => ?_) (fun c_25 => ?_)
        · skip
          refine lv_iinc (v := nI (k + 1)) (lv' := [(3, .int (nI (k + 1))), (4, .int (A 6 k)), (2, .int t), (0, .ref (ad 164)), (1, .ref (ad 3))]) hx hb dX6_subletters_58 hl (k := 1) rfl (by rw [nI_succ]; rfl) (by decide) rfl (fun ls hl => ?_)
          refine lv_goto (tgt := 8) hx hb dX6_subletters_61 (by decide) ?_
          exact ih8 t (k + 1) (by omega) (by rw [ht]; simp only [qsubl, qor]; rw [if_pos c_25, i32_or0]) (by omega) _ _ _ hM (lv_sub hl [0, 2, 3, 4] rfl)
        · skip
          refine lv_aload_n hx hb dX6_subletters_28 rfl (lv_at hl 3 rfl) ?_
          refine q_get (o := 164) (ci := 6) (k := 4) (T := TX6) (v := .ref (ad 167)) C hM (qmem_6 E ad S_2 A_3 b (show qk 164 = 6 from by decide +kernel)) (by decide) rfl hi6 (by decide) hL1 rfl rfl dX6_subletters_29 ?_
          refine lv_iload_n hx hb dX6_subletters_32 rfl (lv_at hl 1 rfl) ?_
          refine q_iald (v := A_3 167 k) C hM (show qk 167 = 12 from by decide +kernel) (by rw [(show ql 167 = 6 from by decide +kernel)]; exact vp_nI (by omega) (by omega)) (by rw [nIc (by omega)]) dX6_subletters_33 ?_
          refine lv_if_eq (tgt := 58) hx hb dX6_subletters_34 (by decide) (fun c_34 => ?_) (fun c_34 => ?_)
          · skip
            refine lv_iinc (v := nI (k + 1)) (lv' := [(3, .int (nI (k + 1))), (4, .int (A 6 k)), (2, .int t), (0, .ref (ad 164)), (1, .ref (ad 3))]) hx hb dX6_subletters_58 hl (k := 1) rfl (by rw [nI_succ]; rfl) (by decide) rfl (fun ls hl => ?_)
            refine lv_goto (tgt := 8) hx hb dX6_subletters_61 (by decide) ?_
            exact ih8 t (k + 1) (by omega) (by rw [hrA_3 k (by omega)] at c_34; rw [ht]; simp only [qsubl, qor]; rw [if_neg c_25, if_pos c_34, i32_or0]) (by omega) _ _ _ hM (lv_sub hl [0, 2, 3, 4] rfl)
          · skip
            refine lv_aload_n hx hb dX6_subletters_37 rfl (lv_at hl 3 rfl) ?_
            refine q_get (o := 164) (ci := 6) (k := 4) (T := TX6) (v := .ref (ad 167)) C hM (qmem_6 E ad S_2 A_3 b (show qk 164 = 6 from by decide +kernel)) (by decide) rfl hi6 (by decide) hL1 rfl rfl dX6_subletters_38 ?_
            refine lv_iload_n hx hb dX6_subletters_41 rfl (lv_at hl 1 rfl) ?_
            refine q_iald (v := A_3 167 k) C hM (show qk 167 = 12 from by decide +kernel) (by rw [(show ql 167 = 6 from by decide +kernel)]; exact vp_nI (by omega) (by omega)) (by rw [nIc (by omega)]) dX6_subletters_42 ?_
            refine lv_iload hx hb dX6_subletters_43 (lv_at hl 0 rfl) ?_
            refine lv_ishr hx hb dX6_subletters_45 ?_
            refine lv_iconst (v := 1) hx hb dX6_subletters_46 (by decide) ?_
            refine lv_iand hx hb dX6_subletters_47 ?_
            refine lv_if_ne (tgt := 58) hx hb dX6_subletters_48 (by decide) (fun c_48 => ?_) (fun c_48 => ?_)
            · skip
              refine lv_iinc (v := nI (k + 1)) (lv' := [(3, .int (nI (k + 1))), (4, .int (A 6 k)), (2, .int t), (0, .ref (ad 164)), (1, .ref (ad 3))]) hx hb dX6_subletters_58 hl (k := 1) rfl (by rw [nI_succ]; rfl) (by decide) rfl (fun ls hl => ?_)
              refine lv_goto (tgt := 8) hx hb dX6_subletters_61 (by decide) ?_
              exact ih8 t (k + 1) (by omega) (by rw [hrA_3 k (by omega)] at c_34 c_48; rw [ht]; simp only [qsubl, qor]; rw [if_neg c_25, if_neg c_34, if_neg (show ¬ qtb _ _ = 0 from c_48), i32_or0]) (by omega) _ _ _ hM (lv_sub hl [0, 2, 3, 4] rfl)
            · skip
              refine lv_iload_n hx hb dX6_subletters_51 rfl (lv_at hl 2 rfl) ?_
              refine lv_iconst (v := 1) hx hb dX6_subletters_52 (by decide) ?_
              refine lv_iload hx hb dX6_subletters_53 (lv_at hl 0 rfl) ?_
              refine lv_ishl hx hb dX6_subletters_55 ?_
              refine lv_ior hx hb dX6_subletters_56 ?_
              refine lv_topi (fun x2_5 ex2_5 => ?_)
              refine lv_istore_n (lv' := [(2, .int x2_5), (4, .int (A 6 k)), (3, .int (nI k)), (0, .ref (ad 164)), (1, .ref (ad 3))]) hx hb dX6_subletters_57 rfl hl (by decide) rfl (fun ls hl => ?_)
              refine lv_iinc (v := nI (k + 1)) (lv' := [(3, .int (nI (k + 1))), (2, .int x2_5), (4, .int (A 6 k)), (0, .ref (ad 164)), (1, .ref (ad 3))]) hx hb dX6_subletters_58 hl (k := 2) rfl (by rw [nI_succ]; rfl) (by decide) rfl (fun ls hl => ?_)
              refine lv_goto (tgt := 8) hx hb dX6_subletters_61 (by decide) ?_
              exact ih8 x2_5 (k + 1) (by omega) (by rw [hrA_3 k (by omega)] at c_34 c_48; rw [ex2_5, ht]; simp only [qsubl, qor]; rw [if_neg c_25, if_neg c_34, if_pos (show qtb _ _ = 0 from c_48)]; rfl) (by omega) _ _ _ hM (lv_sub hl [0, 1, 3, 4] rfl)
  exact loop8 (6 - 0 + 1) 0 0 (by omega) rfl (Nat.lt_succ_self _) _ _ _ hM hl

set_option maxHeartbeats 4000000 in
set_option maxRecDepth 100000 in
theorem c_X6_guests (E : qE) (ad : Nat → Nat) (l : Launch) (S A : qA2) (b : qB) (nS : Nat) (hS : S 164 0 = nI nS) (hSb : nS ≤ 6) (sp : Nat → Nat) (hsp : ∀ k, k < nS → A 166 k = nI (sp k) ∧ sp k < 6) : MI E ad l yX6_guests wsX6_guests { frames := 0, cells := 0, slots := 0, locals := 0 } [.ref (ad 164), .ref (ad 3)] S A b (fun r S' A' b' => (S = S' ∧ A = A' ∧ b = b') ∧ r = qgst (A 6) (A 165) sp nS) := by
  refine MI.of (cc := cX6_guests) (maxL := 5) (ret := some .int) RX6 rfl (by decide) rfl ?_
  intro pg e s m below meth cd C hM
  have hx := C.1
  have hb := C.2.1
  have hts := C.2.2.2.2.1
  have hA : ∀ q, s.heap.size ≤ q → qAr ad s.heap.size q := fun _ h => Or.inr h
  have hi6 : ∀ w ∈ u_ws RX6 TX6 8, w ∈ wsX6_guests := by decide +kernel
  have hi9 : ∀ w ∈ u_ws RX9 TX9 8, w ∈ wsX6_guests := by decide +kernel
  have hL0 := hts (.fieldLink RX6 31 "CrowFences$Sits" "count" "I") (by decide +kernel)
  have hL1 := hts (.fieldLink RX6 38 "CrowFences$Winter" "crowOn" "[I") (by decide +kernel)
  have hL2 := hts (.fieldLink RX6 15 "CrowFences$Sits" "post" "[I") (by decide +kernel)
  have hL3 := hts (.fieldLink RX6 9 "CrowFences$Sits" "crow" "[I") (by decide +kernel)
  have hl := lv_entry ([.ref (ad 164), .ref (ad 3)]) (n := 5) (Nat.le_of_ble_eq_true rfl)
  rw [lg_entry_eq]
  generalize (lg_sl ([.ref (ad 164), .ref (ad 3)]) ++ List.replicate (5 - (lg_sl ([.ref (ad 164), .ref (ad 3)])).length) Slot.unset).toArray = ls at hl ⊢
  have hl : lv_has ls 5 [(0, .ref (ad 164)), (1, .ref (ad 3))] := hl
  refine lv_iconst (v := 0) hx hb dX6_guests_0 (by decide) ?_
  refine lv_istore_n (lv' := [(2, .int 0), (0, .ref (ad 164)), (1, .ref (ad 3))]) hx hb dX6_guests_1 rfl hl (by decide) rfl (fun ls hl => ?_)
  refine lv_iconst (v := 0) hx hb dX6_guests_2 (by decide) ?_
  refine lv_istore_n (lv' := [(3, .int 0), (2, .int 0), (0, .ref (ad 164)), (1, .ref (ad 3))]) hx hb dX6_guests_3 rfl hl (by decide) rfl (fun ls hl => ?_)
  have loop4 : ∀ (fu : Nat) (t : Int32) (k : Nat) (hk : k ≤ nS) (ht : t = qgst (A 6) (A 165) sp k), nS - k < fu → ∀ (H : Heap) (locs : List Loc) (ls : Array Slot), qM E ad S A b (qAr ad s.heap.size) s H locs → lv_has ls 5 [(3, .int (nI k)), (2, .int t), (0, .ref (ad 164)), (1, .ref (ad 3))] → W pg l e (headSpec wsX6_guests { frames := 0, cells := 0, slots := 0, locals := 0 }).room s m ([.ref (ad 164), .ref (ad 3)] : List Value).toArray below meth cd H locs 0 0 (MQ below (qQi E ad s.heap.size (fun r S' A' b' => (S = S' ∧ A = A' ∧ b = b') ∧ r = qgst (A 6) (A 165) sp nS)) ([.ref (ad 164), .ref (ad 3)] : List Value).toArray s 0 0 (qAr ad s.heap.size)) (F0 m 4 ls []) := by
    intro fu
    induction fu with
    | zero => intro t k hk ht hn; exact absurd hn (Nat.not_lt_zero _)
    | succ fu ih4 =>
      intro t k hk ht hn H locs ls hM hl
      refine lv_iload_n hx hb dX6_guests_4 rfl (lv_at hl 0 rfl) ?_
      refine lv_aload_n hx hb dX6_guests_5 rfl (lv_at hl 2 rfl) ?_
      refine q_get (o := 164) (ci := 6) (k := 0) (T := TX6) (v := .int (S 164 0)) C hM (qmem_6 E ad S A b (show qk 164 = 6 from by decide +kernel)) (by decide) rfl hi6 (by decide) hL0 rfl rfl dX6_guests_6 ?_
      refine lv_as (y := nI nS) hS ?_
      refine lv_icmp_ge (tgt := 59) hx hb dX6_guests_9 (by decide) (fun c_9 => ?_) (fun c_9 => ?_)
      · skip
        have c_9 : nS ≤ k := (nI_leI (a := nS) (b := k) (by omega) (by omega)).mp c_9
        refine lv_iload_n hx hb dX6_guests_59 rfl (lv_at hl 1 rfl) ?_
        exact q_iret C hM dX6_guests_60 (by exact ⟨⟨rfl, rfl, rfl⟩, (by rw [ht, show k = nS by omega])⟩)
      · skip
        have c_9 : ¬ (nS ≤ k) := fun z => c_9 ((nI_leI (a := nS) (b := k) (by omega) (by omega)).mpr z)
        refine lv_aload_n hx hb dX6_guests_12 rfl (lv_at hl 3 rfl) ?_
        refine q_get (o := 3) (ci := 9) (k := 2) (T := TX9) (v := .ref (ad 6)) C hM (qmem_9 E ad S A b (show qk 3 = 9 from by decide +kernel)) (by decide) rfl hi9 (by decide) hL1 rfl rfl dX6_guests_13 ?_
        refine lv_aload_n hx hb dX6_guests_16 rfl (lv_at hl 2 rfl) ?_
        refine q_get (o := 164) (ci := 6) (k := 3) (T := TX6) (v := .ref (ad 166)) C hM (qmem_6 E ad S A b (show qk 164 = 6 from by decide +kernel)) (by decide) rfl hi6 (by decide) hL2 rfl rfl dX6_guests_17 ?_
        refine lv_iload_n hx hb dX6_guests_20 rfl (lv_at hl 0 rfl) ?_
        refine q_iald (v := A 166 k) C hM (show qk 166 = 12 from by decide +kernel) (by rw [(show ql 166 = 6 from by decide +kernel)]; exact vp_nI (by omega) (by omega)) (by rw [nIc (by omega)]) dX6_guests_21 ?_
        obtain ⟨hp1, hp2⟩ := hsp k (by omega)
        refine lv_as (y := nI (sp k)) hp1 ?_
        refine q_iald (v := A 6 (sp k)) C hM (show qk 6 = 12 from by decide +kernel) (by rw [(show ql 6 = 6 from by decide +kernel)]; exact vp_nI (by omega) (by omega)) (by rw [nIc (by omega)]) dX6_guests_22 ?_
        refine lv_istore (lv' := [(4, .int (A 6 (sp k))), (3, .int (nI k)), (2, .int t), (0, .ref (ad 164)), (1, .ref (ad 3))]) hx hb dX6_guests_23 hl (by decide) rfl (fun ls hl => ?_)
        refine lv_iload hx hb dX6_guests_25 (lv_at hl 0 rfl) ?_
        refine lv_iconst (v := (-1)) hx hb dX6_guests_27 (by decide) ?_
        refine lv_icmp_eq (tgt := 53) hx hb dX6_guests_28 (by decide) (fun c_28 => ?_) (fun c_28 => ?_)
        · skip
          refine lv_iinc (v := nI (k + 1)) (lv' := [(3, .int (nI (k + 1))), (4, .int (A 6 (sp k))), (2, .int t), (0, .ref (ad 164)), (1, .ref (ad 3))]) hx hb dX6_guests_53 hl (k := 1) rfl (by rw [nI_succ]; rfl) (by decide) rfl (fun ls hl => ?_)
          refine lv_goto (tgt := 4) hx hb dX6_guests_56 (by decide) ?_
          exact ih4 t (k + 1) (by omega) (by rw [ht]; simp only [qgst, qor]; rw [if_pos c_28, i32_or0]) (by omega) _ _ _ hM (lv_sub hl [0, 2, 3, 4] rfl)
        · skip
          refine lv_iload hx hb dX6_guests_31 (lv_at hl 0 rfl) ?_
          refine lv_aload_n hx hb dX6_guests_33 rfl (lv_at hl 3 rfl) ?_
          refine q_get (o := 164) (ci := 6) (k := 2) (T := TX6) (v := .ref (ad 165)) C hM (qmem_6 E ad S A b (show qk 164 = 6 from by decide +kernel)) (by decide) rfl hi6 (by decide) hL3 rfl rfl dX6_guests_34 ?_
          refine lv_iload_n hx hb dX6_guests_37 rfl (lv_at hl 1 rfl) ?_
          refine q_iald (v := A 165 k) C hM (show qk 165 = 12 from by decide +kernel) (by rw [(show ql 165 = 6 from by decide +kernel)]; exact vp_nI (by omega) (by omega)) (by rw [nIc (by omega)]) dX6_guests_38 ?_
          refine lv_icmp_eq (tgt := 53) hx hb dX6_guests_39 (by decide) (fun c_39 => ?_) (fun c_39 => ?_)
          · skip
            refine lv_iinc (v := nI (k + 1)) (lv' := [(3, .int (nI (k + 1))), (4, .int (A 6 (sp k))), (2, .int t), (0, .ref (ad 164)), (1, .ref (ad 3))]) hx hb dX6_guests_53 hl (k := 1) rfl (by rw [nI_succ]; rfl) (by decide) rfl (fun ls hl => ?_)
            refine lv_goto (tgt := 4) hx hb dX6_guests_56 (by decide) ?_
            exact ih4 t (k + 1) (by omega) (by rw [ht]; simp only [qgst, qor]; rw [if_neg c_28, if_pos c_39, i32_or0]) (by omega) _ _ _ hM (lv_sub hl [0, 2, 3, 4] rfl)
          · skip
            refine lv_iload_n hx hb dX6_guests_42 rfl (lv_at hl 2 rfl) ?_
            refine lv_iconst (v := 1) hx hb dX6_guests_43 (by decide) ?_
            refine lv_aload_n hx hb dX6_guests_44 rfl (lv_at hl 3 rfl) ?_
            refine q_get (o := 164) (ci := 6) (k := 2) (T := TX6) (v := .ref (ad 165)) C hM (qmem_6 E ad S A b (show qk 164 = 6 from by decide +kernel)) (by decide) rfl hi6 (by decide) hL3 rfl rfl dX6_guests_45 ?_
            refine lv_iload_n hx hb dX6_guests_48 rfl (lv_at hl 1 rfl) ?_
            refine q_iald (v := A 165 k) C hM (show qk 165 = 12 from by decide +kernel) (by rw [(show ql 165 = 6 from by decide +kernel)]; exact vp_nI (by omega) (by omega)) (by rw [nIc (by omega)]) dX6_guests_49 ?_
            refine lv_ishl hx hb dX6_guests_50 ?_
            refine lv_ior hx hb dX6_guests_51 ?_
            refine lv_topi (fun x2_1 ex2_1 => ?_)
            refine lv_istore_n (lv' := [(2, .int x2_1), (4, .int (A 6 (sp k))), (3, .int (nI k)), (0, .ref (ad 164)), (1, .ref (ad 3))]) hx hb dX6_guests_52 rfl hl (by decide) rfl (fun ls hl => ?_)
            refine lv_iinc (v := nI (k + 1)) (lv' := [(3, .int (nI (k + 1))), (2, .int x2_1), (4, .int (A 6 (sp k))), (0, .ref (ad 164)), (1, .ref (ad 3))]) hx hb dX6_guests_53 hl (k := 2) rfl (by rw [nI_succ]; rfl) (by decide) rfl (fun ls hl => ?_)
            refine lv_goto (tgt := 4) hx hb dX6_guests_56 (by decide) ?_
            exact ih4 x2_1 (k + 1) (by omega) (by rw [ex2_1, ht]; simp only [qgst, qor]; rw [if_neg c_28, if_neg c_39]; rfl) (by omega) _ _ _ hM (lv_sub hl [0, 1, 3, 4] rfl)
  exact loop4 (nS - 0 + 1) 0 0 (by omega) rfl (Nat.lt_succ_self _) _ _ _ hM hl

set_option maxHeartbeats 4000000 in
set_option maxRecDepth 100000 in
theorem c_X6_mayHave (E : qE) (ad : Nat → Nat) (l : Launch) (S A : qA2) (b : qB) (np : Nat) (hnp : np < 6) (a2 : Int32) : MI E ad l yX6_mayHave wsX6_mayHave { frames := 0, cells := 0, slots := 0, locals := 0 } [.ref (ad 164), .int (nI np), .int a2] S A b (fun r S' A' b' => (S = S' ∧ A = A' ∧ b = b') ∧ ((r = 1 ∧ qmay (A 167 np) (S 164 6) a2) ∨ (r = 0 ∧ ¬ qmay (A 167 np) (S 164 6) a2))) := by
  refine MI.of (cc := cX6_mayHave) (maxL := 3) (ret := some .boolean) RX6 rfl (by decide) rfl ?_
  intro pg e s m below meth cd C hM
  have hx := C.1
  have hb := C.2.1
  have hts := C.2.2.2.2.1
  have hA : ∀ q, s.heap.size ≤ q → qAr ad s.heap.size q := fun _ h => Or.inr h
  have hi6 : ∀ w ∈ u_ws RX6 TX6 8, w ∈ wsX6_mayHave := by decide +kernel
  have hL0 := hts (.fieldLink RX6 18 "CrowFences$Sits" "seenOn" "[I") (by decide +kernel)
  have hL1 := hts (.fieldLink RX6 76 "CrowFences$Sits" "seenAnywhere" "I") (by decide +kernel)
  have hl := lv_entry ([.ref (ad 164), .int (nI np), .int a2]) (n := 3) (Nat.le_of_ble_eq_true rfl)
  rw [lg_entry_eq]
  generalize (lg_sl ([.ref (ad 164), .int (nI np), .int a2]) ++ List.replicate (3 - (lg_sl ([.ref (ad 164), .int (nI np), .int a2])).length) Slot.unset).toArray = ls at hl ⊢
  have hl : lv_has ls 3 [(0, .ref (ad 164)), (1, .int (nI np)), (2, .int a2)] := hl
  refine lv_iload_n hx hb dX6_mayHave_0 rfl (lv_at hl 2 rfl) ?_
  refine lv_iconst (v := (-1)) hx hb dX6_mayHave_1 (by decide) ?_
  refine lv_icmp_ne (tgt := 7) hx hb dX6_mayHave_2 (by decide) (fun c_2 => ?_) (fun c_2 => ?_)
  · skip
    refine lv_aload_n hx hb dX6_mayHave_7 rfl (lv_at hl 0 rfl) ?_
    refine q_get (o := 164) (ci := 6) (k := 4) (T := TX6) (v := .ref (ad 167)) C hM (qmem_6 E ad S A b (show qk 164 = 6 from by decide +kernel)) (by decide) rfl hi6 (by decide) hL0 rfl rfl dX6_mayHave_8 ?_
    refine lv_iload_n hx hb dX6_mayHave_11 rfl (lv_at hl 1 rfl) ?_
    refine q_iald (v := A 167 np) C hM (show qk 167 = 12 from by decide +kernel) (by rw [(show ql 167 = 6 from by decide +kernel)]; exact vp_nI (by omega) (by omega)) (by rw [nIc (by omega)]) dX6_mayHave_12 ?_
    refine lv_iload_n hx hb dX6_mayHave_13 rfl (lv_at hl 2 rfl) ?_
    refine lv_ishr hx hb dX6_mayHave_14 ?_
    refine lv_iconst (v := 1) hx hb dX6_mayHave_15 (by decide) ?_
    refine lv_iand hx hb dX6_mayHave_16 ?_
    refine lv_if_ne (tgt := 31) hx hb dX6_mayHave_17 (by decide) (fun c_17 => ?_) (fun c_17 => ?_)
    · skip
      refine lv_iconst (v := 1) hx hb dX6_mayHave_31 (by decide) ?_
      refine lv_goto (tgt := 36) hx hb dX6_mayHave_32 (by decide) ?_
      exact q_zret C hM dX6_mayHave_36 rfl (by exact ⟨⟨rfl, rfl, rfl⟩, Or.inl ⟨rfl, c_2, Or.inl c_17⟩⟩)
    · skip
      refine lv_aload_n hx hb dX6_mayHave_20 rfl (lv_at hl 0 rfl) ?_
      refine q_get (o := 164) (ci := 6) (k := 6) (T := TX6) (v := .int (S 164 6)) C hM (qmem_6 E ad S A b (show qk 164 = 6 from by decide +kernel)) (by decide) rfl hi6 (by decide) hL1 rfl rfl dX6_mayHave_21 ?_
      refine lv_iload_n hx hb dX6_mayHave_24 rfl (lv_at hl 2 rfl) ?_
      refine lv_ishr hx hb dX6_mayHave_25 ?_
      refine lv_iconst (v := 1) hx hb dX6_mayHave_26 (by decide) ?_
      refine lv_iand hx hb dX6_mayHave_27 ?_
      refine lv_if_ne (tgt := 35) hx hb dX6_mayHave_28 (by decide) (fun c_28 => ?_) (fun c_28 => ?_)
      · skip
        refine lv_iconst (v := 0) hx hb dX6_mayHave_35 (by decide) ?_
        exact q_zret C hM dX6_mayHave_36 rfl (by exact ⟨⟨rfl, rfl, rfl⟩, Or.inr ⟨rfl, fun z => z.2.elim (fun q => q c_17) (fun q => c_28 q)⟩⟩)
      · skip
        refine lv_iconst (v := 1) hx hb dX6_mayHave_31 (by decide) ?_
        refine lv_goto (tgt := 36) hx hb dX6_mayHave_32 (by decide) ?_
        exact q_zret C hM dX6_mayHave_36 rfl (by exact ⟨⟨rfl, rfl, rfl⟩, Or.inl ⟨rfl, c_2, Or.inr c_28⟩⟩)
  · skip
    refine lv_iconst (v := 0) hx hb dX6_mayHave_5 (by decide) ?_
    exact q_zret C hM dX6_mayHave_6 rfl (by exact ⟨⟨rfl, rfl, rfl⟩, Or.inr ⟨rfl, fun z => z.1 c_2⟩⟩)

set_option maxHeartbeats 4000000 in
set_option maxRecDepth 100000 in
theorem c_X6_wayFits (E : qE) (ad : Nat → Nat) (l : Launch) (S A : qA2) (b : qB) (nP : Nat) (hPb : nP ≤ 6) : MI E ad l yX6_wayFits wsX6_wayFits { frames := 1, cells := 0, slots := 0, locals := 22 } [.ref (ad 164), .int (nI nP)] S A b (fun r S' A' b' => (S = S' ∧ A = A' ∧ b = b') ∧ ((r = 1 ∧ qfits nP (A 167) (S 164 6) (A 170)) ∨ (r = 0 ∧ ¬ qfits nP (A 167) (S 164 6) (A 170)))) := by
  refine MI.of (cc := cX6_wayFits) (maxL := 3) (ret := some .boolean) RX6 rfl (by decide) rfl ?_
  intro pg e s m below meth cd C hM
  have hx := C.1
  have hb := C.2.1
  have hts := C.2.2.2.2.1
  have hA : ∀ q, s.heap.size ≤ q → qAr ad s.heap.size q := fun _ h => Or.inr h
  have hi6 : ∀ w ∈ u_ws RX6 TX6 8, w ∈ wsX6_wayFits := by decide +kernel
  have hi8 : ∀ w ∈ u_ws RX8 TX8 6, w ∈ wsX6_wayFits := by decide +kernel
  have hL0 := hts (.fieldLink RX6 18 "CrowFences$Sits" "seenOn" "[I") (by decide +kernel)
  have hL1 := hts (.fieldLink RX6 27 "CrowFences$Sits" "ways" "LCrowFences$Ways;") (by decide +kernel)
  have hL2 := hts (.fieldLink RX6 79 "CrowFences$Ways" "crowOn" "[I") (by decide +kernel)
  have hl := lv_entry ([.ref (ad 164), .int (nI nP)]) (n := 3) (Nat.le_of_ble_eq_true rfl)
  rw [lg_entry_eq]
  generalize (lg_sl ([.ref (ad 164), .int (nI nP)]) ++ List.replicate (3 - (lg_sl ([.ref (ad 164), .int (nI nP)])).length) Slot.unset).toArray = ls at hl ⊢
  have hl : lv_has ls 3 [(0, .ref (ad 164)), (1, .int (nI nP))] := hl
  refine lv_iconst (v := 0) hx hb dX6_wayFits_0 (by decide) ?_
  refine lv_istore_n (lv' := [(2, .int 0), (0, .ref (ad 164)), (1, .int (nI nP))]) hx hb dX6_wayFits_1 rfl hl (by decide) rfl (fun ls hl => ?_)
  have loop2 : ∀ (fu : Nat) (k : Nat) (hk : k ≤ nP) (ht : ∀ p, p < k → ¬ A 167 p = 0 → qmay (A 167 p) (S 164 6) (A 170 p)), nP - k < fu → ∀ (H : Heap) (locs : List Loc) (ls : Array Slot), qM E ad S A b (qAr ad s.heap.size) s H locs → lv_has ls 3 [(2, .int (nI k)), (0, .ref (ad 164)), (1, .int (nI nP))] → W pg l e (headSpec wsX6_wayFits { frames := 1, cells := 0, slots := 0, locals := 22 }).room s m ([.ref (ad 164), .int (nI nP)] : List Value).toArray below meth cd H locs 0 0 (MQ below (qQi E ad s.heap.size (fun r S' A' b' => (S = S' ∧ A = A' ∧ b = b') ∧ ((r = 1 ∧ qfits nP (A 167) (S 164 6) (A 170)) ∨ (r = 0 ∧ ¬ qfits nP (A 167) (S 164 6) (A 170))))) ([.ref (ad 164), .int (nI nP)] : List Value).toArray s 0 0 (qAr ad s.heap.size)) (F0 m 2 ls []) := by
    intro fu
    induction fu with
    | zero => intro k hk ht hn; exact absurd hn (Nat.not_lt_zero _)
    | succ fu ih2 =>
      intro k hk ht hn H locs ls hM hl
      refine lv_iload_n hx hb dX6_wayFits_2 rfl (lv_at hl 0 rfl) ?_
      refine lv_iload_n hx hb dX6_wayFits_3 rfl (lv_at hl 2 rfl) ?_
      refine lv_icmp_ge (tgt := 41) hx hb dX6_wayFits_4 (by decide) (fun c_4 => ?_) (fun c_4 => ?_)
      · skip
        have c_4 : nP ≤ k := (nI_leI (a := nP) (b := k) (by omega) (by omega)).mp c_4
        refine lv_iconst (v := 1) hx hb dX6_wayFits_41 (by decide) ?_
        exact q_zret C hM dX6_wayFits_42 rfl (by exact ⟨⟨rfl, rfl, rfl⟩, Or.inl ⟨rfl, fun p hp => ht p (by omega)⟩⟩)
      · skip
        have c_4 : ¬ (nP ≤ k) := fun z => c_4 ((nI_leI (a := nP) (b := k) (by omega) (by omega)).mpr z)
        refine lv_aload_n hx hb dX6_wayFits_7 rfl (lv_at hl 1 rfl) ?_
        refine q_get (o := 164) (ci := 6) (k := 4) (T := TX6) (v := .ref (ad 167)) C hM (qmem_6 E ad S A b (show qk 164 = 6 from by decide +kernel)) (by decide) rfl hi6 (by decide) hL0 rfl rfl dX6_wayFits_8 ?_
        refine lv_iload_n hx hb dX6_wayFits_11 rfl (lv_at hl 0 rfl) ?_
        refine q_iald (v := A 167 k) C hM (show qk 167 = 12 from by decide +kernel) (by rw [(show ql 167 = 6 from by decide +kernel)]; exact vp_nI (by omega) (by omega)) (by rw [nIc (by omega)]) dX6_wayFits_12 ?_
        refine lv_if_eq (tgt := 35) hx hb dX6_wayFits_13 (by decide) (fun c_13 => ?_) (fun c_13 => ?_)
        · skip
          refine lv_iinc (v := nI (k + 1)) (lv' := [(2, .int (nI (k + 1))), (0, .ref (ad 164)), (1, .int (nI nP))]) hx hb dX6_wayFits_35 hl (k := 0) rfl (by rw [nI_succ]; rfl) (by decide) rfl (fun ls hl => ?_)
          refine lv_goto (tgt := 2) hx hb dX6_wayFits_38 (by decide) ?_
          exact ih2 (k + 1) (by omega) (fun p hp hq => by rcases Nat.lt_or_ge p k with hz | hz; exact ht p hz hq; have hz2 : p = k := (by omega); subst hz2; exact absurd c_13 hq) (by omega) _ _ _ hM hl
        · skip
          refine lv_aload_n hx hb dX6_wayFits_16 rfl (lv_at hl 1 rfl) ?_
          refine lv_iload_n hx hb dX6_wayFits_17 rfl (lv_at hl 0 rfl) ?_
          refine lv_aload_n hx hb dX6_wayFits_18 rfl (lv_at hl 1 rfl) ?_
          refine q_get (o := 164) (ci := 6) (k := 7) (T := TX6) (v := .ref (ad 169)) C hM (qmem_6 E ad S A b (show qk 164 = 6 from by decide +kernel)) (by decide) rfl hi6 (by decide) hL1 rfl rfl dX6_wayFits_19 ?_
          refine q_get (o := 169) (ci := 8) (k := 0) (T := TX8) (v := .ref (ad 170)) C hM (qmem_8 E ad S A b (show qk 169 = 8 from by decide +kernel)) (by decide) rfl hi8 (by decide) hL2 rfl rfl dX6_wayFits_22 ?_
          refine lv_iload_n hx hb dX6_wayFits_25 rfl (lv_at hl 0 rfl) ?_
          refine q_iald (v := A 170 k) C hM (show qk 170 = 12 from by decide +kernel) (by rw [(show ql 170 = 6 from by decide +kernel)]; exact vp_nI (by omega) (by omega)) (by rw [nIc (by omega)]) dX6_wayFits_26 ?_
          refine q_callVI (n := 2) (o := 164) (As := [.int (nI k), .int (A 170 k)]) (rest := []) C hM hA (c_X6_mayHave E ad l S A b k (by omega) (A 170 k)) (qmem_6 E ad S A b (show qk 164 = 6 from by decide +kernel)) (by decide) rfl gX6_wayFits_X6_mayHave rfl rfl rfl (by decide +kernel) ⟨Nat.le_of_ble_eq_true rfl, Nat.le_of_ble_eq_true rfl⟩ rfl hl.1 rfl (Nat.le_of_ble_eq_true rfl) ⟨Nat.zero_le _, Nat.zero_le _⟩ dX6_wayFits_27 (fun r_1 S_2 A_3 b_4 H locs qr_1 hM => ?_)
          obtain ⟨⟨e1, e2, e3⟩, hr_1⟩ := qr_1
          subst e1; subst e2; subst e3
          refine lv_if_ne (tgt := 35) hx hb dX6_wayFits_30 (by decide) (fun c_30 => ?_) (fun c_30 => ?_)
          · skip
            refine lv_iinc (v := nI (k + 1)) (lv' := [(2, .int (nI (k + 1))), (0, .ref (ad 164)), (1, .int (nI nP))]) hx hb dX6_wayFits_35 hl (k := 0) rfl (by rw [nI_succ]; rfl) (by decide) rfl (fun ls hl => ?_)
            refine lv_goto (tgt := 2) hx hb dX6_wayFits_38 (by decide) ?_
            exact ih2 (k + 1) (by omega) (fun p hp hq => by rcases Nat.lt_or_ge p k with hz | hz; exact ht p hz hq; have hz2 : p = k := (by omega); subst hz2; exact hr_1.elim (fun q => q.2) (fun q => absurd q.1 c_30)) (by omega) _ _ _ hM hl
          · skip
            refine lv_iconst (v := 0) hx hb dX6_wayFits_33 (by decide) ?_
            exact q_zret C hM dX6_wayFits_34 rfl (by exact ⟨⟨rfl, rfl, rfl⟩, Or.inr ⟨rfl, fun z => hr_1.elim (fun q => absurd (c_30.symm.trans q.1) (by decide)) (fun q => q.2 (z k (by omega) c_13))⟩⟩)
  exact loop2 (nP - 0 + 1) 0 (by omega) (fun p hp => absurd hp (Nat.not_lt_zero _)) (Nat.lt_succ_self _) _ _ _ hM hl

set_option maxHeartbeats 4000000 in
set_option maxRecDepth 100000 in
theorem c_X6_countWay (E : qE) (ad : Nat → Nat) (l : Launch) (S A : qA2) (b : qB) (nP : Nat) (hPb : nP ≤ 6) : MV E ad l yX6_countWay wsX6_countWay { frames := 0, cells := 0, slots := 0, locals := 0 } [.ref (ad 164), .int (nI nP)] S A b (fun S' A' b' => b = b' ∧ S' = q2 S 164 1 (S 164 1 + 1) ∧ A' 168 = qmap (fun p x => x ||| ((1 : Int32) <<< ((A 170 p + 1) &&& 31))) (A 168) nP ∧ ∀ i, i ≠ 168 → A' i = A i) := by
  refine MV.of (cc := cX6_countWay) (maxL := 3) (ret := none) RX6 rfl (by decide) rfl ?_
  intro pg e s m below meth cd C hM
  have hx := C.1
  have hb := C.2.1
  have hts := C.2.2.2.2.1
  have hA : ∀ q, s.heap.size ≤ q → qAr ad s.heap.size q := fun _ h => Or.inr h
  have hi6 : ∀ w ∈ u_ws RX6 TX6 8, w ∈ wsX6_countWay := by decide +kernel
  have hi8 : ∀ w ∈ u_ws RX8 TX8 6, w ∈ wsX6_countWay := by decide +kernel
  have hL0 := hts (.fieldLink RX6 43 "CrowFences$Sits" "waysThatFit" "I") (by decide +kernel)
  have hL1 := hts (.fieldLink RX6 21 "CrowFences$Sits" "tenants" "[I") (by decide +kernel)
  have hL2 := hts (.fieldLink RX6 27 "CrowFences$Sits" "ways" "LCrowFences$Ways;") (by decide +kernel)
  have hL3 := hts (.fieldLink RX6 79 "CrowFences$Ways" "crowOn" "[I") (by decide +kernel)
  have hl := lv_entry ([.ref (ad 164), .int (nI nP)]) (n := 3) (Nat.le_of_ble_eq_true rfl)
  rw [lg_entry_eq]
  generalize (lg_sl ([.ref (ad 164), .int (nI nP)]) ++ List.replicate (3 - (lg_sl ([.ref (ad 164), .int (nI nP)])).length) Slot.unset).toArray = ls at hl ⊢
  have hl : lv_has ls 3 [(0, .ref (ad 164)), (1, .int (nI nP))] := hl
  refine lv_aload_n hx hb dX6_countWay_0 rfl (lv_at hl 0 rfl) ?_
  refine lv_dup hx hb dX6_countWay_1 rfl ?_
  refine q_get (o := 164) (ci := 6) (k := 1) (T := TX6) (v := .int (S 164 1)) C hM (qmem_6 E ad S A b (show qk 164 = 6 from by decide +kernel)) (by decide) rfl hi6 (by decide) hL0 rfl rfl dX6_countWay_2 ?_
  refine lv_iconst (v := 1) hx hb dX6_countWay_5 (by decide) ?_
  refine lv_iadd hx hb dX6_countWay_6 ?_
  refine lv_topi (fun v_1 ev_1 => ?_)
  refine q_put (o := 164) (ci := 6) (k := 1) (T := TX6) (ty := .int) (v := v_1) C hM (qmem_6 E ad S A b (show qk 164 = 6 from by decide +kernel)) (by decide) rfl hi6 tyX6 tyX6_ok nmX6 (by decide) hL0 rfl rfl (by decide +kernel) rfl rfl (Nat.le_of_ble_eq_true rfl) (qs_6_1 E ad S A b (show qk 164 = 6 from by decide +kernel) v_1) dX6_countWay_7 (fun H locs hM => ?_)
  obtain ⟨S_2, eS_2⟩ : ∃ zz, zz = q2 S 164 1 v_1 := ⟨_, rfl⟩
  rw [← eS_2] at hM
  refine lv_iconst (v := 0) hx hb dX6_countWay_10 (by decide) ?_
  refine lv_istore_n (lv' := [(2, .int 0), (0, .ref (ad 164)), (1, .int (nI nP))]) hx hb dX6_countWay_11 rfl hl (by decide) rfl (fun ls hl => ?_)
  have loop12 : ∀ (fu : Nat) (k : Nat) (A12 : qA2) (hk : k ≤ nP) (hr : A12 168 = qmap (fun p x => x ||| ((1 : Int32) <<< ((A 170 p + 1) &&& 31))) (A 168) k) (hf : ∀ i, i ≠ 168 → A12 i = A i), nP - k < fu → ∀ (H : Heap) (locs : List Loc) (ls : Array Slot), qM E ad S_2 A12 b (qAr ad s.heap.size) s H locs → lv_has ls 3 [(2, .int (nI k)), (0, .ref (ad 164)), (1, .int (nI nP))] → W pg l e (headSpec wsX6_countWay { frames := 0, cells := 0, slots := 0, locals := 0 }).room s m ([.ref (ad 164), .int (nI nP)] : List Value).toArray below meth cd H locs 0 0 (MQ below (qQv E ad s.heap.size (fun S' A' b' => b = b' ∧ S' = q2 S 164 1 (S 164 1 + 1) ∧ A' 168 = qmap (fun p x => x ||| ((1 : Int32) <<< ((A 170 p + 1) &&& 31))) (A 168) nP ∧ ∀ i, i ≠ 168 → A' i = A i)) ([.ref (ad 164), .int (nI nP)] : List Value).toArray s 0 0 (qAr ad s.heap.size)) (F0 m 12 ls []) := by
    intro fu
    induction fu with
    | zero => intro k A12 hk hr hf hn; exact absurd hn (Nat.not_lt_zero _)
    | succ fu ih12 =>
      intro k A12 hk hr hf hn H locs ls hM hl
      refine lv_iload_n hx hb dX6_countWay_12 rfl (lv_at hl 0 rfl) ?_
      refine lv_iload_n hx hb dX6_countWay_13 rfl (lv_at hl 2 rfl) ?_
      refine lv_icmp_ge (tgt := 45) hx hb dX6_countWay_14 (by decide) (fun c_14 => ?_) (fun c_14 => ?_)
      · skip
        have c_14 : nP ≤ k := (nI_leI (a := nP) (b := k) (by omega) (by omega)).mp c_14
        exact q_vret C hM dX6_countWay_45 (by exact ⟨rfl, by rw [eS_2, ev_1], by rw [hr, show k = nP by omega], hf⟩)
      · skip
        have c_14 : ¬ (nP ≤ k) := fun z => c_14 ((nI_leI (a := nP) (b := k) (by omega) (by omega)).mpr z)
        refine lv_aload_n hx hb dX6_countWay_17 rfl (lv_at hl 1 rfl) ?_
        refine q_get (o := 164) (ci := 6) (k := 5) (T := TX6) (v := .ref (ad 168)) C hM (qmem_6 E ad S_2 A12 b (show qk 164 = 6 from by decide +kernel)) (by decide) rfl hi6 (by decide) hL1 rfl rfl dX6_countWay_18 ?_
        refine lv_iload_n hx hb dX6_countWay_21 rfl (lv_at hl 0 rfl) ?_
        refine lv_dup2_11 hx hb dX6_countWay_22 rfl rfl ?_
        refine q_iald (v := A12 168 k) C hM (show qk 168 = 12 from by decide +kernel) (by rw [(show ql 168 = 6 from by decide +kernel)]; exact vp_nI (by omega) (by omega)) (by rw [nIc (by omega)]) dX6_countWay_23 ?_
        refine lv_iconst (v := 1) hx hb dX6_countWay_24 (by decide) ?_
        refine lv_aload_n hx hb dX6_countWay_25 rfl (lv_at hl 1 rfl) ?_
        refine q_get (o := 164) (ci := 6) (k := 7) (T := TX6) (v := .ref (ad 169)) C hM (qmem_6 E ad S_2 A12 b (show qk 164 = 6 from by decide +kernel)) (by decide) rfl hi6 (by decide) hL2 rfl rfl dX6_countWay_26 ?_
        refine q_get (o := 169) (ci := 8) (k := 0) (T := TX8) (v := .ref (ad 170)) C hM (qmem_8 E ad S_2 A12 b (show qk 169 = 8 from by decide +kernel)) (by decide) rfl hi8 (by decide) hL3 rfl rfl dX6_countWay_29 ?_
        refine lv_iload_n hx hb dX6_countWay_32 rfl (lv_at hl 0 rfl) ?_
        refine q_iald (v := A 170 k) C hM (show qk 170 = 12 from by decide +kernel) (by rw [(show ql 170 = 6 from by decide +kernel)]; exact vp_nI (by omega) (by omega)) (by rw [nIc (by omega)]; exact (show A12 170 k = A 170 k from by rw [hf 170 (by omega)])) dX6_countWay_33 ?_
        refine lv_iconst (v := 1) hx hb dX6_countWay_34 (by decide) ?_
        refine lv_iadd hx hb dX6_countWay_35 ?_
        refine lv_ishl hx hb dX6_countWay_36 ?_
        refine lv_ior hx hb dX6_countWay_37 ?_
        refine lv_topi (fun v_3 ev_3 => ?_)
        refine q_iast C hM (show qk 168 = 12 from by decide +kernel) (by rw [(show ql 168 = 6 from by decide +kernel)]; exact vp_nI (by omega) (by omega)) dX6_countWay_38 (fun H locs hM => ?_)
        rw [nIc (by omega)] at hM
        obtain ⟨A_4, eA_4⟩ : ∃ zz, zz = q2 A12 168 k v_3 := ⟨_, rfl⟩
        rw [← eA_4] at hM
        refine lv_iinc (v := nI (k + 1)) (lv' := [(2, .int (nI (k + 1))), (0, .ref (ad 164)), (1, .int (nI nP))]) hx hb dX6_countWay_39 hl (k := 0) rfl (by rw [nI_succ]; rfl) (by decide) rfl (fun ls hl => ?_)
        refine lv_goto (tgt := 12) hx hb dX6_countWay_42 (by decide) ?_
        exact ih12 (k + 1) A_4 (by omega) (by rw [eA_4, q2_row, hr]; exact qmap_s _ _ _ _ (by rw [ev_3, hr, qmap_at])) (by rw [eA_4]; exact qfr_up hf) (by omega) _ _ _ hM hl
  exact loop12 (nP - 0 + 1) 0 A (by omega) ((qmap_0 _ _).symm) (fun _ _ => rfl) (Nat.lt_succ_self _) _ _ _ hM hl

set_option maxHeartbeats 4000000 in
set_option maxRecDepth 100000 in
theorem c_X6_postToLookAt (E : qE) (ad : Nat → Nat) (l : Launch) (S A : qA2) (b : qB) (nP : Nat) (hPb : nP ≤ 6) : MI E ad l yX6_postToLookAt wsX6_postToLookAt { frames := 1, cells := 0, slots := 0, locals := 20 } [.ref (ad 164), .int (nI nP)] S A b (fun r S' A' b' => (S = S' ∧ A = A' ∧ b = b') ∧ r = (qlook (fun k => qbc (A 168 k)) nP).1) := by
  refine MI.of (cc := cX6_postToLookAt) (maxL := 6) (ret := some .int) RX6 rfl (by decide) rfl ?_
  intro pg e s m below meth cd C hM
  have hx := C.1
  have hb := C.2.1
  have hts := C.2.2.2.2.1
  have hA : ∀ q, s.heap.size ≤ q → qAr ad s.heap.size q := fun _ h => Or.inr h
  have hi6 : ∀ w ∈ u_ws RX6 TX6 8, w ∈ wsX6_postToLookAt := by decide +kernel
  have hL0 := hts (.fieldLink RX6 21 "CrowFences$Sits" "tenants" "[I") (by decide +kernel)
  have hl := lv_entry ([.ref (ad 164), .int (nI nP)]) (n := 6) (Nat.le_of_ble_eq_true rfl)
  rw [lg_entry_eq]
  generalize (lg_sl ([.ref (ad 164), .int (nI nP)]) ++ List.replicate (6 - (lg_sl ([.ref (ad 164), .int (nI nP)])).length) Slot.unset).toArray = ls at hl ⊢
  have hl : lv_has ls 6 [(0, .ref (ad 164)), (1, .int (nI nP))] := hl
  refine lv_iconst (v := (-1)) hx hb dX6_postToLookAt_0 (by decide) ?_
  refine lv_istore_n (lv' := [(2, .int (-1)), (0, .ref (ad 164)), (1, .int (nI nP))]) hx hb dX6_postToLookAt_1 rfl hl (by decide) rfl (fun ls hl => ?_)
  refine lv_iconst (v := 0) hx hb dX6_postToLookAt_2 (by decide) ?_
  refine lv_istore_n (lv' := [(3, .int 0), (2, .int (-1)), (0, .ref (ad 164)), (1, .int (nI nP))]) hx hb dX6_postToLookAt_3 rfl hl (by decide) rfl (fun ls hl => ?_)
  refine lv_iconst (v := 0) hx hb dX6_postToLookAt_4 (by decide) ?_
  refine lv_istore (lv' := [(4, .int 0), (3, .int 0), (2, .int (-1)), (0, .ref (ad 164)), (1, .int (nI nP))]) hx hb dX6_postToLookAt_5 hl (by decide) rfl (fun ls hl => ?_)
  have loop7 : ∀ (fu : Nat) (bs : Int32) (mo : Int32) (k : Nat) (hk : k ≤ nP) (ht : (bs, mo) = qlook (fun k => qbc (A 168 k)) k), nP - k < fu → ∀ (H : Heap) (locs : List Loc) (ls : Array Slot), qM E ad S A b (qAr ad s.heap.size) s H locs → lv_has ls 6 [(4, .int (nI k)), (3, .int mo), (2, .int bs), (0, .ref (ad 164)), (1, .int (nI nP))] → W pg l e (headSpec wsX6_postToLookAt { frames := 1, cells := 0, slots := 0, locals := 20 }).room s m ([.ref (ad 164), .int (nI nP)] : List Value).toArray below meth cd H locs 0 0 (MQ below (qQi E ad s.heap.size (fun r S' A' b' => (S = S' ∧ A = A' ∧ b = b') ∧ r = (qlook (fun k => qbc (A 168 k)) nP).1)) ([.ref (ad 164), .int (nI nP)] : List Value).toArray s 0 0 (qAr ad s.heap.size)) (F0 m 7 ls []) := by
    intro fu
    induction fu with
    | zero => intro bs mo k hk ht hn; exact absurd hn (Nat.not_lt_zero _)
    | succ fu ih7 =>
      intro bs mo k hk ht hn H locs ls hM hl
      refine lv_iload hx hb dX6_postToLookAt_7 (lv_at hl 0 rfl) ?_
      refine lv_iload_n hx hb dX6_postToLookAt_9 rfl (lv_at hl 4 rfl) ?_
      refine lv_icmp_ge (tgt := 43) hx hb dX6_postToLookAt_10 (by decide) (fun c_10 => ?_) (fun c_10 => ?_)
      · skip
        have c_10 : nP ≤ k := (nI_leI (a := nP) (b := k) (by omega) (by omega)).mp c_10
        refine lv_iload_n hx hb dX6_postToLookAt_43 rfl (lv_at hl 2 rfl) ?_
        exact q_iret C hM dX6_postToLookAt_44 (by exact ⟨⟨rfl, rfl, rfl⟩, (by have hz := congrArg Prod.fst ht; rw [show k = nP by omega] at hz; exact hz)⟩)
      · skip
        have c_10 : ¬ (nP ≤ k) := fun z => c_10 ((nI_leI (a := nP) (b := k) (by omega) (by omega)).mpr z)
        refine lv_aload_n hx hb dX6_postToLookAt_13 rfl (lv_at hl 3 rfl) ?_
        refine q_get (o := 164) (ci := 6) (k := 5) (T := TX6) (v := .ref (ad 168)) C hM (qmem_6 E ad S A b (show qk 164 = 6 from by decide +kernel)) (by decide) rfl hi6 (by decide) hL0 rfl rfl dX6_postToLookAt_14 ?_
        refine lv_iload hx hb dX6_postToLookAt_17 (lv_at hl 0 rfl) ?_
        refine q_iald (v := A 168 k) C hM (show qk 168 = 12 from by decide +kernel) (by rw [(show ql 168 = 6 from by decide +kernel)]; exact vp_nI (by omega) (by omega)) (by rw [nIc (by omega)]) dX6_postToLookAt_19 ?_
        refine q_callSI (n := 1) (As := [.int (A 168 k)]) (rest := []) C hM hA (c_J6_bitCount_0f7a4 E ad l S A b (A 168 k)) gX6_postToLookAt_J6_bitCount_0f7a4 rfl rfl rfl (by decide +kernel) ⟨Nat.le_of_ble_eq_true rfl, Nat.le_of_ble_eq_true rfl⟩ rfl hl.1 rfl (Nat.le_of_ble_eq_true rfl) ⟨Nat.zero_le _, Nat.zero_le _⟩ dX6_postToLookAt_20 (fun r_1 S_2 A_3 b_4 H locs qr_1 hM => ?_)
        obtain ⟨⟨e1, e2, e3⟩, er_1⟩ := qr_1
        subst e1; subst e2; subst e3
        refine lv_istore (lv' := [(5, .int r_1), (4, .int (nI k)), (3, .int mo), (2, .int bs), (0, .ref (ad 164)), (1, .int (nI nP))]) hx hb dX6_postToLookAt_23 hl (by decide) rfl (fun ls hl => ?_)
        refine lv_iload hx hb dX6_postToLookAt_25 (lv_at hl 0 rfl) ?_
        refine lv_iload_n hx hb dX6_postToLookAt_27 rfl (lv_at hl 2 rfl) ?_
        refine lv_icmp_le (tgt := 37) hx hb dX6_postToLookAt_28 (by decide) (fun c_28 => ?_) (fun c_28 => ?_)
        · skip
          refine lv_iinc (v := nI (k + 1)) (lv' := [(4, .int (nI (k + 1))), (5, .int r_1), (3, .int mo), (2, .int bs), (0, .ref (ad 164)), (1, .int (nI nP))]) hx hb dX6_postToLookAt_37 hl (k := 1) rfl (by rw [nI_succ]; rfl) (by decide) rfl (fun ls hl => ?_)
          refine lv_goto (tgt := 7) hx hb dX6_postToLookAt_40 (by decide) ?_
          exact ih7 bs mo (k + 1) (by omega) (by simp only [qlook, ← ht]; rw [if_neg (by rw [← er_1]; exact Int32.not_lt.mpr c_28)]) (by omega) _ _ _ hM (lv_sub hl [0, 2, 3, 4, 5] rfl)
        · skip
          refine lv_iload hx hb dX6_postToLookAt_31 (lv_at hl 0 rfl) ?_
          refine lv_istore_n (lv' := [(3, .int r_1), (5, .int r_1), (4, .int (nI k)), (2, .int bs), (0, .ref (ad 164)), (1, .int (nI nP))]) hx hb dX6_postToLookAt_33 rfl hl (by decide) rfl (fun ls hl => ?_)
          refine lv_iload hx hb dX6_postToLookAt_34 (lv_at hl 2 rfl) ?_
          refine lv_istore_n (lv' := [(2, .int (nI k)), (3, .int r_1), (5, .int r_1), (4, .int (nI k)), (0, .ref (ad 164)), (1, .int (nI nP))]) hx hb dX6_postToLookAt_36 rfl hl (by decide) rfl (fun ls hl => ?_)
          refine lv_iinc (v := nI (k + 1)) (lv' := [(4, .int (nI (k + 1))), (2, .int (nI k)), (3, .int r_1), (5, .int r_1), (0, .ref (ad 164)), (1, .int (nI nP))]) hx hb dX6_postToLookAt_37 hl (k := 3) rfl (by rw [nI_succ]; rfl) (by decide) rfl (fun ls hl => ?_)
          refine lv_goto (tgt := 7) hx hb dX6_postToLookAt_40 (by decide) ?_
          exact ih7 (nI k) r_1 (k + 1) (by omega) (by simp only [qlook, ← ht]; rw [if_pos (by rw [← er_1]; exact Int32.not_le.mp c_28), er_1]) (by omega) _ _ _ hM (lv_sub hl [0, 2, 1, 4, 5] rfl)
  exact loop7 (nP - 0 + 1) (-1) 0 0 (by omega) rfl (Nat.lt_succ_self _) _ _ _ hM hl
