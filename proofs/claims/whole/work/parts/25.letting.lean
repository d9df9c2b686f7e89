set_option maxHeartbeats 4000000 in
set_option maxRecDepth 100000 in
theorem c_J6_bitCount_0f7a4 (E : qE) (ad : Nat → Nat) (l : Launch) (S A : qA2) (b : qB) (a0 : Int32) : MI E ad l yJ6_bitCount_0f7a4 wsJ6_bitCount_0f7a4 { frames := 0, cells := 0, slots := 0, locals := 0 } [.int a0] S A b (fun r S' A' b' => (S = S' ∧ A = A' ∧ b = b') ∧ r = qbc a0) := by
  refine MI.of (cc := cJ6_bitCount_0f7a4) (maxL := 1) (ret := some .int) RJ6 rfl (by decide) rfl ?_
  intro pg e s m below meth cd C hM
  have hx := C.1
  have hb := C.2.1
  have hts := C.2.2.2.2.1
  have hA : ∀ q, s.heap.size ≤ q → qAr ad s.heap.size q := fun _ h => Or.inr h
  have hL0 := hts (.constant RJ6 265 (1431655765)) (by decide +kernel)
  have hL1 := hts (.constant RJ6 266 (858993459)) (by decide +kernel)
  have hL2 := hts (.constant RJ6 267 (252645135)) (by decide +kernel)
  have hl := lv_entry ([.int a0]) (n := 1) (Nat.le_of_ble_eq_true rfl)
  rw [lg_entry_eq]
  generalize (lg_sl ([.int a0]) ++ List.replicate (1 - (lg_sl ([.int a0])).length) Slot.unset).toArray = ls at hl ⊢
  have hl : lv_has ls 1 [(0, .int a0)] := hl
  refine lv_iload_n hx hb dJ6_bitCount_0f7a4_0 rfl (lv_at hl 0 rfl) ?_
  refine lv_iload_n hx hb dJ6_bitCount_0f7a4_1 rfl (lv_at hl 0 rfl) ?_
  refine lv_iconst (v := 1) hx hb dJ6_bitCount_0f7a4_2 (by decide) ?_
  refine lv_iushr (v := ((a0 : Int32).toUInt32 >>> ((1 : Int32).toUInt32 &&& Int32.toUInt32 31)).toInt32) hx hb dJ6_bitCount_0f7a4_3 rfl ?_
  refine lv_ldcw (v := 1431655765) hx hb C.2.2.2.1 hL0 dJ6_bitCount_0f7a4_4 ?_
  refine lv_iand hx hb dJ6_bitCount_0f7a4_7 ?_
  refine lv_isub hx hb dJ6_bitCount_0f7a4_8 ?_
  refine lv_topi (fun x0_1 ex0_1 => ?_)
  refine lv_istore_n (lv' := [(0, .int x0_1)]) hx hb dJ6_bitCount_0f7a4_9 rfl hl (by decide) rfl (fun ls hl => ?_)
  refine lv_iload_n hx hb dJ6_bitCount_0f7a4_10 rfl (lv_at hl 0 rfl) ?_
  refine lv_ldcw (v := 858993459) hx hb C.2.2.2.1 hL1 dJ6_bitCount_0f7a4_11 ?_
  refine lv_iand hx hb dJ6_bitCount_0f7a4_14 ?_
  refine lv_iload_n hx hb dJ6_bitCount_0f7a4_15 rfl (lv_at hl 0 rfl) ?_
  refine lv_iconst (v := 2) hx hb dJ6_bitCount_0f7a4_16 (by decide) ?_
  refine lv_iushr (v := ((x0_1 : Int32).toUInt32 >>> ((2 : Int32).toUInt32 &&& Int32.toUInt32 31)).toInt32) hx hb dJ6_bitCount_0f7a4_17 rfl ?_
  refine lv_ldcw (v := 858993459) hx hb C.2.2.2.1 hL1 dJ6_bitCount_0f7a4_18 ?_
  refine lv_iand hx hb dJ6_bitCount_0f7a4_21 ?_
  refine lv_iadd hx hb dJ6_bitCount_0f7a4_22 ?_
  refine lv_topi (fun x0_2 ex0_2 => ?_)
  refine lv_istore_n (lv' := [(0, .int x0_2)]) hx hb dJ6_bitCount_0f7a4_23 rfl hl (by decide) rfl (fun ls hl => ?_)
  refine lv_iload_n hx hb dJ6_bitCount_0f7a4_24 rfl (lv_at hl 0 rfl) ?_
  refine lv_iload_n hx hb dJ6_bitCount_0f7a4_25 rfl (lv_at hl 0 rfl) ?_
  refine lv_iconst (v := 4) hx hb dJ6_bitCount_0f7a4_26 (by decide) ?_
  refine lv_iushr (v := ((x0_2 : Int32).toUInt32 >>> ((4 : Int32).toUInt32 &&& Int32.toUInt32 31)).toInt32) hx hb dJ6_bitCount_0f7a4_27 rfl ?_
  refine lv_iadd hx hb dJ6_bitCount_0f7a4_28 ?_
  refine lv_ldcw (v := 252645135) hx hb C.2.2.2.1 hL2 dJ6_bitCount_0f7a4_29 ?_
  refine lv_iand hx hb dJ6_bitCount_0f7a4_32 ?_
  refine lv_topi (fun x0_3 ex0_3 => ?_)
  refine lv_istore_n (lv' := [(0, .int x0_3)]) hx hb dJ6_bitCount_0f7a4_33 rfl hl (by decide) rfl (fun ls hl => ?_)
  refine lv_iload_n hx hb dJ6_bitCount_0f7a4_34 rfl (lv_at hl 0 rfl) ?_
  refine lv_iload_n hx hb dJ6_bitCount_0f7a4_35 rfl (lv_at hl 0 rfl) ?_
  refine lv_bipush (v := 8) hx hb dJ6_bitCount_0f7a4_36 (by decide) ?_
  refine lv_iushr (v := ((x0_3 : Int32).toUInt32 >>> ((8 : Int32).toUInt32 &&& Int32.toUInt32 31)).toInt32) hx hb dJ6_bitCount_0f7a4_38 rfl ?_
  refine lv_iadd hx hb dJ6_bitCount_0f7a4_39 ?_
  refine lv_topi (fun x0_4 ex0_4 => ?_)
  refine lv_istore_n (lv' := [(0, .int x0_4)]) hx hb dJ6_bitCount_0f7a4_40 rfl hl (by decide) rfl (fun ls hl => ?_)
  refine lv_iload_n hx hb dJ6_bitCount_0f7a4_41 rfl (lv_at hl 0 rfl) ?_
  refine lv_iload_n hx hb dJ6_bitCount_0f7a4_42 rfl (lv_at hl 0 rfl) ?_
  refine lv_bipush (v := 16) hx hb dJ6_bitCount_0f7a4_43 (by decide) ?_
  refine lv_iushr (v := ((x0_4 : Int32).toUInt32 >>> ((16 : Int32).toUInt32 &&& Int32.toUInt32 31)).toInt32) hx hb dJ6_bitCount_0f7a4_45 rfl ?_
  refine lv_iadd hx hb dJ6_bitCount_0f7a4_46 ?_
  refine lv_topi (fun x0_5 ex0_5 => ?_)
  refine lv_istore_n (lv' := [(0, .int x0_5)]) hx hb dJ6_bitCount_0f7a4_47 rfl hl (by decide) rfl (fun ls hl => ?_)
  refine lv_iload_n hx hb dJ6_bitCount_0f7a4_48 rfl (lv_at hl 0 rfl) ?_
  refine lv_bipush (v := 63) hx hb dJ6_bitCount_0f7a4_49 (by decide) ?_
  refine lv_iand hx hb dJ6_bitCount_0f7a4_51 ?_
  exact q_iret C hM dJ6_bitCount_0f7a4_52 (by exact ⟨⟨rfl, rfl, rfl⟩, (by subst_vars; rfl)⟩)

set_option maxHeartbeats 4000000 in
set_option maxRecDepth 100000 in
theorem c_X3_forget (E : qE) (ad : Nat → Nat) (l : Launch) (S A : qA2) (b : qB) : MV E ad l yX3_forget wsX3_forget { frames := 0, cells := 0, slots := 0, locals := 0 } [.ref (ad 153)] S A b (fun S' A' b' => b = b' ∧ S' = q2 S 153 1 (-1) ∧ A' 154 = qmap (fun _ _ => -1) (A 154) 6 ∧ A' 155 = qmap (fun _ _ => 0) (A 155) 64 ∧ ∀ i, i ≠ 154 → i ≠ 155 → A' i = A i) := by
  refine MV.of (cc := cX3_forget) (maxL := 2) (ret := none) RX3 rfl (by decide) rfl ?_
  intro pg e s m below meth cd C hM
  have hx := C.1
  have hb := C.2.1
  have hts := C.2.2.2.2.1
  have hA : ∀ q, s.heap.size ≤ q → qAr ad s.heap.size q := fun _ h => Or.inr h
  have hi3 : ∀ w ∈ u_ws RX3 TX3 5, w ∈ wsX3_forget := by decide +kernel
  have hL0 := hts (.fieldLink RX3 47 "CrowFences$Letting" "mostSpoons" "I") (by decide +kernel)
  have hL1 := hts (.fieldLink RX3 15 "CrowFences$Letting" "known" "[I") (by decide +kernel)
  have hL2 := hts (.fieldLink RX3 9 "CrowFences$Letting" "crowOn" "[I") (by decide +kernel)
  have hl := lv_entry ([.ref (ad 153)]) (n := 2) (Nat.le_of_ble_eq_true rfl)
  rw [lg_entry_eq]
  generalize (lg_sl ([.ref (ad 153)]) ++ List.replicate (2 - (lg_sl ([.ref (ad 153)])).length) Slot.unset).toArray = ls at hl ⊢
  have hl : lv_has ls 2 [(0, .ref (ad 153))] := hl
  refine lv_aload_n hx hb dX3_forget_0 rfl (lv_at hl 0 rfl) ?_
  refine lv_iconst (v := (-1)) hx hb dX3_forget_1 (by decide) ?_
  refine q_put (o := 153) (ci := 3) (k := 1) (T := TX3) (ty := .int) (v := (-1)) C hM (qmem_3 E ad S A b (show qk 153 = 3 from by decide +kernel)) (by decide) rfl hi3 tyX3 tyX3_ok nmX3 (by decide) hL0 rfl rfl (by decide +kernel) rfl rfl (Nat.le_of_ble_eq_true rfl) (qs_3_1 E ad S A b (show qk 153 = 3 from by decide +kernel) (-1)) dX3_forget_2 (fun H locs hM => ?_)
  obtain ⟨S_1, eS_1⟩ : ∃ zz, zz = q2 S 153 1 (-1) := ⟨_, rfl⟩
  rw [← eS_1] at hM
  refine lv_iconst (v := 0) hx hb dX3_forget_5 (by decide) ?_
  refine lv_istore_n (lv' := [(1, .int 0), (0, .ref (ad 153))]) hx hb dX3_forget_6 rfl hl (by decide) rfl (fun ls hl => ?_)
  have loop7 : ∀ (fu : Nat) (k : Nat) (A7 : qA2) (hk : k ≤ 6) (hr : A7 154 = qmap (fun _ _ => -1) (A 154) k) (hf : ∀ i, i ≠ 154 → A7 i = A i), 6 - k < fu → ∀ (H : Heap) (locs : List Loc) (ls : Array Slot), qM E ad S_1 A7 b (qAr ad s.heap.size) s H locs → lv_has ls 2 [(1, .int (nI k)), (0, .ref (ad 153))] → W pg l e (headSpec wsX3_forget { frames := 0, cells := 0, slots := 0, locals := 0 }).room s m ([.ref (ad 153)] : List Value).toArray below meth cd H locs 0 0 (MQ below (qQv E ad s.heap.size (fun S' A' b' => b = b' ∧ S' = q2 S 153 1 (-1) ∧ A' 154 = qmap (fun _ _ => -1) (A 154) 6 ∧ A' 155 = qmap (fun _ _ => 0) (A 155) 64 ∧ ∀ i, i ≠ 154 → i ≠ 155 → A' i = A i)) ([.ref (ad 153)] : List Value).toArray s 0 0 (qAr ad s.heap.size)) (F0 m 7 ls []) := by
    intro fu
    induction fu with
    | zero => intro k A7 hk hr hf hn; exact absurd hn (Nat.not_lt_zero _)
    | succ fu ih7 =>
      intro k A7 hk hr hf hn H locs ls hM hl
      refine lv_iload_n hx hb dX3_forget_7 rfl (lv_at hl 0 rfl) ?_
      refine lv_bipush (v := 6) hx hb dX3_forget_8 (by decide) ?_
      refine lv_icmp_ge (tgt := 26) hx hb dX3_forget_10 (by decide) (fun c_10 => ?_) (fun c_10 => ?_)
      · skip
        have c_10 : 6 ≤ k := (nI_leI (a := 6) (b := k) (by omega) (by omega)).mp c_10
        refine lv_iconst (v := 0) hx hb dX3_forget_26 (by decide) ?_
        refine lv_istore_n (lv' := [(1, .int 0), (0, .ref (ad 153))]) hx hb dX3_forget_27 rfl hl (by decide) rfl (fun ls hl => ?_)
        have loop28 : ∀ (fu : Nat) (k2 : Nat) (A28 : qA2) (hk2 : k2 ≤ 64) (hr2 : A28 155 = qmap (fun _ _ => 0) (A7 155) k2) (hf2 : ∀ i, i ≠ 155 → A28 i = A7 i), 64 - k2 < fu → ∀ (H : Heap) (locs : List Loc) (ls : Array Slot), qM E ad S_1 A28 b (qAr ad s.heap.size) s H locs → lv_has ls 2 [(1, .int (nI k2)), (0, .ref (ad 153))] → W pg l e (headSpec wsX3_forget { frames := 0, cells := 0, slots := 0, locals := 0 }).room s m ([.ref (ad 153)] : List Value).toArray below meth cd H locs 0 0 (MQ below (qQv E ad s.heap.size (fun S' A' b' => b = b' ∧ S' = q2 S 153 1 (-1) ∧ A' 154 = qmap (fun _ _ => -1) (A 154) 6 ∧ A' 155 = qmap (fun _ _ => 0) (A 155) 64 ∧ ∀ i, i ≠ 154 → i ≠ 155 → A' i = A i)) ([.ref (ad 153)] : List Value).toArray s 0 0 (qAr ad s.heap.size)) (F0 m 28 ls []) := by
          intro fu
          induction fu with
          | zero => intro k2 A28 hk2 hr2 hf2 hn; exact absurd hn (Nat.not_lt_zero _)
          | succ fu ih28 =>
            intro k2 A28 hk2 hr2 hf2 hn H locs ls hM hl
            refine lv_iload_n hx hb dX3_forget_28 rfl (lv_at hl 0 rfl) ?_
            refine lv_bipush (v := 64) hx hb dX3_forget_29 (by decide) ?_
            refine lv_icmp_ge (tgt := 47) hx hb dX3_forget_31 (by decide) (fun c_31 => ?_) (fun c_31 => ?_)
            · skip
              have c_31 : 64 ≤ k2 := (nI_leI (a := 64) (b := k2) (by omega) (by omega)).mp c_31
              exact q_vret C hM dX3_forget_47 (by exact ⟨rfl, eS_1, by rw [hf2 154 (by omega), hr, show k = 6 by omega], by rw [hr2, show k2 = 64 by omega, hf 155 (by omega)], fun i h1 h2 => by rw [hf2 i h2, hf i h1]⟩)
            · skip
              have c_31 : ¬ (64 ≤ k2) := fun z => c_31 ((nI_leI (a := 64) (b := k2) (by omega) (by omega)).mpr z)
              refine lv_aload_n hx hb dX3_forget_34 rfl (lv_at hl 1 rfl) ?_
              refine q_get (o := 153) (ci := 3) (k := 2) (T := TX3) (v := .ref (ad 155)) C hM (qmem_3 E ad S_1 A28 b (show qk 153 = 3 from by decide +kernel)) (by decide) rfl hi3 (by decide) hL1 rfl rfl dX3_forget_35 ?_
              refine lv_iload_n hx hb dX3_forget_38 rfl (lv_at hl 0 rfl) ?_
              refine lv_iconst (v := 0) hx hb dX3_forget_39 (by decide) ?_
              refine q_iast C hM (show qk 155 = 12 from by decide +kernel) (by rw [(show ql 155 = 64 from by decide +kernel)]; exact vp_nI (by omega) (by omega)) dX3_forget_40 (fun H locs hM => ?_)
              rw [nIc (by omega)] at hM
              obtain ⟨A_2, eA_2⟩ : ∃ zz, zz = q2 A28 155 k2 0 := ⟨_, rfl⟩
              rw [← eA_2] at hM
              refine lv_iinc (v := nI (k2 + 1)) (lv' := [(1, .int (nI (k2 + 1))), (0, .ref (ad 153))]) hx hb dX3_forget_41 hl (k := 0) rfl (by rw [nI_succ]; rfl) (by decide) rfl (fun ls hl => ?_)
              refine lv_goto (tgt := 28) hx hb dX3_forget_44 (by decide) ?_
              exact ih28 (k2 + 1) A_2 (by omega) (by rw [eA_2, q2_row, hr2]; exact qmap_s _ _ _ _ rfl) (by rw [eA_2]; exact qfr_up hf2) (by omega) _ _ _ hM hl
        exact loop28 (64 - 0 + 1) 0 A7 (by omega) ((qmap_0 _ _).symm) (fun _ _ => rfl) (Nat.lt_succ_self _) _ _ _ hM hl
      · skip
        have c_10 : ¬ (6 ≤ k) := fun z => c_10 ((nI_leI (a := 6) (b := k) (by omega) (by omega)).mpr z)
        refine lv_aload_n hx hb dX3_forget_13 rfl (lv_at hl 1 rfl) ?_
        refine q_get (o := 153) (ci := 3) (k := 0) (T := TX3) (v := .ref (ad 154)) C hM (qmem_3 E ad S_1 A7 b (show qk 153 = 3 from by decide +kernel)) (by decide) rfl hi3 (by decide) hL2 rfl rfl dX3_forget_14 ?_
        refine lv_iload_n hx hb dX3_forget_17 rfl (lv_at hl 0 rfl) ?_
        refine lv_iconst (v := (-1)) hx hb dX3_forget_18 (by decide) ?_
        refine q_iast C hM (show qk 154 = 12 from by decide +kernel) (by rw [(show ql 154 = 6 from by decide +kernel)]; exact vp_nI (by omega) (by omega)) dX3_forget_19 (fun H locs hM => ?_)
        rw [nIc (by omega)] at hM
        obtain ⟨A_3, eA_3⟩ : ∃ zz, zz = q2 A7 154 k (-1) := ⟨_, rfl⟩
        rw [← eA_3] at hM
        refine lv_iinc (v := nI (k + 1)) (lv' := [(1, .int (nI (k + 1))), (0, .ref (ad 153))]) hx hb dX3_forget_20 hl (k := 0) rfl (by rw [nI_succ]; rfl) (by decide) rfl (fun ls hl => ?_)
        refine lv_goto (tgt := 7) hx hb dX3_forget_23 (by decide) ?_
        exact ih7 (k + 1) A_3 (by omega) (by rw [eA_3, q2_row, hr]; exact qmap_s _ _ _ _ rfl) (by rw [eA_3]; exact qfr_up hf) (by omega) _ _ _ hM hl
  exact loop7 (6 - 0 + 1) 0 A (by omega) ((qmap_0 _ _).symm) (fun _ _ => rfl) (Nat.lt_succ_self _) _ _ _ hM hl

set_option maxHeartbeats 4000000 in
set_option maxRecDepth 100000 in
theorem c_X3_spoonsOfWay (E : qE) (ad : Nat → Nat) (l : Launch) (S A : qA2) (b : qB) (p : Nat) (hp : qpl p) (nP : Nat) (hPo : S p 4 = nI nP) (hPb : nP ≤ 6) (hcr : ∀ q, q < nP → ¬ A 163 q = -1 → A 163 q = nI (A 163 q).toNatClampNeg ∧ (A 163 q).toNatClampNeg < 5) : MI E ad l yX3_spoonsOfWay wsX3_spoonsOfWay { frames := 1, cells := 0, slots := 0, locals := 23 } [.ref (ad 153), .ref (ad p), .ref (ad 3)] S A b (fun r S' A' b' => (S = S' ∧ A = A' ∧ b = b') ∧ r = qspoons (A 163) (A 7) (A (p + 4)) (A (p + 2)) nP) := by
  obtain ⟨⟨kp, kp1, kp2, kp3, kp4, kp5, kp6⟩, ⟨lp1, lp2, lp3, lp4, lp5, lp6⟩, bp, bp7⟩ := qpl_all hp
  refine MI.of (cc := cX3_spoonsOfWay) (maxL := 5) (ret := some .int) RX3 rfl (by decide) rfl ?_
  intro pg e s m below meth cd C hM
  have hx := C.1
  have hb := C.2.1
  have hts := C.2.2.2.2.1
  have hA : ∀ q, s.heap.size ≤ q → qAr ad s.heap.size q := fun _ h => Or.inr h
  have hi3 : ∀ w ∈ u_ws RX3 TX3 5, w ∈ wsX3_spoonsOfWay := by decide +kernel
  have hi5 : ∀ w ∈ u_ws RX5 TX5 13, w ∈ wsX3_spoonsOfWay := by decide +kernel
  have hi8 : ∀ w ∈ u_ws RX8 TX8 6, w ∈ wsX3_spoonsOfWay := by decide +kernel
  have hL0 := hts (.fieldLink RX3 59 "CrowFences$Plan" "posts" "I") (by decide +kernel)
  have hL1 := hts (.fieldLink RX3 28 "CrowFences$Letting" "ways" "LCrowFences$Ways;") (by decide +kernel)
  have hL2 := hts (.fieldLink RX3 58 "CrowFences$Ways" "crowOn" "[I") (by decide +kernel)
  have hl := lv_entry ([.ref (ad 153), .ref (ad p), .ref (ad 3)]) (n := 5) (Nat.le_of_ble_eq_true rfl)
  rw [lg_entry_eq]
  generalize (lg_sl ([.ref (ad 153), .ref (ad p), .ref (ad 3)]) ++ List.replicate (5 - (lg_sl ([.ref (ad 153), .ref (ad p), .ref (ad 3)])).length) Slot.unset).toArray = ls at hl ⊢
  have hl : lv_has ls 5 [(0, .ref (ad 153)), (1, .ref (ad p)), (2, .ref (ad 3))] := hl
  refine lv_iconst (v := 0) hx hb dX3_spoonsOfWay_0 (by decide) ?_
  refine lv_istore_n (lv' := [(3, .int 0), (0, .ref (ad 153)), (1, .ref (ad p)), (2, .ref (ad 3))]) hx hb dX3_spoonsOfWay_1 rfl hl (by decide) rfl (fun ls hl => ?_)
  refine lv_iconst (v := 0) hx hb dX3_spoonsOfWay_2 (by decide) ?_
  refine lv_istore (lv' := [(4, .int 0), (3, .int 0), (0, .ref (ad 153)), (1, .ref (ad p)), (2, .ref (ad 3))]) hx hb dX3_spoonsOfWay_3 hl (by decide) rfl (fun ls hl => ?_)
  have loop5 : ∀ (fu : Nat) (t : Int32) (k : Nat) (hk : k ≤ nP) (ht : t = qspoons (A 163) (A 7) (A (p + 4)) (A (p + 2)) k), nP - k < fu → ∀ (H : Heap) (locs : List Loc) (ls : Array Slot), qM E ad S A b (qAr ad s.heap.size) s H locs → lv_has ls 5 [(4, .int (nI k)), (3, .int t), (0, .ref (ad 153)), (1, .ref (ad p)), (2, .ref (ad 3))] → W pg l e (headSpec wsX3_spoonsOfWay { frames := 1, cells := 0, slots := 0, locals := 23 }).room s m ([.ref (ad 153), .ref (ad p), .ref (ad 3)] : List Value).toArray below meth cd H locs 0 0 (MQ below (qQi E ad s.heap.size (fun r S' A' b' => (S = S' ∧ A = A' ∧ b = b') ∧ r = qspoons (A 163) (A 7) (A (p + 4)) (A (p + 2)) nP)) ([.ref (ad 153), .ref (ad p), .ref (ad 3)] : List Value).toArray s 0 0 (qAr ad s.heap.size)) (F0 m 5 ls []) := by
    intro fu
    induction fu with
    | zero => intro t k hk ht hn; exact absurd hn (Nat.not_lt_zero _)
    | succ fu ih5 =>
      intro t k hk ht hn H locs ls hM hl
      refine lv_iload hx hb dX3_spoonsOfWay_5 (lv_at hl 0 rfl) ?_
      refine lv_aload_n hx hb dX3_spoonsOfWay_7 rfl (lv_at hl 3 rfl) ?_
      refine q_get (o := p) (ci := 5) (k := 4) (T := TX5) (v := .int (S p 4)) C hM (qmem_5 E ad S A b kp) (by omega) rfl hi5 (by decide) hL0 rfl rfl dX3_spoonsOfWay_8 ?_
      refine lv_as (y := nI nP) hPo ?_
      refine lv_icmp_ge (tgt := 54) hx hb dX3_spoonsOfWay_11 (by decide) (fun c_11 => ?_) (fun c_11 => ?_)
      · skip
        have c_11 : nP ≤ k := (nI_leI (a := nP) (b := k) (by omega) (by omega)).mp c_11
        refine lv_iload_n hx hb dX3_spoonsOfWay_54 rfl (lv_at hl 1 rfl) ?_
        exact q_iret C hM dX3_spoonsOfWay_55 (by exact ⟨⟨rfl, rfl, rfl⟩, (by rw [ht, show k = nP by omega])⟩)
      · skip
        have c_11 : ¬ (nP ≤ k) := fun z => c_11 ((nI_leI (a := nP) (b := k) (by omega) (by omega)).mpr z)
        refine lv_aload_n hx hb dX3_spoonsOfWay_14 rfl (lv_at hl 2 rfl) ?_
        refine q_get (o := 153) (ci := 3) (k := 4) (T := TX3) (v := .ref (ad 162)) C hM (qmem_3 E ad S A b (show qk 153 = 3 from by decide +kernel)) (by decide) rfl hi3 (by decide) hL1 rfl rfl dX3_spoonsOfWay_15 ?_
        refine q_get (o := 162) (ci := 8) (k := 0) (T := TX8) (v := .ref (ad 163)) C hM (qmem_8 E ad S A b (show qk 162 = 8 from by decide +kernel)) (by decide) rfl hi8 (by decide) hL2 rfl rfl dX3_spoonsOfWay_18 ?_
        refine lv_iload hx hb dX3_spoonsOfWay_21 (lv_at hl 0 rfl) ?_
        refine q_iald (v := A 163 k) C hM (show qk 163 = 12 from by decide +kernel) (by rw [(show ql 163 = 6 from by decide +kernel)]; exact vp_nI (by omega) (by omega)) (by rw [nIc (by omega)]) dX3_spoonsOfWay_23 ?_
        refine lv_iconst (v := (-1)) hx hb dX3_spoonsOfWay_24 (by decide) ?_
        refine lv_icmp_eq (tgt := 48) hx hb dX3_spoonsOfWay_25 (by decide) (fun c_25 => ?_) (fun c_25 => ?_)
        · skip
          refine lv_iinc (v := nI (k + 1)) (lv' := [(4, .int (nI (k + 1))), (3, .int t), (0, .ref (ad 153)), (1, .ref (ad p)), (2, .ref (ad 3))]) hx hb dX3_spoonsOfWay_48 hl (k := 0) rfl (by rw [nI_succ]; rfl) (by decide) rfl (fun ls hl => ?_)
          refine lv_goto (tgt := 5) hx hb dX3_spoonsOfWay_51 (by decide) ?_
          exact ih5 t (k + 1) (by omega) (by rw [ht]; simp only [qspoons, qsum]; rw [if_pos c_25, Int32.add_zero]) (by omega) _ _ _ hM hl
        · skip
          refine lv_iload_n hx hb dX3_spoonsOfWay_28 rfl (lv_at hl 1 rfl) ?_
          refine lv_aload_n hx hb dX3_spoonsOfWay_29 rfl (lv_at hl 4 rfl) ?_
          refine lv_aload_n hx hb dX3_spoonsOfWay_30 rfl (lv_at hl 3 rfl) ?_
          refine lv_iload hx hb dX3_spoonsOfWay_31 (lv_at hl 0 rfl) ?_
          refine lv_aload_n hx hb dX3_spoonsOfWay_33 rfl (lv_at hl 2 rfl) ?_
          refine q_get (o := 153) (ci := 3) (k := 4) (T := TX3) (v := .ref (ad 162)) C hM (qmem_3 E ad S A b (show qk 153 = 3 from by decide +kernel)) (by decide) rfl hi3 (by decide) hL1 rfl rfl dX3_spoonsOfWay_34 ?_
          refine q_get (o := 162) (ci := 8) (k := 0) (T := TX8) (v := .ref (ad 163)) C hM (qmem_8 E ad S A b (show qk 162 = 8 from by decide +kernel)) (by decide) rfl hi8 (by decide) hL2 rfl rfl dX3_spoonsOfWay_37 ?_
          refine lv_iload hx hb dX3_spoonsOfWay_40 (lv_at hl 0 rfl) ?_
          refine q_iald (v := A 163 k) C hM (show qk 163 = 12 from by decide +kernel) (by rw [(show ql 163 = 6 from by decide +kernel)]; exact vp_nI (by omega) (by omega)) (by rw [nIc (by omega)]) dX3_spoonsOfWay_42 ?_
          obtain ⟨hc1, hc2⟩ := hcr k (by omega) c_25
          refine lv_as (y := nI (A 163 k).toNatClampNeg) hc1 ?_
          refine q_callVI (n := 3) (o := 3) (As := [.ref (ad p), .int (nI k), .int (nI (A 163 k).toNatClampNeg)]) (rest := [.int t]) C hM hA (c_X9_worthOf E ad l S A b 3 (show 3 ∈ qwL from by decide +kernel) p hp k ((A 163 k).toNatClampNeg) (by omega) (by omega)) (qmem_9 E ad S A b (show qk 3 = 9 from by decide +kernel)) (by decide) rfl gX3_spoonsOfWay_X9_worthOf rfl rfl rfl (by decide +kernel) ⟨Nat.le_of_ble_eq_true rfl, Nat.le_of_ble_eq_true rfl⟩ rfl hl.1 rfl (Nat.le_of_ble_eq_true rfl) ⟨Nat.zero_le _, Nat.zero_le _⟩ dX3_spoonsOfWay_43 (fun r_1 S_2 A_3 b_4 H locs qr_1 hM => ?_)
          obtain ⟨⟨e1, e2, e3⟩, er_1⟩ := qr_1
          subst e1; subst e2; subst e3
          refine lv_iadd hx hb dX3_spoonsOfWay_46 ?_
          refine lv_topi (fun x3_5 ex3_5 => ?_)
          refine lv_istore_n (lv' := [(3, .int x3_5), (4, .int (nI k)), (0, .ref (ad 153)), (1, .ref (ad p)), (2, .ref (ad 3))]) hx hb dX3_spoonsOfWay_47 rfl hl (by decide) rfl (fun ls hl => ?_)
          refine lv_iinc (v := nI (k + 1)) (lv' := [(4, .int (nI (k + 1))), (3, .int x3_5), (0, .ref (ad 153)), (1, .ref (ad p)), (2, .ref (ad 3))]) hx hb dX3_spoonsOfWay_48 hl (k := 1) rfl (by rw [nI_succ]; rfl) (by decide) rfl (fun ls hl => ?_)
          refine lv_goto (tgt := 5) hx hb dX3_spoonsOfWay_51 (by decide) ?_
          exact ih5 x3_5 (k + 1) (by omega) (by rw [ex3_5, er_1, ht]; simp only [qspoons, qsum]; rw [if_neg c_25]) (by omega) _ _ _ hM hl
  exact loop5 (nP - 0 + 1) 0 0 (by omega) rfl (Nat.lt_succ_self _) _ _ _ hM hl

set_option maxHeartbeats 4000000 in
set_option maxRecDepth 100000 in
theorem c_X3_staysOpen (E : qE) (ad : Nat → Nat) (l : Launch) (S A : qA2) (b : qB) (p : Nat) (hp : qpl p) (a3 : Int32) (n : Nat) (hn40 : n ≤ 60) (nC : Nat) (hC : S p 0 = nI nC) (hCb : nC ≤ 12) (nP : Nat) (hPo : S p 4 = nI nP) (hPb : nP ≤ 6) (nW : Nat) (hWi : S p 6 = nI nW) (hWb : nW ≤ 10) (nH : Nat) (hH : S 3 6 = nI nH) (hHb : nH ≤ 90000) : MI E ad l yX3_staysOpen wsX3_staysOpen { frames := 3, cells := 0, slots := 0, locals := 79 } [.ref (ad 153), .ref (ad p), .ref (ad 3), .int a3, .int (nI n)] S A b (fun r S' A' b' => b = b' ∧ ((r = 1 ∧ qstay nC nP nW (S p 1) (S p 2) (S p 3) (A 5) (A (p + 5)) (A (p + 6)) a3 (A 4, qall nP, S 3 6) n) ∨ (r = 0 ∧ ¬ qstay nC nP nW (S p 1) (S p 2) (S p 3) (A 5) (A (p + 5)) (A (p + 6)) a3 (A 4, qall nP, S 3 6) n)) ∧ (∀ i, (i ≤ 156 ∨ 161 < i) → A' i = A i) ∧ (∀ i, i ≠ 156 → S' i = S i)) := by
  obtain ⟨⟨kp, kp1, kp2, kp3, kp4, kp5, kp6⟩, ⟨lp1, lp2, lp3, lp4, lp5, lp6⟩, bp, bp7⟩ := qpl_all hp
  refine MI.of (cc := cX3_staysOpen) (maxL := 7) (ret := some .boolean) RX3 rfl (by decide) rfl ?_
  intro pg e s m below meth cd C hM
  have hx := C.1
  have hb := C.2.1
  have hts := C.2.2.2.2.1
  have hA : ∀ q, s.heap.size ≤ q → qAr ad s.heap.size q := fun _ h => Or.inr h
  have hi3 : ∀ w ∈ u_ws RX3 TX3 5, w ∈ wsX3_staysOpen := by decide +kernel
  have hi9 : ∀ w ∈ u_ws RX9 TX9 8, w ∈ wsX3_staysOpen := by decide +kernel
  have hL0 := hts (.fieldLink RX3 21 "CrowFences$Letting" "trial" "LCrowFences$Winter;") (by decide +kernel)
  have hL1 := hts (.fieldLink RX3 94 "CrowFences$Winter" "standing" "I") (by decide +kernel)
  have hl := lv_entry ([.ref (ad 153), .ref (ad p), .ref (ad 3), .int a3, .int (nI n)]) (n := 7) (Nat.le_of_ble_eq_true rfl)
  rw [lg_entry_eq]
  generalize (lg_sl ([.ref (ad 153), .ref (ad p), .ref (ad 3), .int a3, .int (nI n)]) ++ List.replicate (7 - (lg_sl ([.ref (ad 153), .ref (ad p), .ref (ad 3), .int a3, .int (nI n)])).length) Slot.unset).toArray = ls at hl ⊢
  have hl : lv_has ls 7 [(0, .ref (ad 153)), (1, .ref (ad p)), (2, .ref (ad 3)), (3, .int a3), (4, .int (nI n))] := hl
  refine lv_aload_n hx hb dX3_staysOpen_0 rfl (lv_at hl 0 rfl) ?_
  refine q_get (o := 153) (ci := 3) (k := 3) (T := TX3) (v := .ref (ad 156)) C hM (qmem_3 E ad S A b (show qk 153 = 3 from by decide +kernel)) (by decide) rfl hi3 (by decide) hL0 rfl rfl dX3_staysOpen_1 ?_
  refine lv_aload_n hx hb dX3_staysOpen_4 rfl (lv_at hl 2 rfl) ?_
  refine q_callVV (n := 1) (o := 156) (As := [.ref (ad 3)]) (rest := []) C hM hA (c_X9_copyFrom E ad l S A b 156 (show 156 ∈ qwL from by decide +kernel) 3 (show 3 ∈ qwL from by decide +kernel) (by omega)) (qmem_9 E ad S A b (show qk 156 = 9 from by decide +kernel)) (by decide) rfl gX3_staysOpen_X9_copyFrom rfl rfl rfl (by decide +kernel) ⟨Nat.le_of_ble_eq_true rfl, Nat.le_of_ble_eq_true rfl⟩ rfl hl.1 rfl (Nat.le_of_ble_eq_true rfl) ⟨Nat.zero_le _, Nat.zero_le _⟩ dX3_staysOpen_5 (fun S_2 A_3 b_4 H locs qr_1 hM => ?_)
  obtain ⟨e3, hwA_3, hfA_3, hsS_2, hgS_2⟩ := qr_1
  subst e3
  simp only [Nat.add_assoc, Nat.reduceAdd] at hwA_3 hfA_3
  refine lv_aload_n hx hb dX3_staysOpen_8 rfl (lv_at hl 0 rfl) ?_
  refine q_get (o := 153) (ci := 3) (k := 3) (T := TX3) (v := .ref (ad 156)) C hM (qmem_3 E ad S_2 A_3 b (show qk 153 = 3 from by decide +kernel)) (by decide) rfl hi3 (by decide) hL0 rfl rfl dX3_staysOpen_9 ?_
  refine lv_aload_n hx hb dX3_staysOpen_12 rfl (lv_at hl 1 rfl) ?_
  refine q_callVI (n := 0) (o := p) (As := []) (rest := [.ref (ad 156)]) C hM hA (c_X5_allPosts E ad l S_2 A_3 b p hp nP ((show S_2 p 4 = S p 4 from by rw [hgS_2 p (by omega)]).trans hPo) (by omega)) (qmem_5 E ad S_2 A_3 b kp) (by omega) rfl gX3_staysOpen_X5_allPosts rfl rfl rfl (by decide +kernel) ⟨Nat.le_of_ble_eq_true rfl, Nat.le_of_ble_eq_true rfl⟩ rfl hl.1 rfl (Nat.le_of_ble_eq_true rfl) ⟨Nat.zero_le _, Nat.zero_le _⟩ dX3_staysOpen_13 (fun r_5 S_6 A_7 b_8 H locs qr_5 hM => ?_)
  obtain ⟨⟨e1, e2, e3⟩, er_5⟩ := qr_5
  subst e1; subst e2; subst e3
  refine q_put (o := 156) (ci := 9) (k := 5) (T := TX9) (ty := .int) (v := r_5) C hM (qmem_9 E ad S_2 A_3 b (show qk 156 = 9 from by decide +kernel)) (by decide) rfl hi9 tyX9 tyX9_ok nmX9 (by decide) hL1 rfl rfl (by decide +kernel) rfl rfl (Nat.le_of_ble_eq_true rfl) (qs_9_5 E ad S_2 A_3 b (show qk 156 = 9 from by decide +kernel) r_5) dX3_staysOpen_16 (fun H locs hM => ?_)
  obtain ⟨S_9, eS_9⟩ : ∃ zz, zz = q2 S_2 156 5 r_5 := ⟨_, rfl⟩
  rw [← eS_9] at hM
  refine lv_aload_n hx hb dX3_staysOpen_19 rfl (lv_at hl 0 rfl) ?_
  refine q_get (o := 153) (ci := 3) (k := 3) (T := TX3) (v := .ref (ad 156)) C hM (qmem_3 E ad S_9 A_3 b (show qk 153 = 3 from by decide +kernel)) (by decide) rfl hi3 (by decide) hL0 rfl rfl dX3_staysOpen_20 ?_
  refine lv_aload_n hx hb dX3_staysOpen_23 rfl (lv_at hl 1 rfl) ?_
  refine q_callVI (n := 1) (o := 156) (As := [.ref (ad p)]) (rest := []) C hM hA (c_X9_roadIsOpen E ad l S_9 A_3 b 156 (show 156 ∈ qwL from by decide +kernel) p hp nC ((show S_9 p 0 = S p 0 from by rw [eS_9, q2_o _ _ (by omega)]; rw [hgS_2 p (by omega)]).trans hC) (by omega)) (qmem_9 E ad S_9 A_3 b (show qk 156 = 9 from by decide +kernel)) (by decide) rfl gX3_staysOpen_X9_roadIsOpen rfl rfl rfl (by decide +kernel) ⟨Nat.le_of_ble_eq_true rfl, Nat.le_of_ble_eq_true rfl⟩ rfl hl.1 rfl (Nat.le_of_ble_eq_true rfl) ⟨Nat.zero_le _, Nat.zero_le _⟩ dX3_staysOpen_24 (fun r_10 S_11 A_12 b_13 H locs qr_10 hM => ?_)
  obtain ⟨⟨e1, e2, e3⟩, er_10⟩ := qr_10
  subst e1; subst e2; subst e3
  simp only [Nat.reduceAdd] at er_10
  rw [(show S_9 p 3 = S p 3 from by rw [eS_9, q2_o _ _ (by omega), hgS_2 p (by omega)]), (show S_9 p 2 = S p 2 from by rw [eS_9, q2_o _ _ (by omega), hgS_2 p (by omega)])] at er_10
  refine lv_istore (lv' := [(5, .int r_10), (0, .ref (ad 153)), (1, .ref (ad p)), (2, .ref (ad 3)), (3, .int a3), (4, .int (nI n))]) hx hb dX3_staysOpen_27 hl (by decide) rfl (fun ls hl => ?_)
  refine lv_iconst (v := 0) hx hb dX3_staysOpen_29 (by decide) ?_
  refine lv_istore (lv' := [(6, .int 0), (5, .int r_10), (0, .ref (ad 153)), (1, .ref (ad p)), (2, .ref (ad 3)), (3, .int a3), (4, .int (nI n))]) hx hb dX3_staysOpen_30 hl (by decide) rfl (fun ls hl => ?_)
  have loop32 : ∀ (fu : Nat) (x : Int32) (k : Nat) (S32 : qA2) (A32 : qA2) (hk : k ≤ n) (ht : (A32 157, S32 156 5, S32 156 6) = qpass nC nP nW (S p 1) (A_3 158) (A (p + 5)) (A (p + 6)) a3 (A_3 157, qall nP, S 3 6) k) (hx01 : x = 0 ∨ x = 1) (hx1 : ¬ x = 0 → ∀ j, j ≤ k → qopen (S p 3) (S p 2) (qpass nC nP nW (S p 1) (A_3 158) (A (p + 5)) (A (p + 6)) a3 (A_3 157, qall nP, S 3 6) j).1 nC = S p 3) (hx0 : x = 0 → ¬ qopen (S p 3) (S p 2) (qpass nC nP nW (S p 1) (A_3 158) (A (p + 5)) (A (p + 6)) a3 (A_3 157, qall nP, S 3 6) k).1 nC = S p 3) (hfA : ∀ i, i ≠ 157 → A32 i = A_3 i) (hfS : ∀ i j, (i ≠ 156 ∨ (j ≠ 5 ∧ j ≠ 6)) → S32 i j = S_9 i j) (hh : S32 156 6 = nI (nH + k)), n - k < fu → ∀ (H : Heap) (locs : List Loc) (ls : Array Slot), qM E ad S32 A32 b (qAr ad s.heap.size) s H locs → lv_has ls 7 [(6, .int (nI k)), (5, .int x), (0, .ref (ad 153)), (1, .ref (ad p)), (2, .ref (ad 3)), (3, .int a3), (4, .int (nI n))] → W pg l e (headSpec wsX3_staysOpen { frames := 3, cells := 0, slots := 0, locals := 79 }).room s m ([.ref (ad 153), .ref (ad p), .ref (ad 3), .int a3, .int (nI n)] : List Value).toArray below meth cd H locs 0 0 (MQ below (qQi E ad s.heap.size (fun r S' A' b' => b = b' ∧ ((r = 1 ∧ qstay nC nP nW (S p 1) (S p 2) (S p 3) (A 5) (A (p + 5)) (A (p + 6)) a3 (A 4, qall nP, S 3 6) n) ∨ (r = 0 ∧ ¬ qstay nC nP nW (S p 1) (S p 2) (S p 3) (A 5) (A (p + 5)) (A (p + 6)) a3 (A 4, qall nP, S 3 6) n)) ∧ (∀ i, (i ≤ 156 ∨ 161 < i) → A' i = A i) ∧ (∀ i, i ≠ 156 → S' i = S i))) ([.ref (ad 153), .ref (ad p), .ref (ad 3), .int a3, .int (nI n)] : List Value).toArray s 0 0 (qAr ad s.heap.size)) (F0 m 32 ls []) := by
    intro fu
    induction fu with
    | zero => intro x k S32 A32 hk ht hx01 hx1 hx0 hfA hfS hh hn; exact absurd hn (Nat.not_lt_zero _)
    | succ fu ih32 =>
      intro x k S32 A32 hk ht hx01 hx1 hx0 hfA hfS hh hn H locs ls hM hl
      refine lv_iload hx hb dX3_staysOpen_32 (lv_at hl 0 rfl) ?_
      refine lv_iload hx hb dX3_staysOpen_34 (lv_at hl 6 rfl) ?_
      refine lv_icmp_ge (tgt := 70) hx hb dX3_staysOpen_36 (by decide) (fun c_36 => ?_) (fun c_36 => ?_)
      · skip
        have c_36 : n ≤ k := (nI_leI (a := n) (b := k) (by omega) (by omega)).mp c_36
        refine lv_iload hx hb dX3_staysOpen_70 (lv_at hl 1 rfl) ?_
        exact q_zret C hM dX3_staysOpen_72 (nar01 hx01) (by exact ⟨rfl, (Decidable.em (x = 0)).elim (fun hz => Or.inr ⟨hz, fun hs => hx0 hz (((qstay_cong (fun a ha => hwA_3.1 a (by omega)) (fun a ha => hwA_3.2.1 a (by omega))).mpr hs) k (by omega))⟩) (fun hz => Or.inl ⟨hx01.resolve_left hz, (qstay_cong (fun a ha => hwA_3.1 a (by omega)) (fun a ha => hwA_3.2.1 a (by omega))).mp (fun j hj => hx1 hz j (by omega))⟩), fun i hi => (hfA i (by omega)).trans (hfA_3 i (by omega)), fun i hi => by funext j; rw [hfS i j (Or.inl hi), eS_9, q2_o _ _ hi, hgS_2 i hi]⟩)
      · skip
        have c_36 : ¬ (n ≤ k) := fun z => c_36 ((nI_leI (a := n) (b := k) (by omega) (by omega)).mpr z)
        refine lv_iload hx hb dX3_staysOpen_39 (lv_at hl 1 rfl) ?_
        refine lv_if_eq (tgt := 70) hx hb dX3_staysOpen_41 (by decide) (fun c_41 => ?_) (fun c_41 => ?_)
        · skip
          refine lv_iload hx hb dX3_staysOpen_70 (lv_at hl 1 rfl) ?_
          exact q_zret C hM dX3_staysOpen_72 (nar01 hx01) (by exact ⟨rfl, Or.inr ⟨c_41, fun hs => hx0 c_41 (((qstay_cong (fun a ha => hwA_3.1 a (by omega)) (fun a ha => hwA_3.2.1 a (by omega))).mpr hs) k (by omega))⟩, fun i hi => (hfA i (by omega)).trans (hfA_3 i (by omega)), fun i hi => by funext j; rw [hfS i j (Or.inl hi), eS_9, q2_o _ _ hi, hgS_2 i hi]⟩)
        · skip
          refine lv_aload_n hx hb dX3_staysOpen_44 rfl (lv_at hl 2 rfl) ?_
          refine q_get (o := 153) (ci := 3) (k := 3) (T := TX3) (v := .ref (ad 156)) C hM (qmem_3 E ad S32 A32 b (show qk 153 = 3 from by decide +kernel)) (by decide) rfl hi3 (by decide) hL0 rfl rfl dX3_staysOpen_45 ?_
          refine lv_aload_n hx hb dX3_staysOpen_48 rfl (lv_at hl 3 rfl) ?_
          refine lv_iconst (v := 1) hx hb dX3_staysOpen_49 (by decide) ?_
          refine lv_iload_n hx hb dX3_staysOpen_50 rfl (lv_at hl 5 rfl) ?_
          refine q_callVV (n := 3) (o := 156) (As := [.ref (ad p), .int 1, .int a3]) (rest := []) C hM hA (c_X9_passHours E ad l S32 A32 b 156 (show 156 ∈ qwL from by decide +kernel) p hp 1 a3 nC ((show S32 p 0 = S p 0 from by rw [hfS p 0 (by omega)]; rw [eS_9, q2_o _ _ (by omega)]; rw [hgS_2 p (by omega)]).trans hC) (by omega) nP ((show S32 p 4 = S p 4 from by rw [hfS p 4 (by omega)]; rw [eS_9, q2_o _ _ (by omega)]; rw [hgS_2 p (by omega)]).trans hPo) (by omega) nW ((show S32 p 6 = S p 6 from by rw [hfS p 6 (by omega)]; rw [eS_9, q2_o _ _ (by omega)]; rw [hgS_2 p (by omega)]).trans hWi) (by omega) (nH + k) hh (by omega) (by omega)) (qmem_9 E ad S32 A32 b (show qk 156 = 9 from by decide +kernel)) (by decide) rfl gX3_staysOpen_X9_passHours rfl rfl rfl (by decide +kernel) ⟨Nat.le_of_ble_eq_true rfl, Nat.le_of_ble_eq_true rfl⟩ rfl hl.1 rfl (Nat.le_of_ble_eq_true rfl) ⟨Nat.zero_le _, Nat.zero_le _⟩ dX3_staysOpen_51 (fun S_15 A_16 b_17 H locs qr_14 hM => ?_)
          obtain ⟨e3, htA_16, hfA_16, hgS_15⟩ := qr_14
          subst e3
          refine lv_aload_n hx hb dX3_staysOpen_54 rfl (lv_at hl 2 rfl) ?_
          refine q_get (o := 153) (ci := 3) (k := 3) (T := TX3) (v := .ref (ad 156)) C hM (qmem_3 E ad S_15 A_16 b (show qk 153 = 3 from by decide +kernel)) (by decide) rfl hi3 (by decide) hL0 rfl rfl dX3_staysOpen_55 ?_
          refine lv_aload_n hx hb dX3_staysOpen_58 rfl (lv_at hl 3 rfl) ?_
          refine q_callVI (n := 1) (o := 156) (As := [.ref (ad p)]) (rest := []) C hM hA (c_X9_roadIsOpen E ad l S_15 A_16 b 156 (show 156 ∈ qwL from by decide +kernel) p hp nC ((show S_15 p 0 = S p 0 from by rw [hgS_15 p 0 (by omega)]; rw [hfS p 0 (by omega)]; rw [eS_9, q2_o _ _ (by omega)]; rw [hgS_2 p (by omega)]).trans hC) (by omega)) (qmem_9 E ad S_15 A_16 b (show qk 156 = 9 from by decide +kernel)) (by decide) rfl gX3_staysOpen_X9_roadIsOpen rfl rfl rfl (by decide +kernel) ⟨Nat.le_of_ble_eq_true rfl, Nat.le_of_ble_eq_true rfl⟩ rfl hl.1 rfl (Nat.le_of_ble_eq_true rfl) ⟨Nat.zero_le _, Nat.zero_le _⟩ dX3_staysOpen_59 (fun r_18 S_19 A_20 b_21 H locs qr_18 hM => ?_)
          obtain ⟨⟨e1, e2, e3⟩, er_18⟩ := qr_18
          subst e1; subst e2; subst e3
          have ht59 : (A_16 157, S_15 156 5, S_15 156 6) = qpass nC nP nW (S p 1) (A_3 158) (A (p + 5)) (A (p + 6)) a3 (A_3 157, qall nP, S 3 6) (k + 1) := by rw [htA_16, ht, (show S32 p 1 = S p 1 from by rw [hfS p 1 (by omega), eS_9, q2_o _ _ (by omega), hgS_2 p (by omega)]), hfA 158 (by omega), (show A32 (p + 5) = A (p + 5) from by rw [hfA (p + 5) (by omega), hfA_3 (p + 5) (by omega)]), (show A32 (p + 6) = A (p + 6) from by rw [hfA (p + 6) (by omega), hfA_3 (p + 6) (by omega)])]; rfl
          simp only [Nat.reduceAdd] at er_18
          rw [(show S_15 p 3 = S p 3 from by rw [hgS_15 p 3 (by omega), hfS p 3 (by omega), eS_9, q2_o _ _ (by omega), hgS_2 p (by omega)]), (show S_15 p 2 = S p 2 from by rw [hgS_15 p 2 (by omega), hfS p 2 (by omega), eS_9, q2_o _ _ (by omega), hgS_2 p (by omega)])] at er_18
          rw [show A_16 157 = (qpass nC nP nW (S p 1) (A_3 158) (A (p + 5)) (A (p + 6)) a3 (A_3 157, qall nP, S 3 6) (k + 1)).1 from congrArg Prod.fst ht59] at er_18
          refine lv_istore (lv' := [(5, .int r_18), (6, .int (nI k)), (0, .ref (ad 153)), (1, .ref (ad p)), (2, .ref (ad 3)), (3, .int a3), (4, .int (nI n))]) hx hb dX3_staysOpen_62 hl (by decide) rfl (fun ls hl => ?_)
          refine lv_iinc (v := nI (k + 1)) (lv' := [(6, .int (nI (k + 1))), (5, .int r_18), (0, .ref (ad 153)), (1, .ref (ad p)), (2, .ref (ad 3)), (3, .int a3), (4, .int (nI n))]) hx hb dX3_staysOpen_64 hl (k := 1) rfl (by rw [nI_succ]; rfl) (by decide) rfl (fun ls hl => ?_)
          refine lv_goto (tgt := 32) hx hb dX3_staysOpen_67 (by decide) ?_
          exact ih32 r_18 (k + 1) S_15 A_16 (by omega) ht59 (by rw [er_18]; exact q01_01 _) (fun h j hj => by rw [er_18] at h; rcases Nat.lt_or_ge j (k + 1) with hz | hz; exact hx1 c_41 j (by omega); rw [show j = k + 1 by omega]; exact q01_ne0.mp h) (fun h => by rw [er_18] at h; exact q01_eq0.mp h) (fun i hi => (hfA_16 i hi).trans (hfA i hi)) (fun i j hij => (hgS_15 i j hij).trans (hfS i j hij)) (by have h1 : S_15 156 6 = (qpass nC nP nW (S p 1) (A_3 158) (A (p + 5)) (A (p + 6)) a3 (A_3 157, qall nP, S 3 6) k).2.2 + 1 := congrArg (fun z => z.2.2) ht59; have h2 : S32 156 6 = (qpass nC nP nW (S p 1) (A_3 158) (A (p + 5)) (A (p + 6)) a3 (A_3 157, qall nP, S 3 6) k).2.2 := congrArg (fun z => z.2.2) ht; rw [h1, ← h2, hh]; exact (nI_succ _).symm) (by omega) _ _ _ hM hl
  exact loop32 (n - 0 + 1) r_10 0 S_9 A_3 (by omega) (by rw [show S_9 156 5 = qall nP from by rw [eS_9, q2_s, er_5], show S_9 156 6 = S 3 6 from by rw [eS_9, q2_k _ _ (by omega), hsS_2.2.1]]; rfl) (by rw [er_10]; exact q01_01 _) (fun h j hj => by rw [er_10] at h; rw [show j = 0 by omega]; exact q01_ne0.mp h) (fun h => by rw [er_10] at h; exact q01_eq0.mp h) (fun _ _ => rfl) (fun _ _ _ => rfl) (by rw [eS_9, q2_k _ _ (by omega), hsS_2.2.1]; exact hH) (Nat.lt_succ_self _) _ _ _ hM hl

set_option maxHeartbeats 4000000 in
set_option maxRecDepth 100000 in
theorem c_X3_opensBy (E : qE) (ad : Nat → Nat) (l : Launch) (S A : qA2) (b : qB) (p : Nat) (hp : qpl p) (mm n : Nat) (hmm : mm < 64) (hn40 : n ≤ 60) (nC : Nat) (hC : S p 0 = nI nC) (hCb : nC ≤ 12) (nP : Nat) (hPo : S p 4 = nI nP) (hPb : nP ≤ 6) (nW : Nat) (hWi : S p 6 = nI nW) (hWb : nW ≤ 10) (nH : Nat) (hH : S 3 6 = nI nH) (hHb : nH ≤ 90000) (hme : qmemo (fun m2 => qstay nC nP nW (S p 1) (S p 2) (S p 3) (A 5) (A (p + 5)) (A (p + 6)) (nI m2) (A 4, qall nP, S 3 6) n) (A 155)) : MI E ad l yX3_opensBy wsX3_opensBy { frames := 4, cells := 0, slots := 0, locals := 105 } [.ref (ad 153), .ref (ad p), .ref (ad 3), .int (nI mm), .int (nI n)] S A b (fun r S' A' b' => b = b' ∧ ((r = 1 ∧ qstay nC nP nW (S p 1) (S p 2) (S p 3) (A 5) (A (p + 5)) (A (p + 6)) (nI mm) (A 4, qall nP, S 3 6) n) ∨ (r = 0 ∧ ¬ qstay nC nP nW (S p 1) (S p 2) (S p 3) (A 5) (A (p + 5)) (A (p + 6)) (nI mm) (A 4, qall nP, S 3 6) n)) ∧ qmemo (fun m2 => qstay nC nP nW (S p 1) (S p 2) (S p 3) (A 5) (A (p + 5)) (A (p + 6)) (nI m2) (A 4, qall nP, S 3 6) n) (A' 155) ∧ (∀ i, i ≠ 155 → (i ≤ 156 ∨ 161 < i) → A' i = A i) ∧ (∀ i, i ≠ 156 → S' i = S i)) := by
  obtain ⟨⟨kp, kp1, kp2, kp3, kp4, kp5, kp6⟩, ⟨lp1, lp2, lp3, lp4, lp5, lp6⟩, bp, bp7⟩ := qpl_all hp
  refine MI.of (cc := cX3_opensBy) (maxL := 5) (ret := some .boolean) RX3 rfl (by decide) rfl ?_
  intro pg e s m below meth cd C hM
  have hx := C.1
  have hb := C.2.1
  have hts := C.2.2.2.2.1
  have hA : ∀ q, s.heap.size ≤ q → qAr ad s.heap.size q := fun _ h => Or.inr h
  have hi3 : ∀ w ∈ u_ws RX3 TX3 5, w ∈ wsX3_opensBy := by decide +kernel
  have hL0 := hts (.fieldLink RX3 15 "CrowFences$Letting" "known" "[I") (by decide +kernel)
  have hl := lv_entry ([.ref (ad 153), .ref (ad p), .ref (ad 3), .int (nI mm), .int (nI n)]) (n := 5) (Nat.le_of_ble_eq_true rfl)
  rw [lg_entry_eq]
  generalize (lg_sl ([.ref (ad 153), .ref (ad p), .ref (ad 3), .int (nI mm), .int (nI n)]) ++ List.replicate (5 - (lg_sl ([.ref (ad 153), .ref (ad p), .ref (ad 3), .int (nI mm), .int (nI n)])).length) Slot.unset).toArray = ls at hl ⊢
  have hl : lv_has ls 5 [(0, .ref (ad 153)), (1, .ref (ad p)), (2, .ref (ad 3)), (3, .int (nI mm)), (4, .int (nI n))] := hl
  refine lv_aload_n hx hb dX3_opensBy_0 rfl (lv_at hl 0 rfl) ?_
  refine q_get (o := 153) (ci := 3) (k := 2) (T := TX3) (v := .ref (ad 155)) C hM (qmem_3 E ad S A b (show qk 153 = 3 from by decide +kernel)) (by decide) rfl hi3 (by decide) hL0 rfl rfl dX3_opensBy_1 ?_
  refine lv_iload_n hx hb dX3_opensBy_4 rfl (lv_at hl 3 rfl) ?_
  refine q_iald (v := A 155 mm) C hM (show qk 155 = 12 from by decide +kernel) (by rw [(show ql 155 = 64 from by decide +kernel)]; exact vp_nI (by omega) (by omega)) (by rw [nIc (by omega)]) dX3_opensBy_5 ?_
  refine lv_if_ne (tgt := 32) hx hb dX3_opensBy_6 (by decide) (fun c_6 => ?_) (fun c_6 => ?_)
  · skip
    refine lv_aload_n hx hb dX3_opensBy_32 rfl (lv_at hl 0 rfl) ?_
    refine q_get (o := 153) (ci := 3) (k := 2) (T := TX3) (v := .ref (ad 155)) C hM (qmem_3 E ad S A b (show qk 153 = 3 from by decide +kernel)) (by decide) rfl hi3 (by decide) hL0 rfl rfl dX3_opensBy_33 ?_
    refine lv_iload_n hx hb dX3_opensBy_36 rfl (lv_at hl 3 rfl) ?_
    refine q_iald (v := A 155 mm) C hM (show qk 155 = 12 from by decide +kernel) (by rw [(show ql 155 = 64 from by decide +kernel)]; exact vp_nI (by omega) (by omega)) (by rw [nIc (by omega)]) dX3_opensBy_37 ?_
    refine lv_iconst (v := 1) hx hb dX3_opensBy_38 (by decide) ?_
    refine lv_icmp_ne (tgt := 46) hx hb dX3_opensBy_39 (by decide) (fun c_39 => ?_) (fun c_39 => ?_)
    · skip
      refine lv_iconst (v := 0) hx hb dX3_opensBy_46 (by decide) ?_
      exact q_zret C hM dX3_opensBy_47 rfl (by exact ⟨rfl, Or.inr ⟨rfl, ((hme mm hmm).resolve_left c_6).elim (fun z => absurd z.1 c_39) (fun z => z.2)⟩, hme, fun _ _ _ => rfl, fun _ _ => rfl⟩)
    · skip
      refine lv_iconst (v := 1) hx hb dX3_opensBy_42 (by decide) ?_
      refine lv_goto (tgt := 47) hx hb dX3_opensBy_43 (by decide) ?_
      exact q_zret C hM dX3_opensBy_47 rfl (by exact ⟨rfl, Or.inl ⟨rfl, ((hme mm hmm).resolve_left c_6).elim (fun z => z.2) (fun z => absurd (z.1.symm.trans c_39) (by decide))⟩, hme, fun _ _ _ => rfl, fun _ _ => rfl⟩)
  · skip
    refine lv_aload_n hx hb dX3_opensBy_9 rfl (lv_at hl 0 rfl) ?_
    refine q_get (o := 153) (ci := 3) (k := 2) (T := TX3) (v := .ref (ad 155)) C hM (qmem_3 E ad S A b (show qk 153 = 3 from by decide +kernel)) (by decide) rfl hi3 (by decide) hL0 rfl rfl dX3_opensBy_10 ?_
    refine lv_iload_n hx hb dX3_opensBy_13 rfl (lv_at hl 3 rfl) ?_
    refine lv_aload_n hx hb dX3_opensBy_14 rfl (lv_at hl 0 rfl) ?_
    refine lv_aload_n hx hb dX3_opensBy_15 rfl (lv_at hl 1 rfl) ?_
    refine lv_aload_n hx hb dX3_opensBy_16 rfl (lv_at hl 2 rfl) ?_
    refine lv_iload_n hx hb dX3_opensBy_17 rfl (lv_at hl 3 rfl) ?_
    refine lv_iload hx hb dX3_opensBy_18 (lv_at hl 4 rfl) ?_
    refine q_callVI (n := 4) (o := 153) (As := [.ref (ad p), .ref (ad 3), .int (nI mm), .int (nI n)]) (rest := [.int (nI mm), .ref (ad 155)]) C hM hA (c_X3_staysOpen E ad l S A b p hp (nI mm) n (by omega) nC hC (by omega) nP hPo (by omega) nW hWi (by omega) nH hH (by omega)) (qmem_3 E ad S A b (show qk 153 = 3 from by decide +kernel)) (by decide) rfl gX3_opensBy_X3_staysOpen rfl rfl rfl (by decide +kernel) ⟨Nat.le_of_ble_eq_true rfl, Nat.le_of_ble_eq_true rfl⟩ rfl hl.1 rfl (Nat.le_of_ble_eq_true rfl) ⟨Nat.zero_le _, Nat.zero_le _⟩ dX3_opensBy_20 (fun r_1 S_2 A_3 b_4 H locs qr_1 hM => ?_)
    obtain ⟨e3, hr_1, hfA_3, hgS_2⟩ := qr_1
    subst e3
    refine lv_if_eq (tgt := 30) hx hb dX3_opensBy_23 (by decide) (fun c_23 => ?_) (fun c_23 => ?_)
    · skip
      refine lv_iconst (v := 2) hx hb dX3_opensBy_30 (by decide) ?_
      refine q_iast C hM (show qk 155 = 12 from by decide +kernel) (by rw [(show ql 155 = 64 from by decide +kernel)]; exact vp_nI (by omega) (by omega)) dX3_opensBy_31 (fun H locs hM => ?_)
      rw [nIc (by omega)] at hM
      obtain ⟨A_5, eA_5⟩ : ∃ zz, zz = q2 A_3 155 mm 2 := ⟨_, rfl⟩
      rw [← eA_5] at hM
      refine lv_aload_n hx hb dX3_opensBy_32 rfl (lv_at hl 0 rfl) ?_
      refine q_get (o := 153) (ci := 3) (k := 2) (T := TX3) (v := .ref (ad 155)) C hM (qmem_3 E ad S_2 A_5 b (show qk 153 = 3 from by decide +kernel)) (by decide) rfl hi3 (by decide) hL0 rfl rfl dX3_opensBy_33 ?_
      refine lv_iload_n hx hb dX3_opensBy_36 rfl (lv_at hl 3 rfl) ?_
      refine q_iald (v := 2) C hM (show qk 155 = 12 from by decide +kernel) (by rw [(show ql 155 = 64 from by decide +kernel)]; exact vp_nI (by omega) (by omega)) (by rw [nIc (by omega)]; exact (show A_5 155 mm = 2 from by rw [eA_5]; exact q2_s _ _ _ _)) dX3_opensBy_37 ?_
      refine lv_iconst (v := 1) hx hb dX3_opensBy_38 (by decide) ?_
      refine lv_icmp_ne (tgt := 46) hx hb dX3_opensBy_39 (by decide) (fun c_39 => ?_) (fun c_39 => ?_)
      · skip
        have c_39 : ¬ (2 = 1) := fun z => c_39 ((nI_eq (a := 2) (b := 1) (by omega) (by omega)).mpr z)
        refine lv_iconst (v := 0) hx hb dX3_opensBy_46 (by decide) ?_
        exact q_zret C hM dX3_opensBy_47 rfl (by have hno := hr_1.elim (fun z => absurd (c_23.symm.trans z.1) (by decide)) (fun z => z.2); exact ⟨rfl, Or.inr ⟨rfl, hno⟩, by rw [eA_5, q2_row, hfA_3 155 (by omega)]; exact qmemo_up (Op := (fun m2 => qstay nC nP nW (S p 1) (S p 2) (S p 3) (A 5) (A (p + 5)) (A (p + 6)) (nI m2) (A 4, qall nP, S 3 6) n)) hme (Or.inr ⟨rfl, hno⟩), fun i h1 h2 => by rw [eA_5, q2_or _ _ h1, hfA_3 i h2], hgS_2⟩)
      · skip
        have c_39 : 2 = 1 := (nI_eq (a := 2) (b := 1) (by omega) (by omega)).mp c_39
        refine lv_iconst (v := 1) hx hb dX3_opensBy_42 (by decide) ?_
        refine lv_goto (tgt := 47) hx hb dX3_opensBy_43 (by decide) ?_
        exact q_zret C hM dX3_opensBy_47 rfl (by exact absurd c_39 (by decide))
    · skip
      refine lv_iconst (v := 1) hx hb dX3_opensBy_26 (by decide) ?_
      refine lv_goto (tgt := 31) hx hb dX3_opensBy_27 (by decide) ?_
      refine q_iast C hM (show qk 155 = 12 from by decide +kernel) (by rw [(show ql 155 = 64 from by decide +kernel)]; exact vp_nI (by omega) (by omega)) dX3_opensBy_31 (fun H locs hM => ?_)
      rw [nIc (by omega)] at hM
      obtain ⟨A_6, eA_6⟩ : ∃ zz, zz = q2 A_3 155 mm 1 := ⟨_, rfl⟩
      rw [← eA_6] at hM
      refine lv_aload_n hx hb dX3_opensBy_32 rfl (lv_at hl 0 rfl) ?_
      refine q_get (o := 153) (ci := 3) (k := 2) (T := TX3) (v := .ref (ad 155)) C hM (qmem_3 E ad S_2 A_6 b (show qk 153 = 3 from by decide +kernel)) (by decide) rfl hi3 (by decide) hL0 rfl rfl dX3_opensBy_33 ?_
      refine lv_iload_n hx hb dX3_opensBy_36 rfl (lv_at hl 3 rfl) ?_
      refine q_iald (v := 1) C hM (show qk 155 = 12 from by decide +kernel) (by rw [(show ql 155 = 64 from by decide +kernel)]; exact vp_nI (by omega) (by omega)) (by rw [nIc (by omega)]; exact (show A_6 155 mm = 1 from by rw [eA_6]; exact q2_s _ _ _ _)) dX3_opensBy_37 ?_
      refine lv_iconst (v := 1) hx hb dX3_opensBy_38 (by decide) ?_
      refine lv_icmp_ne (tgt := 46) hx hb dX3_opensBy_39 (by decide) (fun c_39 => ?_) (fun c_39 => ?_)
      · skip
        have c_39 : ¬ (1 = 1) := fun z => c_39 ((nI_eq (a := 1) (b := 1) (by omega) (by omega)).mpr z)
        refine lv_iconst (v := 0) hx hb dX3_opensBy_46 (by decide) ?_
        exact q_zret C hM dX3_opensBy_47 rfl (by exact absurd c_39 (by decide))
      · skip
        have c_39 : 1 = 1 := (nI_eq (a := 1) (b := 1) (by omega) (by omega)).mp c_39
        refine lv_iconst (v := 1) hx hb dX3_opensBy_42 (by decide) ?_
        refine lv_goto (tgt := 47) hx hb dX3_opensBy_43 (by decide) ?_
        exact q_zret C hM dX3_opensBy_47 rfl (by have hno := hr_1.elim (fun z => z.2) (fun z => absurd z.1 c_23); exact ⟨rfl, Or.inl ⟨rfl, hno⟩, by rw [eA_6, q2_row, hfA_3 155 (by omega)]; exact qmemo_up (Op := (fun m2 => qstay nC nP nW (S p 1) (S p 2) (S p 3) (A 5) (A (p + 5)) (A (p + 6)) (nI m2) (A 4, qall nP, S 3 6) n)) hme (Or.inl ⟨rfl, hno⟩), fun i h1 h2 => by rw [eA_6, q2_or _ _ h1, hfA_3 i h2], hgS_2⟩)

set_option maxHeartbeats 4000000 in
set_option maxRecDepth 100000 in
theorem c_X3_fewestPosts (E : qE) (ad : Nat → Nat) (l : Launch) (S A : qA2) (b : qB) (p : Nat) (hp : qpl p) (n : Nat) (hn40 : n ≤ 60) (nC : Nat) (hC : S p 0 = nI nC) (hCb : nC ≤ 12) (nP : Nat) (hPo : S p 4 = nI nP) (hPb : nP ≤ 6) (nW : Nat) (hWi : S p 6 = nI nW) (hWb : nW ≤ 10) (nH : Nat) (hH : S 3 6 = nI nH) (hHb : nH ≤ 90000) : MI E ad l yX3_fewestPosts wsX3_fewestPosts { frames := 4, cells := 0, slots := 0, locals := 105 } [.ref (ad 153), .ref (ad p), .ref (ad 3), .int (nI n)] S A b (fun r S' A' b' => b = b' ∧ ((r = -1 ∧ ∀ m2, m2 < 2 ^ nP → ¬ qstay nC nP nW (S p 1) (S p 2) (S p 3) (A 5) (A (p + 5)) (A (p + 6)) (nI m2) (A 4, qall nP, S 3 6) n) ∨ (∃ k, k < 2 ^ nP ∧ r = nI k ∧ qstay nC nP nW (S p 1) (S p 2) (S p 3) (A 5) (A (p + 5)) (A (p + 6)) (nI k) (A 4, qall nP, S 3 6) n ∧ ∀ m2, m2 < 2 ^ nP → qstay nC nP nW (S p 1) (S p 2) (S p 3) (A 5) (A (p + 5)) (A (p + 6)) (nI m2) (A 4, qall nP, S 3 6) n → qbcn k < qbcn m2 ∨ (qbcn k = qbcn m2 ∧ k ≤ m2))) ∧ (∀ i, (i ≤ 156 ∨ 161 < i) → A' i = A i) ∧ (∀ i, i ≠ 156 → S' i = S i)) := by
  obtain ⟨⟨kp, kp1, kp2, kp3, kp4, kp5, kp6⟩, ⟨lp1, lp2, lp3, lp4, lp5, lp6⟩, bp, bp7⟩ := qpl_all hp
  obtain ⟨N, hN⟩ : ∃ N, N = 2 ^ nP := ⟨_, rfl⟩
  have hN2 := q2p hPb
  rw [← hN] at hN2
  refine MI.of (cc := cX3_fewestPosts) (maxL := 6) (ret := some .int) RX3 rfl (by decide) rfl ?_
  intro pg e s m below meth cd C hM
  have hx := C.1
  have hb := C.2.1
  have hts := C.2.2.2.2.1
  have hA : ∀ q, s.heap.size ≤ q → qAr ad s.heap.size q := fun _ h => Or.inr h
  have hi5 : ∀ w ∈ u_ws RX5 TX5 13, w ∈ wsX3_fewestPosts := by decide +kernel
  have hL0 := hts (.fieldLink RX3 59 "CrowFences$Plan" "posts" "I") (by decide +kernel)
  have hl := lv_entry ([.ref (ad 153), .ref (ad p), .ref (ad 3), .int (nI n)]) (n := 6) (Nat.le_of_ble_eq_true rfl)
  rw [lg_entry_eq]
  generalize (lg_sl ([.ref (ad 153), .ref (ad p), .ref (ad 3), .int (nI n)]) ++ List.replicate (6 - (lg_sl ([.ref (ad 153), .ref (ad p), .ref (ad 3), .int (nI n)])).length) Slot.unset).toArray = ls at hl ⊢
  have hl : lv_has ls 6 [(0, .ref (ad 153)), (1, .ref (ad p)), (2, .ref (ad 3)), (3, .int (nI n))] := hl
  refine lv_iconst (v := 0) hx hb dX3_fewestPosts_0 (by decide) ?_
  refine lv_istore (lv' := [(4, .int 0), (0, .ref (ad 153)), (1, .ref (ad p)), (2, .ref (ad 3)), (3, .int (nI n))]) hx hb dX3_fewestPosts_1 hl (by decide) rfl (fun ls hl => ?_)
  have loop3 : ∀ (fu : Nat) (siz : Nat) (S3 : qA2) (A3 : qA2) (hsz : siz ≤ nP + 1) (hmin : ∀ m2, m2 < N → qstay nC nP nW (S p 1) (S p 2) (S p 3) (A 5) (A (p + 5)) (A (p + 6)) (nI m2) (A 4, qall nP, S 3 6) n → siz ≤ qbcn m2) (hfA : ∀ i, (i ≤ 156 ∨ 161 < i) → A3 i = A i) (hfS : ∀ i, i ≠ 156 → S3 i = S i), nP + 1 - siz < fu → ∀ (H : Heap) (locs : List Loc) (ls : Array Slot), qM E ad S3 A3 b (qAr ad s.heap.size) s H locs → lv_has ls 6 [(4, .int (nI siz)), (0, .ref (ad 153)), (1, .ref (ad p)), (2, .ref (ad 3)), (3, .int (nI n))] → W pg l e (headSpec wsX3_fewestPosts { frames := 4, cells := 0, slots := 0, locals := 105 }).room s m ([.ref (ad 153), .ref (ad p), .ref (ad 3), .int (nI n)] : List Value).toArray below meth cd H locs 0 0 (MQ below (qQi E ad s.heap.size (fun r S' A' b' => b = b' ∧ ((r = -1 ∧ ∀ m2, m2 < 2 ^ nP → ¬ qstay nC nP nW (S p 1) (S p 2) (S p 3) (A 5) (A (p + 5)) (A (p + 6)) (nI m2) (A 4, qall nP, S 3 6) n) ∨ (∃ k, k < 2 ^ nP ∧ r = nI k ∧ qstay nC nP nW (S p 1) (S p 2) (S p 3) (A 5) (A (p + 5)) (A (p + 6)) (nI k) (A 4, qall nP, S 3 6) n ∧ ∀ m2, m2 < 2 ^ nP → qstay nC nP nW (S p 1) (S p 2) (S p 3) (A 5) (A (p + 5)) (A (p + 6)) (nI m2) (A 4, qall nP, S 3 6) n → qbcn k < qbcn m2 ∨ (qbcn k = qbcn m2 ∧ k ≤ m2))) ∧ (∀ i, (i ≤ 156 ∨ 161 < i) → A' i = A i) ∧ (∀ i, i ≠ 156 → S' i = S i))) ([.ref (ad 153), .ref (ad p), .ref (ad 3), .int (nI n)] : List Value).toArray s 0 0 (qAr ad s.heap.size)) (F0 m 3 ls []) := by
    intro fu
    induction fu with
    | zero => intro siz S3 A3 hsz hmin hfA hfS hn; exact absurd hn (Nat.not_lt_zero _)
    | succ fu ih3 =>
      intro siz S3 A3 hsz hmin hfA hfS hn H locs ls hM hl
      refine lv_iload hx hb dX3_fewestPosts_3 (lv_at hl 0 rfl) ?_
      refine lv_aload_n hx hb dX3_fewestPosts_5 rfl (lv_at hl 2 rfl) ?_
      refine q_get (o := p) (ci := 5) (k := 4) (T := TX5) (v := .int (S p 4)) C hM (qmem_5 E ad S3 A3 b kp) (by omega) rfl hi5 (by decide) hL0 rfl (congrArg (fun z => some (Value.int z)) (show S3 p 4 = S p 4 from by rw [hfS p (by omega)])) dX3_fewestPosts_6 ?_
      refine lv_as (y := nI nP) hPo ?_
      refine lv_icmp_gt (tgt := 61) hx hb dX3_fewestPosts_9 (by decide) (fun c_9 => ?_) (fun c_9 => ?_)
      · skip
        have c_9 : nP < siz := (nI_ltI (a := nP) (b := siz) (by omega) (by omega)).mp c_9
        refine lv_iconst (v := (-1)) hx hb dX3_fewestPosts_61 (by decide) ?_
        exact q_iret C hM dX3_fewestPosts_62 (by exact ⟨rfl, Or.inl ⟨rfl, fun m2 h1 h2 => by have h3 := hmin m2 (by omega) h2; have h4 := qbcn_le hPb h1; omega⟩, hfA, hfS⟩)
      · skip
        have c_9 : ¬ (nP < siz) := fun z => c_9 ((nI_ltI (a := nP) (b := siz) (by omega) (by omega)).mpr z)
        refine lv_iconst (v := 0) hx hb dX3_fewestPosts_12 (by decide) ?_
        refine lv_istore (lv' := [(5, .int 0), (4, .int (nI siz)), (0, .ref (ad 153)), (1, .ref (ad p)), (2, .ref (ad 3)), (3, .int (nI n))]) hx hb dX3_fewestPosts_13 hl (by decide) rfl (fun ls hl => ?_)
        have loop15 : ∀ (fu : Nat) (k : Nat) (S15 : qA2) (A15 : qA2) (hk : k ≤ N) (hin : ∀ m2, m2 < k → qbcn m2 = siz → ¬ qstay nC nP nW (S p 1) (S p 2) (S p 3) (A 5) (A (p + 5)) (A (p + 6)) (nI m2) (A 4, qall nP, S 3 6) n) (hfA15 : ∀ i, (i ≤ 156 ∨ 161 < i) → A15 i = A i) (hfS15 : ∀ i, i ≠ 156 → S15 i = S i), N - k < fu → ∀ (H : Heap) (locs : List Loc) (ls : Array Slot), qM E ad S15 A15 b (qAr ad s.heap.size) s H locs → lv_has ls 6 [(5, .int (nI k)), (4, .int (nI siz)), (0, .ref (ad 153)), (1, .ref (ad p)), (2, .ref (ad 3)), (3, .int (nI n))] → W pg l e (headSpec wsX3_fewestPosts { frames := 4, cells := 0, slots := 0, locals := 105 }).room s m ([.ref (ad 153), .ref (ad p), .ref (ad 3), .int (nI n)] : List Value).toArray below meth cd H locs 0 0 (MQ below (qQi E ad s.heap.size (fun r S' A' b' => b = b' ∧ ((r = -1 ∧ ∀ m2, m2 < 2 ^ nP → ¬ qstay nC nP nW (S p 1) (S p 2) (S p 3) (A 5) (A (p + 5)) (A (p + 6)) (nI m2) (A 4, qall nP, S 3 6) n) ∨ (∃ k, k < 2 ^ nP ∧ r = nI k ∧ qstay nC nP nW (S p 1) (S p 2) (S p 3) (A 5) (A (p + 5)) (A (p + 6)) (nI k) (A 4, qall nP, S 3 6) n ∧ ∀ m2, m2 < 2 ^ nP → qstay nC nP nW (S p 1) (S p 2) (S p 3) (A 5) (A (p + 5)) (A (p + 6)) (nI m2) (A 4, qall nP, S 3 6) n → qbcn k < qbcn m2 ∨ (qbcn k = qbcn m2 ∧ k ≤ m2))) ∧ (∀ i, (i ≤ 156 ∨ 161 < i) → A' i = A i) ∧ (∀ i, i ≠ 156 → S' i = S i))) ([.ref (ad 153), .ref (ad p), .ref (ad 3), .int (nI n)] : List Value).toArray s 0 0 (qAr ad s.heap.size)) (F0 m 15 ls []) := by
          intro fu
          induction fu with
          | zero => intro k S15 A15 hk hin hfA15 hfS15 hn; exact absurd hn (Nat.not_lt_zero _)
          | succ fu ih15 =>
            intro k S15 A15 hk hin hfA15 hfS15 hn H locs ls hM hl
            refine lv_iload hx hb dX3_fewestPosts_15 (lv_at hl 0 rfl) ?_
            refine lv_aload_n hx hb dX3_fewestPosts_17 rfl (lv_at hl 3 rfl) ?_
            refine q_callVI (n := 0) (o := p) (As := []) (rest := [.int (nI k)]) C hM hA (c_X5_allPosts E ad l S15 A15 b p hp nP ((show S15 p 4 = S p 4 from by rw [hfS15 p (by omega)]).trans hPo) (by omega)) (qmem_5 E ad S15 A15 b kp) (by omega) rfl gX3_fewestPosts_X5_allPosts rfl rfl rfl (by decide +kernel) ⟨Nat.le_of_ble_eq_true rfl, Nat.le_of_ble_eq_true rfl⟩ rfl hl.1 rfl (Nat.le_of_ble_eq_true rfl) ⟨Nat.zero_le _, Nat.zero_le _⟩ dX3_fewestPosts_18 (fun r_1 S_2 A_3 b_4 H locs qr_1 hM => ?_)
            obtain ⟨⟨e1, e2, e3⟩, er_1⟩ := qr_1
            subst e1; subst e2; subst e3
            refine lv_as (y := nI (N - 1)) (by rw [er_1, qall_nI (by omega), hN]) ?_
            refine lv_icmp_gt (tgt := 55) hx hb dX3_fewestPosts_21 (by decide) (fun c_21 => ?_) (fun c_21 => ?_)
            · skip
              have c_21 : N - 1 < k := (nI_ltI (a := N - 1) (b := k) (by omega) (by omega)).mp c_21
              refine lv_iinc (v := nI (siz + 1)) (lv' := [(4, .int (nI (siz + 1))), (5, .int (nI k)), (0, .ref (ad 153)), (1, .ref (ad p)), (2, .ref (ad 3)), (3, .int (nI n))]) hx hb dX3_fewestPosts_55 hl (k := 1) rfl (by rw [nI_succ]; rfl) (by decide) rfl (fun ls hl => ?_)
              refine lv_goto (tgt := 3) hx hb dX3_fewestPosts_58 (by decide) ?_
              exact ih3 (siz + 1) S15 A15 (by omega) (fun m2 h1 h2 => by have h3 := hmin m2 h1 h2; have h4 : ¬ qbcn m2 = siz := fun e => hin m2 (by omega) e h2; omega) hfA15 hfS15 (by omega) _ _ _ hM (lv_sub hl [0, 2, 3, 4, 5] rfl)
            · skip
              have c_21 : ¬ (N - 1 < k) := fun z => c_21 ((nI_ltI (a := N - 1) (b := k) (by omega) (by omega)).mpr z)
              refine lv_iload hx hb dX3_fewestPosts_24 (lv_at hl 0 rfl) ?_
              refine q_callSI (n := 1) (As := [.int (nI k)]) (rest := []) C hM hA (c_J6_bitCount_0f7a4 E ad l S15 A15 b (nI k)) gX3_fewestPosts_J6_bitCount_0f7a4 rfl rfl rfl (by decide +kernel) ⟨Nat.le_of_ble_eq_true rfl, Nat.le_of_ble_eq_true rfl⟩ rfl hl.1 rfl (Nat.le_of_ble_eq_true rfl) ⟨Nat.zero_le _, Nat.zero_le _⟩ dX3_fewestPosts_26 (fun r_5 S_6 A_7 b_8 H locs qr_5 hM => ?_)
              obtain ⟨⟨e1, e2, e3⟩, er_5⟩ := qr_5
              subst e1; subst e2; subst e3
              obtain ⟨hbk, hbk6⟩ := qbcn_ok (m := k) (by omega)
              refine lv_as (y := nI (qbcn k)) (by rw [er_5, hbk]) ?_
              refine lv_iload hx hb dX3_fewestPosts_29 (lv_at hl 1 rfl) ?_
              refine lv_icmp_ne (tgt := 49) hx hb dX3_fewestPosts_31 (by decide) (fun c_31 => ?_) (fun c_31 => ?_)
              · skip
                have c_31 : ¬ (qbcn k = siz) := fun z => c_31 ((nI_eq (a := qbcn k) (b := siz) (by omega) (by omega)).mpr z)
                refine lv_iinc (v := nI (k + 1)) (lv' := [(5, .int (nI (k + 1))), (4, .int (nI siz)), (0, .ref (ad 153)), (1, .ref (ad p)), (2, .ref (ad 3)), (3, .int (nI n))]) hx hb dX3_fewestPosts_49 hl (k := 0) rfl (by rw [nI_succ]; rfl) (by decide) rfl (fun ls hl => ?_)
                refine lv_goto (tgt := 15) hx hb dX3_fewestPosts_52 (by decide) ?_
                exact ih15 (k + 1) S15 A15 (by omega) (fun m2 h1 h2 => by rcases Nat.lt_or_ge m2 k with hz2 | hz2; exact hin m2 hz2 h2; rw [show m2 = k by omega] at h2; exact absurd h2 c_31) hfA15 hfS15 (by omega) _ _ _ hM hl
              · skip
                have c_31 : qbcn k = siz := (nI_eq (a := qbcn k) (b := siz) (by omega) (by omega)).mp c_31
                refine lv_aload_n hx hb dX3_fewestPosts_34 rfl (lv_at hl 2 rfl) ?_
                refine lv_aload_n hx hb dX3_fewestPosts_35 rfl (lv_at hl 3 rfl) ?_
                refine lv_aload_n hx hb dX3_fewestPosts_36 rfl (lv_at hl 4 rfl) ?_
                refine lv_iload hx hb dX3_fewestPosts_37 (lv_at hl 0 rfl) ?_
                refine lv_iload_n hx hb dX3_fewestPosts_39 rfl (lv_at hl 5 rfl) ?_
                refine q_callVI (n := 4) (o := 153) (As := [.ref (ad p), .ref (ad 3), .int (nI k), .int (nI n)]) (rest := []) C hM hA (c_X3_staysOpen E ad l S15 A15 b p hp (nI k) n (by omega) nC ((show S15 p 0 = S p 0 from by rw [hfS15 p (by omega)]).trans hC) (by omega) nP ((show S15 p 4 = S p 4 from by rw [hfS15 p (by omega)]).trans hPo) (by omega) nW ((show S15 p 6 = S p 6 from by rw [hfS15 p (by omega)]).trans hWi) (by omega) nH ((show S15 3 6 = S 3 6 from by rw [hfS15 3 (by omega)]).trans hH) (by omega)) (qmem_3 E ad S15 A15 b (show qk 153 = 3 from by decide +kernel)) (by decide) rfl gX3_fewestPosts_X3_staysOpen rfl rfl rfl (by decide +kernel) ⟨Nat.le_of_ble_eq_true rfl, Nat.le_of_ble_eq_true rfl⟩ rfl hl.1 rfl (Nat.le_of_ble_eq_true rfl) ⟨Nat.zero_le _, Nat.zero_le _⟩ dX3_fewestPosts_40 (fun r_9 S_10 A_11 b_12 H locs qr_9 hM => ?_)
                obtain ⟨e3, hr_9, hfA_11, hgS_10⟩ := qr_9
                subst e3
                rw [hfS15 p (by omega), hfS15 3 (by omega), hfA15 5 (by omega), hfA15 4 (by omega), hfA15 (p + 5) (by omega), hfA15 (p + 6) (by omega)] at hr_9
                refine lv_if_eq (tgt := 49) hx hb dX3_fewestPosts_43 (by decide) (fun c_43 => ?_) (fun c_43 => ?_)
                · skip
                  refine lv_iinc (v := nI (k + 1)) (lv' := [(5, .int (nI (k + 1))), (4, .int (nI siz)), (0, .ref (ad 153)), (1, .ref (ad p)), (2, .ref (ad 3)), (3, .int (nI n))]) hx hb dX3_fewestPosts_49 hl (k := 0) rfl (by rw [nI_succ]; rfl) (by decide) rfl (fun ls hl => ?_)
                  refine lv_goto (tgt := 15) hx hb dX3_fewestPosts_52 (by decide) ?_
                  exact ih15 (k + 1) S_10 A_11 (by omega) (fun m2 h1 h2 => by rcases Nat.lt_or_ge m2 k with hz2 | hz2; exact hin m2 hz2 h2; rw [show m2 = k by omega]; exact hr_9.elim (fun q => absurd (c_43.symm.trans q.1) (by decide)) (fun q => q.2)) (fun i hi => (hfA_11 i hi).trans (hfA15 i hi)) (fun i hi => (hgS_10 i hi).trans (hfS15 i hi)) (by omega) _ _ _ hM hl
                · skip
                  refine lv_iload hx hb dX3_fewestPosts_46 (lv_at hl 0 rfl) ?_
                  exact q_iret C hM dX3_fewestPosts_48 (by exact ⟨rfl, Or.inr ⟨k, by omega, rfl, hr_9.elim (fun q => q.2) (fun q => absurd q.1 c_43), fun m2 h1 h2 => by have h3 := hmin m2 (by omega) h2; have h4 : qbcn m2 = siz → ¬ m2 < k := fun e1 e2 => hin m2 e2 e1 h2; omega⟩, fun i hi => (hfA_11 i hi).trans (hfA15 i hi), fun i hi => (hgS_10 i hi).trans (hfS15 i hi)⟩)
        exact loop15 (N - 0 + 1) 0 S3 A3 (by omega) (fun m2 h => absurd h (Nat.not_lt_zero _)) hfA hfS (Nat.lt_succ_self _) _ _ _ hM hl
  exact loop3 (nP + 1 - 0 + 1) 0 S A (by omega) (fun _ _ _ => Nat.zero_le _) (fun _ _ => rfl) (fun _ _ => rfl) (Nat.lt_succ_self _) _ _ _ hM hl
