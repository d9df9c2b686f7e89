set_option maxHeartbeats 4000000 in
set_option maxRecDepth 100000 in
theorem c_X10_plateau (E : qE) (ad : Nat → Nat) (l : Launch) (S A : qA2) (b : qB) (p : Nat) (hp : qpl p) (hbp : b.1 = p) (q : Nat) (hq : qpl q) (hbq : b.2 = q) (hne : ¬ p = q) (n : Nat) (hln : S 1 1 = nI n) (hnb : n ≤ 240) : MI E ad l yX10_plateau wsX10_plateau { frames := 5, cells := 0, slots := 0, locals := 113 } [.ref (ad 0)] S A b (fun r S' A' b' => (∃ kd pl, qparse qstX (A 2) n 240 (qsk (A 2) n 0) (upd (upd (upd (upd (upd (S q) 0 0) 3 0) 4 0) 5 0) 6 0, fun j => A (q + j)) = .inl (kd, pl) ∧ (1 ≤ kd ∧ kd ≤ 4) ∧ r = (-10) - nI kd ∧ S' 1 1 = 0 ∧ S' 1 3 = nI pl ∧ b = b' ∧ (∀ i, i ≠ 1 → i ≠ q → S' i = S i) ∧ (∀ i, (i ≤ q ∨ q + 6 < i) → A' i = A i)) ∨ (qparse qstX (A 2) n 240 (qsk (A 2) n 0) (upd (upd (upd (upd (upd (S q) 0 0) 3 0) 4 0) 5 0) 6 0, fun j => A (q + j)) = .inr (S' q, fun j => A' (q + j)) ∧ qPok (S' q) ∧ b' = (q, p) ∧ r = S' q 0 ∧ (S' 1 1 = 0 ∧ S' 1 3 = -1) ∧ (A' 4 = qmap (fun _ _ => 0) (A 4) 12 ∧ A' 5 = qmap (fun a _ => A' (q + 1) a) (A 5) 6 ∧ A' 6 = qmap (fun _ _ => -1) (A 6) 6 ∧ A' 7 = qmap (fun a _ => A' (q + 3) a) (A 7) 5 ∧ A' 8 = qmap (fun _ _ => 0) (A 8) 5) ∧ (∃ nP2, S' q 4 = nI nP2 ∧ nP2 ≤ 6 ∧ S' 3 5 = qall nP2) ∧ (S' 3 6 = 0 ∧ S' 3 7 = 0) ∧ (S' 15 1 = 0 ∧ S' 15 2 = S 15 2) ∧ (S' 139 2 = 0 ∧ S' 146 2 = 0) ∧ (S' 164 0 = 0 ∧ S' 171 0 = 0) ∧ (∀ i, (i ≠ 1 ∧ i ≠ q ∧ i ≠ 3 ∧ i ≠ 15 ∧ i ≠ 139 ∧ i ≠ 146 ∧ i ≠ 164 ∧ i ≠ 171) → S' i = S i) ∧ (∀ i, ((i ≤ 3 ∨ 8 < i) ∧ (i ≤ q ∨ q + 6 < i)) → A' i = A i))) := by
  obtain ⟨⟨kp, kp1, kp2, kp3, kp4, kp5, kp6⟩, ⟨lp1, lp2, lp3, lp4, lp5, lp6⟩, bp, bp7⟩ := qpl_all hp
  obtain ⟨⟨kq, kq1, kq2, kq3, kq4, kq5, kq6⟩, ⟨lq1, lq2, lq3, lq4, lq5, lq6⟩, bq, bq7⟩ := qpl_all hq
  have hpq : ¬ p = q := hne
  refine MI.of (cc := cX10_plateau) (maxL := 3) (ret := some .int) RX10 rfl (by decide) rfl ?_
  intro pg e s m below meth cd C hM
  have hx := C.1
  have hb := C.2.1
  have hts := C.2.2.2.2.1
  have hA : ∀ q, s.heap.size ≤ q → qAr ad s.heap.size q := fun _ h => Or.inr h
  have hi0 : ∀ w ∈ u_ws RX0 TX0 3, w ∈ wsX10_plateau := by decide +kernel
  have hi2 : ∀ w ∈ u_ws RX2 TX2 3, w ∈ wsX10_plateau := by decide +kernel
  have hi5 : ∀ w ∈ u_ws RX5 TX5 13, w ∈ wsX10_plateau := by decide +kernel
  have hi6 : ∀ w ∈ u_ws RX6 TX6 8, w ∈ wsX10_plateau := by decide +kernel
  have hi7 : ∀ w ∈ u_ws RX7 TX7 6, w ∈ wsX10_plateau := by decide +kernel
  have hi10 : ∀ w ∈ u_ws RX10 TX10 11, w ∈ wsX10_plateau := by decide +kernel
  have hL0 := hts (.fieldLink RX10 10 "CrowFences" "text" "LCrowFences$Text;") (by decide +kernel)
  have hL1 := hts (.fieldLink RX10 75 "CrowFences" "draft" "LCrowFences$Plan;") (by decide +kernel)
  have hL2 := hts (.fieldLink RX10 99 "CrowFences$Text" "faultKind" "I") (by decide +kernel)
  have hL3 := hts (.fieldLink RX10 71 "CrowFences" "plan" "LCrowFences$Plan;") (by decide +kernel)
  have hL4 := hts (.fieldLink RX10 19 "CrowFences" "now" "LCrowFences$Winter;") (by decide +kernel)
  have hL5 := hts (.fieldLink RX10 29 "CrowFences" "past" "LCrowFences$Past;") (by decide +kernel)
  have hL6 := hts (.fieldLink RX10 57 "CrowFences" "sits" "LCrowFences$Sits;") (by decide +kernel)
  have hL7 := hts (.fieldLink RX10 109 "CrowFences$Sits" "count" "I") (by decide +kernel)
  have hL8 := hts (.fieldLink RX10 64 "CrowFences" "book" "LCrowFences$Book;") (by decide +kernel)
  have hL9 := hts (.fieldLink RX10 112 "CrowFences$Book" "count" "I") (by decide +kernel)
  have hL10 := hts (.fieldLink RX10 113 "CrowFences$Plan" "cells" "I") (by decide +kernel)
  have hL11 := hts (.fieldLink RX10 42 "CrowFences" "images" "[LCrowFences$Image;") (by decide +kernel)
  have hL12 := hts (.fieldLink RX10 105 "CrowFences$Image" "kept" "Z") (by decide +kernel)
  have hl := lv_entry ([.ref (ad 0)]) (n := 3) (Nat.le_of_ble_eq_true rfl)
  rw [lg_entry_eq]
  generalize (lg_sl ([.ref (ad 0)]) ++ List.replicate (3 - (lg_sl ([.ref (ad 0)])).length) Slot.unset).toArray = ls at hl ⊢
  have hl : lv_has ls 3 [(0, .ref (ad 0))] := hl
  refine lv_aload_n hx hb dX10_plateau_0 rfl (lv_at hl 0 rfl) ?_
  refine q_get (o := 0) (ci := 10) (k := 0) (T := TX10) (v := .ref (ad 1)) C hM (qmem_10 E ad S A b (show qk 0 = 10 from by decide +kernel)) (by decide) rfl hi10 (by decide) hL0 rfl rfl dX10_plateau_1 ?_
  refine lv_aload_n hx hb dX10_plateau_4 rfl (lv_at hl 0 rfl) ?_
  refine q_get (o := 0) (ci := 10) (k := 10) (T := TX10) (v := .ref (ad q)) C hM (qmem_10 E ad S A b (show qk 0 = 10 from by decide +kernel)) (by decide) rfl hi10 (by decide) hL1 rfl (by rw [← hbq]; rfl) dX10_plateau_5 ?_
  refine q_callVV (n := 1) (o := 1) (As := [.ref (ad q)]) (rest := []) C hM hA (c_X7_readInto E ad l S A b q hq n hln (by omega)) (qmem_7 E ad S A b (show qk 1 = 7 from by decide +kernel)) (by decide) rfl gX10_plateau_X7_readInto rfl rfl rfl (by decide +kernel) ⟨Nat.le_of_ble_eq_true rfl, Nat.le_of_ble_eq_true rfl⟩ rfl hl.1 rfl (Nat.le_of_ble_eq_true rfl) ⟨Nat.zero_le _, Nat.zero_le _⟩ dX10_plateau_8 (fun S_2 A_3 b_4 H locs qr_1 hM => ?_)
  obtain ⟨e3, hgS_2, h1S_2, hfA_3, hD⟩ := qr_1
  subst e3
  rcases hD with ⟨kx, pl, hT, hkx, h2S_2, h3S_2⟩ | ⟨hT, hok, h2S_2, h3S_2⟩
  · skip
    refine lv_aload_n hx hb dX10_plateau_11 rfl (lv_at hl 0 rfl) ?_
    refine q_get (o := 0) (ci := 10) (k := 0) (T := TX10) (v := .ref (ad 1)) C hM (qmem_10 E ad S_2 A_3 b (show qk 0 = 10 from by decide +kernel)) (by decide) rfl hi10 (by decide) hL0 rfl rfl dX10_plateau_12 ?_
    refine q_get (o := 1) (ci := 7) (k := 2) (T := TX7) (v := .int (nI kx)) C hM (qmem_7 E ad S_2 A_3 b (show qk 1 = 7 from by decide +kernel)) (by decide) rfl hi7 (by decide) hL2 rfl (congrArg (fun z => some (Value.int z)) (show S_2 1 2 = nI kx from by exact h2S_2)) dX10_plateau_15 ?_
    refine lv_if_eq (tgt := 32) hx hb dX10_plateau_18 (by decide) (fun c_18 => ?_) (fun c_18 => ?_)
    · skip
      have c_18 : kx = 0 := (nI_eq (a := kx) (b := 0) (by omega) (by omega)).mp c_18
      omega
    · skip
      have c_18 : ¬ (kx = 0) := fun z => c_18 ((nI_eq (a := kx) (b := 0) (by omega) (by omega)).mpr z)
      refine lv_bipush (v := (-10)) hx hb dX10_plateau_21 (by decide) ?_
      refine lv_aload_n hx hb dX10_plateau_23 rfl (lv_at hl 0 rfl) ?_
      refine q_get (o := 0) (ci := 10) (k := 0) (T := TX10) (v := .ref (ad 1)) C hM (qmem_10 E ad S_2 A_3 b (show qk 0 = 10 from by decide +kernel)) (by decide) rfl hi10 (by decide) hL0 rfl rfl dX10_plateau_24 ?_
      refine q_get (o := 1) (ci := 7) (k := 2) (T := TX7) (v := .int (nI kx)) C hM (qmem_7 E ad S_2 A_3 b (show qk 1 = 7 from by decide +kernel)) (by decide) rfl hi7 (by decide) hL2 rfl (congrArg (fun z => some (Value.int z)) (show S_2 1 2 = nI kx from by exact h2S_2)) dX10_plateau_27 ?_
      refine lv_isub hx hb dX10_plateau_30 ?_
      exact q_iret C hM dX10_plateau_31 (by exact Or.inl ⟨kx, pl, hT, hkx, rfl, h1S_2, h3S_2, rfl, hgS_2, hfA_3⟩)
  · skip
    obtain ⟨nC2, nP2, nK2, nW2, ⟨hC2, hC2b⟩, ⟨hP2, hP2b⟩, ⟨hK2, hK2b⟩, ⟨hW2, hW2b⟩⟩ := id hok
    refine lv_aload_n hx hb dX10_plateau_11 rfl (lv_at hl 0 rfl) ?_
    refine q_get (o := 0) (ci := 10) (k := 0) (T := TX10) (v := .ref (ad 1)) C hM (qmem_10 E ad S_2 A_3 b (show qk 0 = 10 from by decide +kernel)) (by decide) rfl hi10 (by decide) hL0 rfl rfl dX10_plateau_12 ?_
    refine q_get (o := 1) (ci := 7) (k := 2) (T := TX7) (v := .int 0) C hM (qmem_7 E ad S_2 A_3 b (show qk 1 = 7 from by decide +kernel)) (by decide) rfl hi7 (by decide) hL2 rfl (congrArg (fun z => some (Value.int z)) (show S_2 1 2 = 0 from by exact h2S_2)) dX10_plateau_15 ?_
    refine lv_if_eq (tgt := 32) hx hb dX10_plateau_18 (by decide) (fun c_18 => ?_) (fun c_18 => ?_)
    · skip
      have c_18 : 0 = 0 := (nI_eq (a := 0) (b := 0) (by omega) (by omega)).mp c_18
      refine lv_aload_n hx hb dX10_plateau_32 rfl (lv_at hl 0 rfl) ?_
      refine q_get (o := 0) (ci := 10) (k := 9) (T := TX10) (v := .ref (ad p)) C hM (qmem_10 E ad S_2 A_3 b (show qk 0 = 10 from by decide +kernel)) (by decide) rfl hi10 (by decide) hL3 rfl (by rw [← hbp]; rfl) dX10_plateau_33 ?_
      refine lv_astore_n (lv' := [(1, .ref (ad p)), (0, .ref (ad 0))]) hx hb dX10_plateau_36 rfl hl (by decide) rfl (fun ls hl => ?_)
      refine lv_aload_n hx hb dX10_plateau_37 rfl (lv_at hl 1 rfl) ?_
      refine lv_aload_n hx hb dX10_plateau_38 rfl (lv_at hl 1 rfl) ?_
      refine q_get (o := 0) (ci := 10) (k := 10) (T := TX10) (v := .ref (ad q)) C hM (qmem_10 E ad S_2 A_3 b (show qk 0 = 10 from by decide +kernel)) (by decide) rfl hi10 (by decide) hL1 rfl (by rw [← hbq]; rfl) dX10_plateau_39 ?_
      refine q_putp (k := 9) (v := q) (ty := .object "CrowFences$Plan") (b' := (q, b.2)) C hM hi10 (by decide) hL3 rfl rfl (by decide +kernel) rfl rfl rfl dX10_plateau_42 (fun H locs hM => ?_)
      refine lv_aload_n hx hb dX10_plateau_45 rfl (lv_at hl 1 rfl) ?_
      refine lv_aload_n hx hb dX10_plateau_46 rfl (lv_at hl 0 rfl) ?_
      refine q_putp (k := 10) (v := p) (ty := .object "CrowFences$Plan") (b' := (q, p)) C hM hi10 (by decide) hL1 rfl rfl (by decide +kernel) rfl rfl rfl dX10_plateau_47 (fun H locs hM => ?_)
      refine lv_aload_n hx hb dX10_plateau_50 rfl (lv_at hl 1 rfl) ?_
      refine q_get (o := 0) (ci := 10) (k := 1) (T := TX10) (v := .ref (ad 3)) C hM (qmem_10 E ad S_2 A_3 (q, p) (show qk 0 = 10 from by decide +kernel)) (by decide) rfl hi10 (by decide) hL4 rfl rfl dX10_plateau_51 ?_
      refine lv_aload_n hx hb dX10_plateau_54 rfl (lv_at hl 1 rfl) ?_
      refine q_get (o := 0) (ci := 10) (k := 9) (T := TX10) (v := .ref (ad q)) C hM (qmem_10 E ad S_2 A_3 (q, p) (show qk 0 = 10 from by decide +kernel)) (by decide) rfl hi10 (by decide) hL3 rfl rfl dX10_plateau_55 ?_
      refine q_callVV (n := 1) (o := 3) (As := [.ref (ad q)]) (rest := []) C hM hA (c_X9_begin E ad l S_2 A_3 (q, p) 3 (show 3 ∈ qwL from by decide +kernel) q hq nP2 hP2 (by omega)) (qmem_9 E ad S_2 A_3 (q, p) (show qk 3 = 9 from by decide +kernel)) (by decide) rfl gX10_plateau_X9_begin rfl rfl rfl (by decide +kernel) ⟨Nat.le_of_ble_eq_true rfl, Nat.le_of_ble_eq_true rfl⟩ rfl hl.1 rfl (Nat.le_of_ble_eq_true rfl) ⟨Nat.zero_le _, Nat.zero_le _⟩ dX10_plateau_58 (fun S_6 A_7 b_8 H locs qr_5 hM => ?_)
      obtain ⟨e3, hwA_7, hfA_7, eS_6⟩ := qr_5
      subst e3
      simp only [Nat.reduceAdd] at hwA_7 hfA_7
      obtain ⟨S_9, eS_9⟩ : ∃ zz, zz = q2 S_2 3 5 (qall nP2) := ⟨_, rfl⟩
      rw [← eS_9] at eS_6
      obtain ⟨S_10, eS_10⟩ : ∃ zz, zz = q2 S_9 3 6 0 := ⟨_, rfl⟩
      rw [← eS_10] at eS_6
      refine lv_aload_n hx hb dX10_plateau_61 rfl (lv_at hl 1 rfl) ?_
      refine q_get (o := 0) (ci := 10) (k := 3) (T := TX10) (v := .ref (ad 15)) C hM (qmem_10 E ad S_6 A_7 (q, p) (show qk 0 = 10 from by decide +kernel)) (by decide) rfl hi10 (by decide) hL5 rfl rfl dX10_plateau_62 ?_
      refine q_callVV (n := 0) (o := 15) (As := []) (rest := []) C hM hA (c_X4_forget E ad l S_6 A_7 (q, p)) (qmem_4 E ad S_6 A_7 (q, p) (show qk 15 = 4 from by decide +kernel)) (by decide) rfl gX10_plateau_X4_forget rfl rfl rfl (by decide +kernel) ⟨Nat.le_of_ble_eq_true rfl, Nat.le_of_ble_eq_true rfl⟩ rfl hl.1 rfl (Nat.le_of_ble_eq_true rfl) ⟨Nat.zero_le _, Nat.zero_le _⟩ dX10_plateau_65 (fun S_12 A_13 b_14 H locs qr_11 hM => ?_)
      obtain ⟨eS_12, e2, e3⟩ := qr_11
      subst e3; rw [e2] at hM
      refine lv_iconst (v := 0) hx hb dX10_plateau_68 (by decide) ?_
      refine lv_istore_n (lv' := [(2, .int 0), (1, .ref (ad p)), (0, .ref (ad 0))]) hx hb dX10_plateau_69 rfl hl (by decide) rfl (fun ls hl => ?_)
      have loop70 : ∀ (fu : Nat) (k : Nat) (S70 : qA2) (hk : k ≤ 2) (hz : ∀ k2, k2 < k → S70 (139 + 7 * k2) 2 = 0) (hfS : ∀ i j, ((i ≠ 139 ∧ i ≠ 146) ∨ j ≠ 2) → S70 i j = S_12 i j), 2 - k < fu → ∀ (H : Heap) (locs : List Loc) (ls : Array Slot), qM E ad S70 A_7 (q, p) (qAr ad s.heap.size) s H locs → lv_has ls 3 [(2, .int (nI k)), (0, .ref (ad 0))] → W pg l e (headSpec wsX10_plateau { frames := 5, cells := 0, slots := 0, locals := 113 }).room s m ([.ref (ad 0)] : List Value).toArray below meth cd H locs 0 0 (MQ below (qQi E ad s.heap.size (fun r S' A' b' => (∃ kd pl, qparse qstX (A 2) n 240 (qsk (A 2) n 0) (upd (upd (upd (upd (upd (S q) 0 0) 3 0) 4 0) 5 0) 6 0, fun j => A (q + j)) = .inl (kd, pl) ∧ (1 ≤ kd ∧ kd ≤ 4) ∧ r = (-10) - nI kd ∧ S' 1 1 = 0 ∧ S' 1 3 = nI pl ∧ b = b' ∧ (∀ i, i ≠ 1 → i ≠ q → S' i = S i) ∧ (∀ i, (i ≤ q ∨ q + 6 < i) → A' i = A i)) ∨ (qparse qstX (A 2) n 240 (qsk (A 2) n 0) (upd (upd (upd (upd (upd (S q) 0 0) 3 0) 4 0) 5 0) 6 0, fun j => A (q + j)) = .inr (S' q, fun j => A' (q + j)) ∧ qPok (S' q) ∧ b' = (q, p) ∧ r = S' q 0 ∧ (S' 1 1 = 0 ∧ S' 1 3 = -1) ∧ (A' 4 = qmap (fun _ _ => 0) (A 4) 12 ∧ A' 5 = qmap (fun a _ => A' (q + 1) a) (A 5) 6 ∧ A' 6 = qmap (fun _ _ => -1) (A 6) 6 ∧ A' 7 = qmap (fun a _ => A' (q + 3) a) (A 7) 5 ∧ A' 8 = qmap (fun _ _ => 0) (A 8) 5) ∧ (∃ nP2, S' q 4 = nI nP2 ∧ nP2 ≤ 6 ∧ S' 3 5 = qall nP2) ∧ (S' 3 6 = 0 ∧ S' 3 7 = 0) ∧ (S' 15 1 = 0 ∧ S' 15 2 = S 15 2) ∧ (S' 139 2 = 0 ∧ S' 146 2 = 0) ∧ (S' 164 0 = 0 ∧ S' 171 0 = 0) ∧ (∀ i, (i ≠ 1 ∧ i ≠ q ∧ i ≠ 3 ∧ i ≠ 15 ∧ i ≠ 139 ∧ i ≠ 146 ∧ i ≠ 164 ∧ i ≠ 171) → S' i = S i) ∧ (∀ i, ((i ≤ 3 ∨ 8 < i) ∧ (i ≤ q ∨ q + 6 < i)) → A' i = A i)))) ([.ref (ad 0)] : List Value).toArray s 0 0 (qAr ad s.heap.size)) (F0 m 70 ls []) := by
        intro fu
        induction fu with
        | zero => intro k S70 hk hz hfS hn; exact absurd hn (Nat.not_lt_zero _)
        | succ fu ih70 =>
          intro k S70 hk hz hfS hn H locs ls hM hl
          refine lv_iload_n hx hb dX10_plateau_70 rfl (lv_at hl 0 rfl) ?_
          refine lv_iconst (v := 2) hx hb dX10_plateau_71 (by decide) ?_
          refine lv_icmp_ge (tgt := 91) hx hb dX10_plateau_72 (by decide) (fun c_72 => ?_) (fun c_72 => ?_)
          · skip
            have c_72 : 2 ≤ k := (nI_leI (a := 2) (b := k) (by omega) (by omega)).mp c_72
            refine lv_aload_n hx hb dX10_plateau_91 rfl (lv_at hl 1 rfl) ?_
            refine q_get (o := 0) (ci := 10) (k := 7) (T := TX10) (v := .ref (ad 164)) C hM (qmem_10 E ad S70 A_7 (q, p) (show qk 0 = 10 from by decide +kernel)) (by decide) rfl hi10 (by decide) hL6 rfl rfl dX10_plateau_92 ?_
            refine lv_iconst (v := 0) hx hb dX10_plateau_95 (by decide) ?_
            refine q_put (o := 164) (ci := 6) (k := 0) (T := TX6) (ty := .int) (v := 0) C hM (qmem_6 E ad S70 A_7 (q, p) (show qk 164 = 6 from by decide +kernel)) (by decide) rfl hi6 tyX6 tyX6_ok nmX6 (by decide) hL7 rfl rfl (by decide +kernel) rfl rfl (Nat.le_of_ble_eq_true rfl) (qs_6_0 E ad S70 A_7 (q, p) (show qk 164 = 6 from by decide +kernel) 0) dX10_plateau_96 (fun H locs hM => ?_)
            obtain ⟨S_15, eS_15⟩ : ∃ zz, zz = q2 S70 164 0 0 := ⟨_, rfl⟩
            rw [← eS_15] at hM
            refine lv_aload_n hx hb dX10_plateau_99 rfl (lv_at hl 1 rfl) ?_
            refine q_get (o := 0) (ci := 10) (k := 8) (T := TX10) (v := .ref (ad 171)) C hM (qmem_10 E ad S_15 A_7 (q, p) (show qk 0 = 10 from by decide +kernel)) (by decide) rfl hi10 (by decide) hL8 rfl rfl dX10_plateau_100 ?_
            refine lv_iconst (v := 0) hx hb dX10_plateau_103 (by decide) ?_
            refine q_put (o := 171) (ci := 0) (k := 0) (T := TX0) (ty := .int) (v := 0) C hM (qmem_0 E ad S_15 A_7 (q, p) (show qk 171 = 0 from by decide +kernel)) (by decide) rfl hi0 tyX0 tyX0_ok nmX0 (by decide) hL9 rfl rfl (by decide +kernel) rfl rfl (Nat.le_of_ble_eq_true rfl) (qs_0_0 E ad S_15 A_7 (q, p) (show qk 171 = 0 from by decide +kernel) 0) dX10_plateau_104 (fun H locs hM => ?_)
            obtain ⟨S_16, eS_16⟩ : ∃ zz, zz = q2 S_15 171 0 0 := ⟨_, rfl⟩
            rw [← eS_16] at hM
            refine lv_aload_n hx hb dX10_plateau_107 rfl (lv_at hl 1 rfl) ?_
            refine q_get (o := 0) (ci := 10) (k := 9) (T := TX10) (v := .ref (ad q)) C hM (qmem_10 E ad S_16 A_7 (q, p) (show qk 0 = 10 from by decide +kernel)) (by decide) rfl hi10 (by decide) hL3 rfl rfl dX10_plateau_108 ?_
            refine q_get (o := q) (ci := 5) (k := 0) (T := TX5) (v := .int (S_2 q 0)) C hM (qmem_5 E ad S_16 A_7 (q, p) kq) (by omega) rfl hi5 (by decide) hL10 rfl (congrArg (fun z => some (Value.int z)) (show S_16 q 0 = S_2 q 0 from by rw [eS_16, q2_o _ _ (by omega)]; rw [eS_15, q2_o _ _ (by omega)]; rw [hfS q 0 (by omega)]; rw [eS_12, q2_o _ _ (by omega)]; rw [eS_6, q2_o _ _ (by omega)]; rw [eS_10, q2_o _ _ (by omega)]; rw [eS_9, q2_o _ _ (by omega)])) dX10_plateau_111 ?_
            refine lv_as (y := nI nC2) hC2 ?_
            exact q_iret C hM dX10_plateau_114 (by exact Or.inr ⟨by rw [(show S_16 q = S_2 q from by rw [eS_16, q2_or _ _ (by omega), eS_15, q2_or _ _ (by omega), show S70 q = S_12 q from funext fun j => hfS q j (Or.inl (by omega)), eS_12, q2_or _ _ (by omega), eS_6, q2_or _ _ (by omega), eS_10, q2_or _ _ (by omega), eS_9, q2_or _ _ (by omega)]), show (fun j => A_7 (q + j)) = (fun j => A_3 (q + j)) from funext fun j => hfA_7 (q + j) (by omega)]; exact hT, by rw [(show S_16 q = S_2 q from by rw [eS_16, q2_or _ _ (by omega), eS_15, q2_or _ _ (by omega), show S70 q = S_12 q from funext fun j => hfS q j (Or.inl (by omega)), eS_12, q2_or _ _ (by omega), eS_6, q2_or _ _ (by omega), eS_10, q2_or _ _ (by omega), eS_9, q2_or _ _ (by omega)])]; exact hok, rfl, by rw [(show S_16 q = S_2 q from by rw [eS_16, q2_or _ _ (by omega), eS_15, q2_or _ _ (by omega), show S70 q = S_12 q from funext fun j => hfS q j (Or.inl (by omega)), eS_12, q2_or _ _ (by omega), eS_6, q2_or _ _ (by omega), eS_10, q2_or _ _ (by omega), eS_9, q2_or _ _ (by omega)])]; exact hC2.symm, ⟨(show S_16 1 1 = 0 from by rw [eS_16, q2_o _ _ (by omega)]; rw [eS_15, q2_o _ _ (by omega)]; rw [hfS 1 1 (by omega)]; rw [eS_12, q2_o _ _ (by omega)]; rw [eS_6, q2_o _ _ (by omega)]; rw [eS_10, q2_o _ _ (by omega)]; rw [eS_9, q2_o _ _ (by omega)]; exact h1S_2), (show S_16 1 3 = (-1) from by rw [eS_16, q2_o _ _ (by omega)]; rw [eS_15, q2_o _ _ (by omega)]; rw [hfS 1 3 (by omega)]; rw [eS_12, q2_o _ _ (by omega)]; rw [eS_6, q2_o _ _ (by omega)]; rw [eS_10, q2_o _ _ (by omega)]; rw [eS_9, q2_o _ _ (by omega)]; exact h3S_2)⟩, ⟨hwA_7.1.trans (by rw [hfA_3 4 (by omega)]), hwA_7.2.1.trans (by rw [hfA_3 5 (by omega), hfA_7 (q + 1) (by omega)]), hwA_7.2.2.1.trans (by rw [hfA_3 6 (by omega)]), hwA_7.2.2.2.1.trans (by rw [hfA_3 7 (by omega), hfA_7 (q + 3) (by omega)]), hwA_7.2.2.2.2.trans (by rw [hfA_3 8 (by omega)])⟩, ⟨nP2, by rw [(show S_16 q = S_2 q from by rw [eS_16, q2_or _ _ (by omega), eS_15, q2_or _ _ (by omega), show S70 q = S_12 q from funext fun j => hfS q j (Or.inl (by omega)), eS_12, q2_or _ _ (by omega), eS_6, q2_or _ _ (by omega), eS_10, q2_or _ _ (by omega), eS_9, q2_or _ _ (by omega)])]; exact hP2, hP2b, (show S_16 3 5 = qall nP2 from by rw [eS_16, q2_o _ _ (by omega)]; rw [eS_15, q2_o _ _ (by omega)]; rw [hfS 3 5 (by omega)]; rw [eS_12, q2_o _ _ (by omega)]; rw [eS_6, q2_k _ _ (by omega)]; rw [eS_10, q2_k _ _ (by omega)]; rw [eS_9]; exact q2_s _ _ _ _)⟩, ⟨(show S_16 3 6 = 0 from by rw [eS_16, q2_o _ _ (by omega)]; rw [eS_15, q2_o _ _ (by omega)]; rw [hfS 3 6 (by omega)]; rw [eS_12, q2_o _ _ (by omega)]; rw [eS_6, q2_k _ _ (by omega)]; rw [eS_10]; exact q2_s _ _ _ _), (show S_16 3 7 = 0 from by rw [eS_16, q2_o _ _ (by omega)]; rw [eS_15, q2_o _ _ (by omega)]; rw [hfS 3 7 (by omega)]; rw [eS_12, q2_o _ _ (by omega)]; rw [eS_6]; exact q2_s _ _ _ _)⟩, ⟨(show S_16 15 1 = 0 from by rw [eS_16, q2_o _ _ (by omega)]; rw [eS_15, q2_o _ _ (by omega)]; rw [hfS 15 1 (by omega)]; rw [eS_12]; exact q2_s _ _ _ _), (show S_16 15 2 = S 15 2 from by rw [eS_16, q2_o _ _ (by omega)]; rw [eS_15, q2_o _ _ (by omega)]; rw [hfS 15 2 (by omega)]; rw [eS_12, q2_k _ _ (by omega)]; rw [eS_6, q2_o _ _ (by omega)]; rw [eS_10, q2_o _ _ (by omega)]; rw [eS_9, q2_o _ _ (by omega)]; rw [hgS_2 15 (by omega) (by omega)])⟩, ⟨(by rw [eS_16, q2_o _ _ (by omega), eS_15, q2_o _ _ (by omega)]; exact hz 0 (by omega)), (by rw [eS_16, q2_o _ _ (by omega), eS_15, q2_o _ _ (by omega)]; exact hz 1 (by omega))⟩, ⟨(show S_16 164 0 = 0 from by rw [eS_16, q2_o _ _ (by omega)]; rw [eS_15]; exact q2_s _ _ _ _), (show S_16 171 0 = 0 from by rw [eS_16]; exact q2_s _ _ _ _)⟩, fun i hi => by rw [eS_16, q2_or _ _ (by omega), eS_15, q2_or _ _ (by omega), show S70 i = S_12 i from funext fun j => hfS i j (Or.inl (by omega)), eS_12, q2_or _ _ (by omega), eS_6, q2_or _ _ (by omega), eS_10, q2_or _ _ (by omega), eS_9, q2_or _ _ (by omega), hgS_2 i (by omega) (by omega)], fun i hi => by rw [hfA_7 i (by omega), hfA_3 i (by omega)]⟩)
          · skip
            have c_72 : ¬ (2 ≤ k) := fun z => c_72 ((nI_leI (a := 2) (b := k) (by omega) (by omega)).mpr z)
            refine lv_aload_n hx hb dX10_plateau_75 rfl (lv_at hl 1 rfl) ?_
            refine q_get (o := 0) (ci := 10) (k := 5) (T := TX10) (v := .ref (ad 138)) C hM (qmem_10 E ad S70 A_7 (q, p) (show qk 0 = 10 from by decide +kernel)) (by decide) rfl hi10 (by decide) hL11 rfl rfl dX10_plateau_76 ?_
            refine lv_iload_n hx hb dX10_plateau_79 rfl (lv_at hl 0 rfl) ?_
            refine q_aald14 (k := k) C hM (show qk 138 = 14 from by decide +kernel) (by rw [show ql 138 = 2 from by decide +kernel]; exact vp_nI (by omega) (by omega)) (nIc (by omega)) dX10_plateau_80 ?_
            obtain ⟨g, eg⟩ : ∃ zz, zz = 139 + 7 * k := ⟨_, rfl⟩
            rw [← eg]
            have hg : qg g := by rw [eg]; exact qimg_g (by omega)
            obtain ⟨kg, hg1, hg01⟩ := qg_all hg
            refine lv_iconst (v := 0) hx hb dX10_plateau_81 (by decide) ?_
            refine q_put (o := g) (ci := 2) (k := 2) (T := TX2) (ty := .boolean) (v := 0) C hM (qmem_2 E ad S70 A_7 (q, p) kg) (by omega) rfl hi2 tyX2 tyX2_ok nmX2 (by decide) hL12 rfl rfl (by decide +kernel) rfl rfl (Nat.le_of_ble_eq_true rfl) (qs_2_2 E ad S70 A_7 (q, p) kg 0) dX10_plateau_82 (fun H locs hM => ?_)
            obtain ⟨S_17, eS_17⟩ : ∃ zz, zz = q2 S70 g 2 0 := ⟨_, rfl⟩
            rw [← eS_17] at hM
            refine lv_iinc (v := nI (k + 1)) (lv' := [(2, .int (nI (k + 1))), (0, .ref (ad 0))]) hx hb dX10_plateau_85 hl (k := 0) rfl (by rw [nI_succ]; rfl) (by decide) rfl (fun ls hl => ?_)
            refine lv_goto (tgt := 70) hx hb dX10_plateau_88 (by decide) ?_
            exact ih70 (k + 1) S_17 (by omega) (fun k2 h2 => by rw [eS_17]; by_cases hz2 : k2 = k; (rw [hz2, ← eg, q2_s]); (rw [q2_o _ _ (by omega)]; exact hz k2 (by omega))) (fun i j hij => by rw [eS_17, show q2 _ g 2 _ i j = S70 i j from (by by_cases hz2 : i = g; exact q2_k _ _ (by omega); exact q2_o _ _ hz2)]; exact hfS i j hij) (by omega) _ _ _ hM hl
      exact loop70 (2 - 0 + 1) 0 S_12 (by omega) (fun _ h => absurd h (Nat.not_lt_zero _)) (fun _ _ _ => rfl) (Nat.lt_succ_self _) _ _ _ hM (lv_sub hl [0, 2] rfl)
    · skip
      have c_18 : ¬ (0 = 0) := fun z => c_18 ((nI_eq (a := 0) (b := 0) (by omega) (by omega)).mpr z)
      exact absurd rfl c_18
