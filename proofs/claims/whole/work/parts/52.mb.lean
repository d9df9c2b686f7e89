set_option maxHeartbeats 4000000 in
set_option maxRecDepth 100000 in
theorem c_X11_hourBy (E : qE) (ad : Nat → Nat) (l : Launch) (S A : qA2) (b : qB) (a1 a2 : Int32) (nC : Nat) (hC : S 188 0 = nI nC) (hCb : nC ≤ 12) (nP : Nat) (hPo : S 188 4 = nI nP) (hPb : nP ≤ 6) : MV E ad l yX11_hourBy wsX11_hourBy { frames := 3, cells := 0, slots := 0, locals := 70 } [.ref (ad 188), .int a1, .int a2] S A b (fun S' A' b' => (S = S' ∧ b = b') ∧ A' 193 = mhour nC nP (S 188 1) a1 a2 (A 193) ∧ ∀ i, i ≠ 193 → A' i = A i) := by
  refine MV.of (cc := cX11_hourBy) (maxL := 6) (ret := none) RX11 rfl (by decide) rfl ?_
  intro pg e s m below meth cd C hM
  have hx := C.1
  have hb := C.2.1
  have hts := C.2.2.2.2.1
  have hA : ∀ q, s.heap.size ≤ q → qAr ad s.heap.size q := fun _ h => Or.inr h
  have hi11 : ∀ w ∈ u_ws RX11 TX11 45, w ∈ wsX11_hourBy := by decide +kernel
  have hL0 := hts (.fieldLink RX11 97 "CrowFencesModel" "posts" "I") (by decide +kernel)
  have hL1 := hts (.fieldLink RX11 90 "CrowFencesModel" "cells" "I") (by decide +kernel)
  have hL2 := hts (.fieldLink RX11 22 "CrowFencesModel" "now" "[I") (by decide +kernel)
  have hL3 := hts (.fieldLink RX11 180 "CrowFencesModel" "holds" "I") (by decide +kernel)
  have hl := lv_entry ([.ref (ad 188), .int a1, .int a2]) (n := 6) (Nat.le_of_ble_eq_true rfl)
  rw [lg_entry_eq]
  generalize (lg_sl ([.ref (ad 188), .int a1, .int a2]) ++ List.replicate (6 - (lg_sl ([.ref (ad 188), .int a1, .int a2])).length) Slot.unset).toArray = ls at hl ⊢
  have hl : lv_has ls 6 [(0, .ref (ad 188)), (1, .int a1), (2, .int a2)] := hl
  refine lv_iload_n hx hb dX11_hourBy_0 rfl (lv_at hl 1 rfl) ?_
  refine lv_bipush (v := 9) hx hb dX11_hourBy_1 (by decide) ?_
  refine lv_isub hx hb dX11_hourBy_3 ?_
  refine lv_topi (fun x3_1 ex3_1 => ?_)
  refine lv_istore_n (lv' := [(3, .int x3_1), (0, .ref (ad 188)), (1, .int a1), (2, .int a2)]) hx hb dX11_hourBy_4 rfl hl (by decide) rfl (fun ls hl => ?_)
  have join15 : ∀ (fo : Int32) (hfo : fo = mforce a1) (H : Heap) (locs : List Loc) (ls : Array Slot), qM E ad S A b (qAr ad s.heap.size) s H locs → lv_has ls 6 [(3, .int x3_1), (0, .ref (ad 188)), (1, .int a1), (2, .int a2)] → W pg l e (headSpec wsX11_hourBy { frames := 3, cells := 0, slots := 0, locals := 70 }).room s m ([.ref (ad 188), .int a1, .int a2] : List Value).toArray below meth cd H locs 0 0 (MQ below (qQv E ad s.heap.size (fun S' A' b' => (S = S' ∧ b = b') ∧ A' 193 = mhour nC nP (S 188 1) a1 a2 (A 193) ∧ ∀ i, i ≠ 193 → A' i = A i)) ([.ref (ad 188), .int a1, .int a2] : List Value).toArray s 0 0 (qAr ad s.heap.size)) (F0 m 15 ls [.int fo]) := by
    intro fo hfo H locs ls hM hl
    refine lv_istore (lv' := [(4, .int fo), (3, .int x3_1), (0, .ref (ad 188)), (1, .int a1), (2, .int a2)]) hx hb dX11_hourBy_15 hl (by decide) rfl (fun ls hl => ?_)
    refine lv_iconst (v := 0) hx hb dX11_hourBy_17 (by decide) ?_
    refine lv_istore (lv' := [(5, .int 0), (4, .int fo), (3, .int x3_1), (0, .ref (ad 188)), (1, .int a1), (2, .int a2)]) hx hb dX11_hourBy_18 hl (by decide) rfl (fun ls hl => ?_)
    have loop20 : ∀ (fu : Nat) (k : Nat) (A20 : qA2) (hk : k ≤ nP) (hk0 : ¬ k = 0 → S 188 1 < mforce a1) (hr : A20 193 = upd (A 193) 24 (mst (A 193) k)) (hf : ∀ i, i ≠ 193 → A20 i = A i), nP - k < fu → ∀ (H : Heap) (locs : List Loc) (ls : Array Slot), qM E ad S A20 b (qAr ad s.heap.size) s H locs → lv_has ls 6 [(5, .int (nI k)), (4, .int fo), (3, .int x3_1), (0, .ref (ad 188)), (1, .int a1), (2, .int a2)] → W pg l e (headSpec wsX11_hourBy { frames := 3, cells := 0, slots := 0, locals := 70 }).room s m ([.ref (ad 188), .int a1, .int a2] : List Value).toArray below meth cd H locs 0 0 (MQ below (qQv E ad s.heap.size (fun S' A' b' => (S = S' ∧ b = b') ∧ A' 193 = mhour nC nP (S 188 1) a1 a2 (A 193) ∧ ∀ i, i ≠ 193 → A' i = A i)) ([.ref (ad 188), .int a1, .int a2] : List Value).toArray s 0 0 (qAr ad s.heap.size)) (F0 m 20 ls []) := by
      intro fu
      induction fu with
      | zero => intro k A20 hk hk0 hr hf hn; exact absurd hn (Nat.not_lt_zero _)
      | succ fu ih20 =>
        intro k A20 hk hk0 hr hf hn H locs ls hM hl
        refine lv_iload hx hb dX11_hourBy_20 (lv_at hl 0 rfl) ?_
        refine lv_aload_n hx hb dX11_hourBy_22 rfl (lv_at hl 3 rfl) ?_
        refine q_get (o := 188) (ci := 11) (k := 4) (T := TX11) (v := .int (S 188 4)) C hM (qmem_11 E ad S A20 b (show qk 188 = 11 from by decide +kernel)) (by decide) rfl hi11 (by decide) hL0 rfl rfl dX11_hourBy_23 ?_
        refine lv_as (y := nI nP) hPo ?_
        refine lv_icmp_ge (tgt := 77) hx hb dX11_hourBy_26 (by decide) (fun c_26 => ?_) (fun c_26 => ?_)
        · skip
          have c_26 : nP ≤ k := (nI_leI (a := nP) (b := k) (by omega) (by omega)).mp c_26
          refine lv_iload_n hx hb dX11_hourBy_77 rfl (lv_at hl 2 rfl) ?_
          have hm1 : A20 193 = mrow1 nP (S 188 1) a1 (A 193) := by rw [hr]; unfold mrow1; by_cases hB : S 188 1 < mforce a1; (rw [if_pos hB, show k = nP from by omega]); (rw [if_neg hB, show k = 0 from Classical.byContradiction (fun z => hB (hk0 z))])
          refine lv_if_eq (tgt := 90) hx hb dX11_hourBy_78 (by decide) (fun c_78 => ?_) (fun c_78 => ?_)
          · skip
            refine lv_iconst (v := 0) hx hb dX11_hourBy_90 (by decide) ?_
            refine lv_istore (lv' := [(5, .int 0), (4, .int fo), (3, .int x3_1), (0, .ref (ad 188)), (1, .int a1), (2, .int a2)]) hx hb dX11_hourBy_91 hl (by decide) rfl (fun ls hl => ?_)
            have loop93 : ∀ (fu : Nat) (k2 : Nat) (A93 : qA2) (hk2 : k2 ≤ nC) (hr2 : A93 193 = qmap (fun _ x => qmin9 (x + a2)) (A20 193) k2) (hf2 : ∀ i, i ≠ 193 → A93 i = A20 i), nC - k2 < fu → ∀ (H : Heap) (locs : List Loc) (ls : Array Slot), qM E ad S A93 b (qAr ad s.heap.size) s H locs → lv_has ls 6 [(5, .int (nI k2)), (4, .int fo), (3, .int x3_1), (0, .ref (ad 188)), (1, .int a1), (2, .int a2)] → W pg l e (headSpec wsX11_hourBy { frames := 3, cells := 0, slots := 0, locals := 70 }).room s m ([.ref (ad 188), .int a1, .int a2] : List Value).toArray below meth cd H locs 0 0 (MQ below (qQv E ad s.heap.size (fun S' A' b' => (S = S' ∧ b = b') ∧ A' 193 = mhour nC nP (S 188 1) a1 a2 (A 193) ∧ ∀ i, i ≠ 193 → A' i = A i)) ([.ref (ad 188), .int a1, .int a2] : List Value).toArray s 0 0 (qAr ad s.heap.size)) (F0 m 93 ls []) := by
              intro fu
              induction fu with
              | zero => intro k2 A93 hk2 hr2 hf2 hn; exact absurd hn (Nat.not_lt_zero _)
              | succ fu ih93 =>
                intro k2 A93 hk2 hr2 hf2 hn H locs ls hM hl
                refine lv_iload hx hb dX11_hourBy_93 (lv_at hl 0 rfl) ?_
                refine lv_aload_n hx hb dX11_hourBy_95 rfl (lv_at hl 3 rfl) ?_
                refine q_get (o := 188) (ci := 11) (k := 0) (T := TX11) (v := .int (S 188 0)) C hM (qmem_11 E ad S A93 b (show qk 188 = 11 from by decide +kernel)) (by decide) rfl hi11 (by decide) hL1 rfl rfl dX11_hourBy_96 ?_
                refine lv_as (y := nI nC) hC ?_
                refine lv_icmp_ge (tgt := 115) hx hb dX11_hourBy_99 (by decide) (fun c_99 => ?_) (fun c_99 => ?_)
                · skip
                  have c_99 : nC ≤ k2 := (nI_leI (a := nC) (b := k2) (by omega) (by omega)).mp c_99
                  refine lv_aload_n hx hb dX11_hourBy_115 rfl (lv_at hl 3 rfl) ?_
                  refine q_get (o := 188) (ci := 11) (k := 11) (T := TX11) (v := .ref (ad 193)) C hM (qmem_11 E ad S A93 b (show qk 188 = 11 from by decide +kernel)) (by decide) rfl hi11 (by decide) hL2 rfl rfl dX11_hourBy_116 ?_
                  refine lv_bipush (v := 35) hx hb dX11_hourBy_119 (by decide) ?_
                  refine lv_dup2_11 hx hb dX11_hourBy_121 rfl rfl ?_
                  refine q_iald (v := A93 193 35) C hM (show qk 193 = 12 from by decide +kernel) (by rw [(show ql 193 = 37 from by decide +kernel)]; exact (vp_nI (by decide) (by decide) : vp_in (nI 35) 37)) (by rw [show Int32.toNatClampNeg 35 = 35 from by decide]) dX11_hourBy_122 ?_
                  refine lv_iconst (v := 1) hx hb dX11_hourBy_123 (by decide) ?_
                  refine lv_iadd hx hb dX11_hourBy_124 ?_
                  refine lv_topi (fun v_2 ev_2 => ?_)
                  refine q_iast C hM (show qk 193 = 12 from by decide +kernel) (by rw [(show ql 193 = 37 from by decide +kernel)]; exact (vp_nI (by decide) (by decide) : vp_in (nI 35) 37)) dX11_hourBy_125 (fun H locs hM => ?_)
                  rw [show Int32.toNatClampNeg 35 = 35 from by decide] at hM
                  obtain ⟨A_3, eA_3⟩ : ∃ zz, zz = q2 A93 193 35 v_2 := ⟨_, rfl⟩
                  rw [← eA_3] at hM
                  exact q_vret C hM dX11_hourBy_126 (by have h9 : a1 - 9 = 0 := ex3_1.symm.trans c_78; have hm2 : A93 193 = mrow2 nC nP a1 a2 (mrow1 nP (S 188 1) a1 (A 193)) := (by rw [hr2, show k2 = nC by omega, hm1]; unfold mrow2; rw [if_pos h9]); exact ⟨⟨rfl, rfl⟩, by rw [eA_3, q2_row, ev_2, hm2]; rfl, fun i hi => by rw [eA_3, q2_or _ _ hi, hf2 i hi, hf i hi]⟩)
                · skip
                  have c_99 : ¬ (nC ≤ k2) := fun z => c_99 ((nI_leI (a := nC) (b := k2) (by omega) (by omega)).mpr z)
                  refine lv_aload_n hx hb dX11_hourBy_102 rfl (lv_at hl 3 rfl) ?_
                  refine lv_iload hx hb dX11_hourBy_103 (lv_at hl 0 rfl) ?_
                  refine lv_iload_n hx hb dX11_hourBy_105 rfl (lv_at hl 5 rfl) ?_
                  refine q_callVV (n := 2) (o := 188) (As := [.int (nI k2), .int a2]) (rest := []) C hM hA (c_X11_lay E ad l S A93 b k2 (by omega) a2) (qmem_11 E ad S A93 b (show qk 188 = 11 from by decide +kernel)) (by decide) rfl gX11_hourBy_X11_lay rfl rfl rfl (by decide +kernel) ⟨Nat.le_of_ble_eq_true rfl, Nat.le_of_ble_eq_true rfl⟩ rfl hl.1 rfl (Nat.le_of_ble_eq_true rfl) ⟨Nat.zero_le _, Nat.zero_le _⟩ dX11_hourBy_106 (fun S_5 A_6 b_7 H locs qr_4 hM => ?_)
                  obtain ⟨⟨e1, e3⟩, eA_6⟩ := qr_4
                  subst e1; subst e3
                  refine lv_iinc (v := nI (k2 + 1)) (lv' := [(5, .int (nI (k2 + 1))), (4, .int fo), (3, .int x3_1), (0, .ref (ad 188)), (1, .int a1), (2, .int a2)]) hx hb dX11_hourBy_109 hl (k := 0) rfl (by rw [nI_succ]; rfl) (by decide) rfl (fun ls hl => ?_)
                  refine lv_goto (tgt := 93) hx hb dX11_hourBy_112 (by decide) ?_
                  exact ih93 (k2 + 1) A_6 (by omega) (by rw [eA_6, q2_row, hr2]; exact qmap_s _ _ _ _ (by rw [qmap_at])) (by rw [eA_6]; exact qfr_up hf2) (by omega) _ _ _ hM hl
            exact loop93 (nC - 0 + 1) 0 A20 (by omega) ((qmap_0 _ _).symm) (fun _ _ => rfl) (Nat.lt_succ_self _) _ _ _ hM hl
          · skip
            refine lv_aload_n hx hb dX11_hourBy_81 rfl (lv_at hl 3 rfl) ?_
            refine lv_iload_n hx hb dX11_hourBy_82 rfl (lv_at hl 2 rfl) ?_
            refine lv_iload_n hx hb dX11_hourBy_83 rfl (lv_at hl 5 rfl) ?_
            refine q_callVV (n := 2) (o := 188) (As := [.int x3_1, .int a2]) (rest := []) C hM hA (c_X11_blow E ad l S A20 b x3_1 a2 nC hC (by omega) nP hPo (by omega)) (qmem_11 E ad S A20 b (show qk 188 = 11 from by decide +kernel)) (by decide) rfl gX11_hourBy_X11_blow rfl rfl rfl (by decide +kernel) ⟨Nat.le_of_ble_eq_true rfl, Nat.le_of_ble_eq_true rfl⟩ rfl hl.1 rfl (Nat.le_of_ble_eq_true rfl) ⟨Nat.zero_le _, Nat.zero_le _⟩ dX11_hourBy_84 (fun S_9 A_10 b_11 H locs qr_8 hM => ?_)
            obtain ⟨⟨e1, e3⟩, hrA_10, hfA_10⟩ := qr_8
            subst e1; subst e3
            refine lv_goto (tgt := 115) hx hb dX11_hourBy_87 (by decide) ?_
            refine lv_aload_n hx hb dX11_hourBy_115 rfl (lv_at hl 3 rfl) ?_
            refine q_get (o := 188) (ci := 11) (k := 11) (T := TX11) (v := .ref (ad 193)) C hM (qmem_11 E ad S A_10 b (show qk 188 = 11 from by decide +kernel)) (by decide) rfl hi11 (by decide) hL2 rfl rfl dX11_hourBy_116 ?_
            refine lv_bipush (v := 35) hx hb dX11_hourBy_119 (by decide) ?_
            refine lv_dup2_11 hx hb dX11_hourBy_121 rfl rfl ?_
            refine q_iald (v := A_10 193 35) C hM (show qk 193 = 12 from by decide +kernel) (by rw [(show ql 193 = 37 from by decide +kernel)]; exact (vp_nI (by decide) (by decide) : vp_in (nI 35) 37)) (by rw [show Int32.toNatClampNeg 35 = 35 from by decide]) dX11_hourBy_122 ?_
            refine lv_iconst (v := 1) hx hb dX11_hourBy_123 (by decide) ?_
            refine lv_iadd hx hb dX11_hourBy_124 ?_
            refine lv_topi (fun v_12 ev_12 => ?_)
            refine q_iast C hM (show qk 193 = 12 from by decide +kernel) (by rw [(show ql 193 = 37 from by decide +kernel)]; exact (vp_nI (by decide) (by decide) : vp_in (nI 35) 37)) dX11_hourBy_125 (fun H locs hM => ?_)
            rw [show Int32.toNatClampNeg 35 = 35 from by decide] at hM
            obtain ⟨A_13, eA_13⟩ : ∃ zz, zz = q2 A_10 193 35 v_12 := ⟨_, rfl⟩
            rw [← eA_13] at hM
            exact q_vret C hM dX11_hourBy_126 (by have h9 : ¬ a1 - 9 = 0 := fun z => c_78 (ex3_1.trans z); have hm2 : A_10 193 = mrow2 nC nP a1 a2 (mrow1 nP (S 188 1) a1 (A 193)) := (by rw [hrA_10, hm1, ex3_1]; unfold mrow2; rw [if_neg h9]); exact ⟨⟨rfl, rfl⟩, by rw [eA_13, q2_row, ev_12, hm2]; rfl, fun i hi => by rw [eA_13, q2_or _ _ hi, hfA_10 i hi, hf i hi]⟩)
        · skip
          have c_26 : ¬ (nP ≤ k) := fun z => c_26 ((nI_leI (a := nP) (b := k) (by omega) (by omega)).mpr z)
          refine lv_iload hx hb dX11_hourBy_29 (lv_at hl 1 rfl) ?_
          refine lv_aload_n hx hb dX11_hourBy_31 rfl (lv_at hl 3 rfl) ?_
          refine q_get (o := 188) (ci := 11) (k := 1) (T := TX11) (v := .int (S 188 1)) C hM (qmem_11 E ad S A20 b (show qk 188 = 11 from by decide +kernel)) (by decide) rfl hi11 (by decide) hL3 rfl rfl dX11_hourBy_32 ?_
          refine lv_icmp_le (tgt := 77) hx hb dX11_hourBy_35 (by decide) (fun c_35 => ?_) (fun c_35 => ?_)
          · skip
            refine lv_iload_n hx hb dX11_hourBy_77 rfl (lv_at hl 2 rfl) ?_
            have hm1 : A20 193 = mrow1 nP (S 188 1) a1 (A 193) := by rw [hr]; unfold mrow1; by_cases hB : S 188 1 < mforce a1; (rw [if_pos hB, show k = nP from absurd (show mforce a1 ≤ S 188 1 from hfo ▸ c_35) (Int32.not_le.mpr hB)]); (rw [if_neg hB, show k = 0 from Classical.byContradiction (fun z => hB (hk0 z))])
            refine lv_if_eq (tgt := 90) hx hb dX11_hourBy_78 (by decide) (fun c_78 => ?_) (fun c_78 => ?_)
            · skip
              refine lv_iconst (v := 0) hx hb dX11_hourBy_90 (by decide) ?_
              refine lv_istore (lv' := [(5, .int 0), (4, .int fo), (3, .int x3_1), (0, .ref (ad 188)), (1, .int a1), (2, .int a2)]) hx hb dX11_hourBy_91 hl (by decide) rfl (fun ls hl => ?_)
              have loop93 : ∀ (fu : Nat) (k2 : Nat) (A93 : qA2) (hk2 : k2 ≤ nC) (hr2 : A93 193 = qmap (fun _ x => qmin9 (x + a2)) (A20 193) k2) (hf2 : ∀ i, i ≠ 193 → A93 i = A20 i), nC - k2 < fu → ∀ (H : Heap) (locs : List Loc) (ls : Array Slot), qM E ad S A93 b (qAr ad s.heap.size) s H locs → lv_has ls 6 [(5, .int (nI k2)), (4, .int fo), (3, .int x3_1), (0, .ref (ad 188)), (1, .int a1), (2, .int a2)] → W pg l e (headSpec wsX11_hourBy { frames := 3, cells := 0, slots := 0, locals := 70 }).room s m ([.ref (ad 188), .int a1, .int a2] : List Value).toArray below meth cd H locs 0 0 (MQ below (qQv E ad s.heap.size (fun S' A' b' => (S = S' ∧ b = b') ∧ A' 193 = mhour nC nP (S 188 1) a1 a2 (A 193) ∧ ∀ i, i ≠ 193 → A' i = A i)) ([.ref (ad 188), .int a1, .int a2] : List Value).toArray s 0 0 (qAr ad s.heap.size)) (F0 m 93 ls []) := by
                intro fu
                induction fu with
                | zero => intro k2 A93 hk2 hr2 hf2 hn; exact absurd hn (Nat.not_lt_zero _)
                | succ fu ih93 =>
                  intro k2 A93 hk2 hr2 hf2 hn H locs ls hM hl
                  refine lv_iload hx hb dX11_hourBy_93 (lv_at hl 0 rfl) ?_
                  refine lv_aload_n hx hb dX11_hourBy_95 rfl (lv_at hl 3 rfl) ?_
                  refine q_get (o := 188) (ci := 11) (k := 0) (T := TX11) (v := .int (S 188 0)) C hM (qmem_11 E ad S A93 b (show qk 188 = 11 from by decide +kernel)) (by decide) rfl hi11 (by decide) hL1 rfl rfl dX11_hourBy_96 ?_
                  refine lv_as (y := nI nC) hC ?_
                  refine lv_icmp_ge (tgt := 115) hx hb dX11_hourBy_99 (by decide) (fun c_99 => ?_) (fun c_99 => ?_)
                  · skip
                    have c_99 : nC ≤ k2 := (nI_leI (a := nC) (b := k2) (by omega) (by omega)).mp c_99
                    refine lv_aload_n hx hb dX11_hourBy_115 rfl (lv_at hl 3 rfl) ?_
                    refine q_get (o := 188) (ci := 11) (k := 11) (T := TX11) (v := .ref (ad 193)) C hM (qmem_11 E ad S A93 b (show qk 188 = 11 from by decide +kernel)) (by decide) rfl hi11 (by decide) hL2 rfl rfl dX11_hourBy_116 ?_
                    refine lv_bipush (v := 35) hx hb dX11_hourBy_119 (by decide) ?_
                    refine lv_dup2_11 hx hb dX11_hourBy_121 rfl rfl ?_
                    refine q_iald (v := A93 193 35) C hM (show qk 193 = 12 from by decide +kernel) (by rw [(show ql 193 = 37 from by decide +kernel)]; exact (vp_nI (by decide) (by decide) : vp_in (nI 35) 37)) (by rw [show Int32.toNatClampNeg 35 = 35 from by decide]) dX11_hourBy_122 ?_
                    refine lv_iconst (v := 1) hx hb dX11_hourBy_123 (by decide) ?_
                    refine lv_iadd hx hb dX11_hourBy_124 ?_
                    refine lv_topi (fun v_14 ev_14 => ?_)
                    refine q_iast C hM (show qk 193 = 12 from by decide +kernel) (by rw [(show ql 193 = 37 from by decide +kernel)]; exact (vp_nI (by decide) (by decide) : vp_in (nI 35) 37)) dX11_hourBy_125 (fun H locs hM => ?_)
                    rw [show Int32.toNatClampNeg 35 = 35 from by decide] at hM
                    obtain ⟨A_15, eA_15⟩ : ∃ zz, zz = q2 A93 193 35 v_14 := ⟨_, rfl⟩
                    rw [← eA_15] at hM
                    exact q_vret C hM dX11_hourBy_126 (by have h9 : a1 - 9 = 0 := ex3_1.symm.trans c_78; have hm2 : A93 193 = mrow2 nC nP a1 a2 (mrow1 nP (S 188 1) a1 (A 193)) := (by rw [hr2, show k2 = nC by omega, hm1]; unfold mrow2; rw [if_pos h9]); exact ⟨⟨rfl, rfl⟩, by rw [eA_15, q2_row, ev_14, hm2]; rfl, fun i hi => by rw [eA_15, q2_or _ _ hi, hf2 i hi, hf i hi]⟩)
                  · skip
                    have c_99 : ¬ (nC ≤ k2) := fun z => c_99 ((nI_leI (a := nC) (b := k2) (by omega) (by omega)).mpr z)
                    refine lv_aload_n hx hb dX11_hourBy_102 rfl (lv_at hl 3 rfl) ?_
                    refine lv_iload hx hb dX11_hourBy_103 (lv_at hl 0 rfl) ?_
                    refine lv_iload_n hx hb dX11_hourBy_105 rfl (lv_at hl 5 rfl) ?_
                    refine q_callVV (n := 2) (o := 188) (As := [.int (nI k2), .int a2]) (rest := []) C hM hA (c_X11_lay E ad l S A93 b k2 (by omega) a2) (qmem_11 E ad S A93 b (show qk 188 = 11 from by decide +kernel)) (by decide) rfl gX11_hourBy_X11_lay rfl rfl rfl (by decide +kernel) ⟨Nat.le_of_ble_eq_true rfl, Nat.le_of_ble_eq_true rfl⟩ rfl hl.1 rfl (Nat.le_of_ble_eq_true rfl) ⟨Nat.zero_le _, Nat.zero_le _⟩ dX11_hourBy_106 (fun S_17 A_18 b_19 H locs qr_16 hM => ?_)
                    obtain ⟨⟨e1, e3⟩, eA_18⟩ := qr_16
                    subst e1; subst e3
                    refine lv_iinc (v := nI (k2 + 1)) (lv' := [(5, .int (nI (k2 + 1))), (4, .int fo), (3, .int x3_1), (0, .ref (ad 188)), (1, .int a1), (2, .int a2)]) hx hb dX11_hourBy_109 hl (k := 0) rfl (by rw [nI_succ]; rfl) (by decide) rfl (fun ls hl => ?_)
                    refine lv_goto (tgt := 93) hx hb dX11_hourBy_112 (by decide) ?_
                    exact ih93 (k2 + 1) A_18 (by omega) (by rw [eA_18, q2_row, hr2]; exact qmap_s _ _ _ _ (by rw [qmap_at])) (by rw [eA_18]; exact qfr_up hf2) (by omega) _ _ _ hM hl
              exact loop93 (nC - 0 + 1) 0 A20 (by omega) ((qmap_0 _ _).symm) (fun _ _ => rfl) (Nat.lt_succ_self _) _ _ _ hM hl
            · skip
              refine lv_aload_n hx hb dX11_hourBy_81 rfl (lv_at hl 3 rfl) ?_
              refine lv_iload_n hx hb dX11_hourBy_82 rfl (lv_at hl 2 rfl) ?_
              refine lv_iload_n hx hb dX11_hourBy_83 rfl (lv_at hl 5 rfl) ?_
              refine q_callVV (n := 2) (o := 188) (As := [.int x3_1, .int a2]) (rest := []) C hM hA (c_X11_blow E ad l S A20 b x3_1 a2 nC hC (by omega) nP hPo (by omega)) (qmem_11 E ad S A20 b (show qk 188 = 11 from by decide +kernel)) (by decide) rfl gX11_hourBy_X11_blow rfl rfl rfl (by decide +kernel) ⟨Nat.le_of_ble_eq_true rfl, Nat.le_of_ble_eq_true rfl⟩ rfl hl.1 rfl (Nat.le_of_ble_eq_true rfl) ⟨Nat.zero_le _, Nat.zero_le _⟩ dX11_hourBy_84 (fun S_21 A_22 b_23 H locs qr_20 hM => ?_)
              obtain ⟨⟨e1, e3⟩, hrA_22, hfA_22⟩ := qr_20
              subst e1; subst e3
              refine lv_goto (tgt := 115) hx hb dX11_hourBy_87 (by decide) ?_
              refine lv_aload_n hx hb dX11_hourBy_115 rfl (lv_at hl 3 rfl) ?_
              refine q_get (o := 188) (ci := 11) (k := 11) (T := TX11) (v := .ref (ad 193)) C hM (qmem_11 E ad S A_22 b (show qk 188 = 11 from by decide +kernel)) (by decide) rfl hi11 (by decide) hL2 rfl rfl dX11_hourBy_116 ?_
              refine lv_bipush (v := 35) hx hb dX11_hourBy_119 (by decide) ?_
              refine lv_dup2_11 hx hb dX11_hourBy_121 rfl rfl ?_
              refine q_iald (v := A_22 193 35) C hM (show qk 193 = 12 from by decide +kernel) (by rw [(show ql 193 = 37 from by decide +kernel)]; exact (vp_nI (by decide) (by decide) : vp_in (nI 35) 37)) (by rw [show Int32.toNatClampNeg 35 = 35 from by decide]) dX11_hourBy_122 ?_
              refine lv_iconst (v := 1) hx hb dX11_hourBy_123 (by decide) ?_
              refine lv_iadd hx hb dX11_hourBy_124 ?_
              refine lv_topi (fun v_24 ev_24 => ?_)
              refine q_iast C hM (show qk 193 = 12 from by decide +kernel) (by rw [(show ql 193 = 37 from by decide +kernel)]; exact (vp_nI (by decide) (by decide) : vp_in (nI 35) 37)) dX11_hourBy_125 (fun H locs hM => ?_)
              rw [show Int32.toNatClampNeg 35 = 35 from by decide] at hM
              obtain ⟨A_25, eA_25⟩ : ∃ zz, zz = q2 A_22 193 35 v_24 := ⟨_, rfl⟩
              rw [← eA_25] at hM
              exact q_vret C hM dX11_hourBy_126 (by have h9 : ¬ a1 - 9 = 0 := fun z => c_78 (ex3_1.trans z); have hm2 : A_22 193 = mrow2 nC nP a1 a2 (mrow1 nP (S 188 1) a1 (A 193)) := (by rw [hrA_22, hm1, ex3_1]; unfold mrow2; rw [if_neg h9]); exact ⟨⟨rfl, rfl⟩, by rw [eA_25, q2_row, ev_24, hm2]; rfl, fun i hi => by rw [eA_25, q2_or _ _ hi, hfA_22 i hi, hf i hi]⟩)
          · skip
            refine lv_aload_n hx hb dX11_hourBy_38 rfl (lv_at hl 3 rfl) ?_
            refine q_get (o := 188) (ci := 11) (k := 11) (T := TX11) (v := .ref (ad 193)) C hM (qmem_11 E ad S A20 b (show qk 188 = 11 from by decide +kernel)) (by decide) rfl hi11 (by decide) hL2 rfl rfl dX11_hourBy_39 ?_
            refine lv_bipush (v := 24) hx hb dX11_hourBy_42 (by decide) ?_
            refine lv_dup2_11 hx hb dX11_hourBy_44 rfl rfl ?_
            refine q_iald (v := A20 193 24) C hM (show qk 193 = 12 from by decide +kernel) (by rw [(show ql 193 = 37 from by decide +kernel)]; exact (vp_nI (by decide) (by decide) : vp_in (nI 24) 37)) (by rw [show Int32.toNatClampNeg 24 = 24 from by decide]) dX11_hourBy_45 ?_
            refine lv_aload_n hx hb dX11_hourBy_46 rfl (lv_at hl 3 rfl) ?_
            refine q_get (o := 188) (ci := 11) (k := 11) (T := TX11) (v := .ref (ad 193)) C hM (qmem_11 E ad S A20 b (show qk 188 = 11 from by decide +kernel)) (by decide) rfl hi11 (by decide) hL2 rfl rfl dX11_hourBy_47 ?_
            refine lv_bipush (v := 18) hx hb dX11_hourBy_50 (by decide) ?_
            refine lv_iload hx hb dX11_hourBy_52 (lv_at hl 0 rfl) ?_
            refine lv_iadd hx hb dX11_hourBy_54 ?_
            refine lv_as (y := nI (18 + k)) (nI_add _ _) ?_
            refine q_iald (v := A20 193 (18 + k)) C hM (show qk 193 = 12 from by decide +kernel) (by rw [(show ql 193 = 37 from by decide +kernel)]; exact vp_nI (by omega) (by omega)) (by rw [nIc (by omega)]) dX11_hourBy_55 ?_
            refine lv_if_ge (tgt := 68) hx hb dX11_hourBy_56 (by decide) (fun c_56 => ?_) (fun c_56 => ?_)
            · skip
              refine lv_iconst (v := (-1)) hx hb dX11_hourBy_68 (by decide) ?_
              refine lv_iand hx hb dX11_hourBy_69 ?_
              refine lv_topi (fun v_26 ev_26 => ?_)
              refine q_iast C hM (show qk 193 = 12 from by decide +kernel) (by rw [(show ql 193 = 37 from by decide +kernel)]; exact (vp_nI (by decide) (by decide) : vp_in (nI 24) 37)) dX11_hourBy_70 (fun H locs hM => ?_)
              rw [show Int32.toNatClampNeg 24 = 24 from by decide] at hM
              obtain ⟨A_27, eA_27⟩ : ∃ zz, zz = q2 A20 193 24 v_26 := ⟨_, rfl⟩
              rw [← eA_27] at hM
              refine lv_iinc (v := nI (k + 1)) (lv' := [(5, .int (nI (k + 1))), (4, .int fo), (3, .int x3_1), (0, .ref (ad 188)), (1, .int a1), (2, .int a2)]) hx hb dX11_hourBy_71 hl (k := 0) rfl (by rw [nI_succ]; rfl) (by decide) rfl (fun ls hl => ?_)
              refine lv_goto (tgt := 20) hx hb dX11_hourBy_74 (by decide) ?_
              exact ih20 (k + 1) A_27 (by omega) (fun _ => by rw [hfo] at c_35; exact Int32.not_le.mp c_35) (by rw [eA_27, q2_row, ev_26, hr, upd_upd, upd_s]; congr 1; show _ = mst (A 193) k &&& _; rw [if_neg (fun z => Int32.not_le.mpr z (by rw [hr, upd_o _ _ (by omega)] at c_56; exact c_56))]) (by rw [eA_27]; exact qfr_up hf) (by omega) _ _ _ hM hl
            · skip
              refine lv_iconst (v := 1) hx hb dX11_hourBy_59 (by decide) ?_
              refine lv_iload hx hb dX11_hourBy_60 (lv_at hl 0 rfl) ?_
              refine lv_ishl hx hb dX11_hourBy_62 ?_
              refine lv_iconst (v := (-1)) hx hb dX11_hourBy_63 (by decide) ?_
              refine lv_ixor hx hb dX11_hourBy_64 ?_
              refine lv_goto (tgt := 69) hx hb dX11_hourBy_65 (by decide) ?_
              refine lv_iand hx hb dX11_hourBy_69 ?_
              refine lv_topi (fun v_28 ev_28 => ?_)
              refine q_iast C hM (show qk 193 = 12 from by decide +kernel) (by rw [(show ql 193 = 37 from by decide +kernel)]; exact (vp_nI (by decide) (by decide) : vp_in (nI 24) 37)) dX11_hourBy_70 (fun H locs hM => ?_)
              rw [show Int32.toNatClampNeg 24 = 24 from by decide] at hM
              obtain ⟨A_29, eA_29⟩ : ∃ zz, zz = q2 A20 193 24 v_28 := ⟨_, rfl⟩
              rw [← eA_29] at hM
              refine lv_iinc (v := nI (k + 1)) (lv' := [(5, .int (nI (k + 1))), (4, .int fo), (3, .int x3_1), (0, .ref (ad 188)), (1, .int a1), (2, .int a2)]) hx hb dX11_hourBy_71 hl (k := 0) rfl (by rw [nI_succ]; rfl) (by decide) rfl (fun ls hl => ?_)
              refine lv_goto (tgt := 20) hx hb dX11_hourBy_74 (by decide) ?_
              exact ih20 (k + 1) A_29 (by omega) (fun _ => by rw [hfo] at c_35; exact Int32.not_le.mp c_35) (by rw [eA_29, q2_row, ev_28, hr, upd_upd, upd_s]; congr 1; show _ = mst (A 193) k &&& _; rw [if_pos (by rw [hr, upd_o _ _ (by omega)] at c_56; exact Int32.not_le.mp c_56)]; rfl) (by rw [eA_29]; exact qfr_up hf) (by omega) _ _ _ hM hl
    exact loop20 (nP - 0 + 1) 0 A (by omega) (fun z => absurd rfl z) (by rw [show mst (A 193) 0 = A 193 24 from rfl]; exact (by funext j; by_cases hj : j = 24; (subst hj; rw [upd_s]); (rw [upd_o _ _ hj]))) (fun _ _ => rfl) (Nat.lt_succ_self _) _ _ _ hM hl
  refine lv_iload_n hx hb dX11_hourBy_5 rfl (lv_at hl 0 rfl) ?_
  refine lv_if_ge (tgt := 14) hx hb dX11_hourBy_6 (by decide) (fun c_6 => ?_) (fun c_6 => ?_)
  · skip
    refine lv_iload_n hx hb dX11_hourBy_14 rfl (lv_at hl 0 rfl) ?_
    exact join15 x3_1 (by rw [ex3_1] at c_6; unfold mforce; rw [ex3_1, if_neg (Int32.not_lt.mpr c_6)]) _ _ _ hM hl
  · skip
    refine lv_iload_n hx hb dX11_hourBy_9 rfl (lv_at hl 0 rfl) ?_
    refine lv_ineg hx hb dX11_hourBy_10 ?_
    refine lv_goto (tgt := 15) hx hb dX11_hourBy_11 (by decide) ?_
    exact join15 (-x3_1) (by rw [ex3_1] at c_6; unfold mforce; rw [ex3_1, if_pos (Int32.not_le.mp c_6)]) _ _ _ hM hl

set_option maxHeartbeats 4000000 in
set_option maxRecDepth 100000 in
theorem c_X11_pass (E : qE) (ad : Nat → Nat) (l : Launch) (S A : qA2) (b : qB) (nC : Nat) (hC : S 188 0 = nI nC) (hCb : nC ≤ 12) (nP : Nat) (hPo : S 188 4 = nI nP) (hPb : nP ≤ 6) (nW : Nat) (hWi : S 188 8 = nI nW) (hWb : nW ≤ 10) (nH : Nat) (hH : A 193 35 = nI nH) (hHb : nH ≤ 90000) : MV E ad l yX11_pass wsX11_pass { frames := 4, cells := 0, slots := 0, locals := 95 } [.ref (ad 188)] S A b (fun S' A' b' => (S = S' ∧ b = b') ∧ A' 193 = mhour nC nP (S 188 1) (qwind nW (A 191) (A 192) (A 193 35)).1 (qwind nW (A 191) (A 192) (A 193 35)).2 (A 193) ∧ ∀ i, i ≠ 193 → A' i = A i) := by
  refine MV.of (cc := cX11_pass) (maxL := 2) (ret := none) RX11 rfl (by decide) rfl ?_
  intro pg e s m below meth cd C hM
  have hx := C.1
  have hb := C.2.1
  have hts := C.2.2.2.2.1
  have hA : ∀ q, s.heap.size ≤ q → qAr ad s.heap.size q := fun _ h => Or.inr h
  have hi11 : ∀ w ∈ u_ws RX11 TX11 45, w ∈ wsX11_pass := by decide +kernel
  have hL0 := hts (.fieldLink RX11 189 "CrowFencesModel" "winds" "I") (by decide +kernel)
  have hL1 := hts (.fieldLink RX11 22 "CrowFencesModel" "now" "[I") (by decide +kernel)
  have hL2 := hts (.fieldLink RX11 16 "CrowFencesModel" "strong" "[I") (by decide +kernel)
  have hL3 := hts (.fieldLink RX11 19 "CrowFencesModel" "snows" "[I") (by decide +kernel)
  have hl := lv_entry ([.ref (ad 188)]) (n := 2) (Nat.le_of_ble_eq_true rfl)
  rw [lg_entry_eq]
  generalize (lg_sl ([.ref (ad 188)]) ++ List.replicate (2 - (lg_sl ([.ref (ad 188)])).length) Slot.unset).toArray = ls at hl ⊢
  have hl : lv_has ls 2 [(0, .ref (ad 188))] := hl
  refine lv_aload_n hx hb dX11_pass_0 rfl (lv_at hl 0 rfl) ?_
  refine q_get (o := 188) (ci := 11) (k := 8) (T := TX11) (v := .int (S 188 8)) C hM (qmem_11 E ad S A b (show qk 188 = 11 from by decide +kernel)) (by decide) rfl hi11 (by decide) hL0 rfl rfl dX11_pass_1 ?_
  refine lv_as (y := nI nW) hWi ?_
  refine lv_if_ne (tgt := 11) hx hb dX11_pass_4 (by decide) (fun c_4 => ?_) (fun c_4 => ?_)
  · skip
    have c_4 : ¬ (nW = 0) := fun z => c_4 ((nI_eq (a := nW) (b := 0) (by omega) (by omega)).mpr z)
    refine lv_aload_n hx hb dX11_pass_11 rfl (lv_at hl 0 rfl) ?_
    refine q_get (o := 188) (ci := 11) (k := 11) (T := TX11) (v := .ref (ad 193)) C hM (qmem_11 E ad S A b (show qk 188 = 11 from by decide +kernel)) (by decide) rfl hi11 (by decide) hL1 rfl rfl dX11_pass_12 ?_
    refine lv_bipush (v := 35) hx hb dX11_pass_15 (by decide) ?_
    refine q_iald (v := A 193 35) C hM (show qk 193 = 12 from by decide +kernel) (by rw [(show ql 193 = 37 from by decide +kernel)]; exact (vp_nI (by decide) (by decide) : vp_in (nI 35) 37)) (by rw [show Int32.toNatClampNeg 35 = 35 from by decide]) dX11_pass_17 ?_
    refine lv_as (y := nI nH) hH ?_
    refine lv_aload_n hx hb dX11_pass_18 rfl (lv_at hl 0 rfl) ?_
    refine q_get (o := 188) (ci := 11) (k := 8) (T := TX11) (v := .int (S 188 8)) C hM (qmem_11 E ad S A b (show qk 188 = 11 from by decide +kernel)) (by decide) rfl hi11 (by decide) hL0 rfl rfl dX11_pass_19 ?_
    refine lv_as (y := nI nW) hWi ?_
    refine lv_irem hx hb dX11_pass_22 (nI_ne0 (by omega) (by omega)) ?_
    have hm : nH % nW < nW := Nat.mod_lt _ (by omega)
    refine lv_as (y := nI (nH % nW)) (pk_rem (by omega) (by omega) (by omega)) ?_
    refine lv_istore_n (lv' := [(1, .int (nI (nH % nW))), (0, .ref (ad 188))]) hx hb dX11_pass_23 rfl hl (by decide) rfl (fun ls hl => ?_)
    refine lv_aload_n hx hb dX11_pass_24 rfl (lv_at hl 1 rfl) ?_
    refine lv_aload_n hx hb dX11_pass_25 rfl (lv_at hl 1 rfl) ?_
    refine q_get (o := 188) (ci := 11) (k := 8) (T := TX11) (v := .int (S 188 8)) C hM (qmem_11 E ad S A b (show qk 188 = 11 from by decide +kernel)) (by decide) rfl hi11 (by decide) hL0 rfl rfl dX11_pass_26 ?_
    refine lv_as (y := nI nW) hWi ?_
    refine lv_if_ne (tgt := 37) hx hb dX11_pass_29 (by decide) (fun c_29 => ?_) (fun c_29 => ?_)
    · skip
      have c_29 : ¬ (nW = 0) := fun z => c_29 ((nI_eq (a := nW) (b := 0) (by omega) (by omega)).mpr z)
      refine lv_aload_n hx hb dX11_pass_37 rfl (lv_at hl 1 rfl) ?_
      refine q_get (o := 188) (ci := 11) (k := 9) (T := TX11) (v := .ref (ad 191)) C hM (qmem_11 E ad S A b (show qk 188 = 11 from by decide +kernel)) (by decide) rfl hi11 (by decide) hL2 rfl rfl dX11_pass_38 ?_
      refine lv_iload_n hx hb dX11_pass_41 rfl (lv_at hl 0 rfl) ?_
      refine q_iald (v := A 191 (nH % nW)) C hM (show qk 191 = 12 from by decide +kernel) (by rw [(show ql 191 = 10 from by decide +kernel)]; exact vp_nI (by omega) (by omega)) (by rw [nIc (by omega)]) dX11_pass_42 ?_
      refine lv_aload_n hx hb dX11_pass_43 rfl (lv_at hl 1 rfl) ?_
      refine q_get (o := 188) (ci := 11) (k := 8) (T := TX11) (v := .int (S 188 8)) C hM (qmem_11 E ad S A b (show qk 188 = 11 from by decide +kernel)) (by decide) rfl hi11 (by decide) hL0 rfl rfl dX11_pass_44 ?_
      refine lv_as (y := nI nW) hWi ?_
      refine lv_if_ne (tgt := 54) hx hb dX11_pass_47 (by decide) (fun c_47 => ?_) (fun c_47 => ?_)
      · skip
        have c_47 : ¬ (nW = 0) := fun z => c_47 ((nI_eq (a := nW) (b := 0) (by omega) (by omega)).mpr z)
        refine lv_aload_n hx hb dX11_pass_54 rfl (lv_at hl 1 rfl) ?_
        refine q_get (o := 188) (ci := 11) (k := 10) (T := TX11) (v := .ref (ad 192)) C hM (qmem_11 E ad S A b (show qk 188 = 11 from by decide +kernel)) (by decide) rfl hi11 (by decide) hL3 rfl rfl dX11_pass_55 ?_
        refine lv_iload_n hx hb dX11_pass_58 rfl (lv_at hl 0 rfl) ?_
        refine q_iald (v := A 192 (nH % nW)) C hM (show qk 192 = 12 from by decide +kernel) (by rw [(show ql 192 = 10 from by decide +kernel)]; exact vp_nI (by omega) (by omega)) (by rw [nIc (by omega)]) dX11_pass_59 ?_
        refine q_callVV (n := 2) (o := 188) (As := [.int (A 191 (nH % nW)), .int (A 192 (nH % nW))]) (rest := []) C hM hA (c_X11_hourBy E ad l S A b (A 191 (nH % nW)) (A 192 (nH % nW)) nC hC (by omega) nP hPo (by omega)) (qmem_11 E ad S A b (show qk 188 = 11 from by decide +kernel)) (by decide) rfl gX11_pass_X11_hourBy rfl rfl rfl (by decide +kernel) ⟨Nat.le_of_ble_eq_true rfl, Nat.le_of_ble_eq_true rfl⟩ rfl hl.1 rfl (Nat.le_of_ble_eq_true rfl) ⟨Nat.zero_le _, Nat.zero_le _⟩ dX11_pass_60 (fun S_2 A_3 b_4 H locs qr_1 hM => ?_)
        obtain ⟨⟨e1, e3⟩, hrA_3, hfA_3⟩ := qr_1
        subst e1; subst e3
        exact q_vret C hM dX11_pass_63 (by exact ⟨⟨rfl, rfl⟩, by rw [hrA_3]; unfold qwind; rw [if_neg c_4, hH, pk_rem (by omega) (by omega) (by omega), nIc (by omega)], hfA_3⟩)
      · skip
        have c_47 : nW = 0 := (nI_eq (a := nW) (b := 0) (by omega) (by omega)).mp c_47
        omega
    · skip
      have c_29 : nW = 0 := (nI_eq (a := nW) (b := 0) (by omega) (by omega)).mp c_29
      omega
  · skip
    have c_4 : nW = 0 := (nI_eq (a := nW) (b := 0) (by omega) (by omega)).mp c_4
    refine lv_iconst (v := 0) hx hb dX11_pass_7 (by decide) ?_
    refine lv_goto (tgt := 23) hx hb dX11_pass_8 (by decide) ?_
    refine lv_istore_n (lv' := [(1, .int 0), (0, .ref (ad 188))]) hx hb dX11_pass_23 rfl hl (by decide) rfl (fun ls hl => ?_)
    refine lv_aload_n hx hb dX11_pass_24 rfl (lv_at hl 1 rfl) ?_
    refine lv_aload_n hx hb dX11_pass_25 rfl (lv_at hl 1 rfl) ?_
    refine q_get (o := 188) (ci := 11) (k := 8) (T := TX11) (v := .int (S 188 8)) C hM (qmem_11 E ad S A b (show qk 188 = 11 from by decide +kernel)) (by decide) rfl hi11 (by decide) hL0 rfl rfl dX11_pass_26 ?_
    refine lv_as (y := nI nW) hWi ?_
    refine lv_if_ne (tgt := 37) hx hb dX11_pass_29 (by decide) (fun c_29 => ?_) (fun c_29 => ?_)
    · skip
      have c_29 : ¬ (nW = 0) := fun z => c_29 ((nI_eq (a := nW) (b := 0) (by omega) (by omega)).mpr z)
      omega
    · skip
      have c_29 : nW = 0 := (nI_eq (a := nW) (b := 0) (by omega) (by omega)).mp c_29
      refine lv_bipush (v := 9) hx hb dX11_pass_32 (by decide) ?_
      refine lv_goto (tgt := 43) hx hb dX11_pass_34 (by decide) ?_
      refine lv_aload_n hx hb dX11_pass_43 rfl (lv_at hl 1 rfl) ?_
      refine q_get (o := 188) (ci := 11) (k := 8) (T := TX11) (v := .int (S 188 8)) C hM (qmem_11 E ad S A b (show qk 188 = 11 from by decide +kernel)) (by decide) rfl hi11 (by decide) hL0 rfl rfl dX11_pass_44 ?_
      refine lv_as (y := nI nW) hWi ?_
      refine lv_if_ne (tgt := 54) hx hb dX11_pass_47 (by decide) (fun c_47 => ?_) (fun c_47 => ?_)
      · skip
        have c_47 : ¬ (nW = 0) := fun z => c_47 ((nI_eq (a := nW) (b := 0) (by omega) (by omega)).mpr z)
        omega
      · skip
        have c_47 : nW = 0 := (nI_eq (a := nW) (b := 0) (by omega) (by omega)).mp c_47
        refine lv_iconst (v := 0) hx hb dX11_pass_50 (by decide) ?_
        refine lv_goto (tgt := 60) hx hb dX11_pass_51 (by decide) ?_
        refine q_callVV (n := 2) (o := 188) (As := [.int 9, .int 0]) (rest := []) C hM hA (c_X11_hourBy E ad l S A b 9 0 nC hC (by omega) nP hPo (by omega)) (qmem_11 E ad S A b (show qk 188 = 11 from by decide +kernel)) (by decide) rfl gX11_pass_X11_hourBy rfl rfl rfl (by decide +kernel) ⟨Nat.le_of_ble_eq_true rfl, Nat.le_of_ble_eq_true rfl⟩ rfl hl.1 rfl (Nat.le_of_ble_eq_true rfl) ⟨Nat.zero_le _, Nat.zero_le _⟩ dX11_pass_60 (fun S_6 A_7 b_8 H locs qr_5 hM => ?_)
        obtain ⟨⟨e1, e3⟩, hrA_7, hfA_7⟩ := qr_5
        subst e1; subst e3
        exact q_vret C hM dX11_pass_63 (by exact ⟨⟨rfl, rfl⟩, by rw [hrA_7]; unfold qwind; rw [if_pos c_4], hfA_7⟩)

set_option maxHeartbeats 4000000 in
set_option maxRecDepth 100000 in
theorem c_X11_save (E : qE) (ad : Nat → Nat) (l : Launch) (S A : qA2) (b : qB) : MV E ad l yX11_save wsX11_save { frames := 0, cells := 0, slots := 0, locals := 0 } [.ref (ad 188)] S A b (fun S' A' b' => (S = S' ∧ b = b') ∧ A' 203 = qmap (fun k _ => A 193 k) (A 203) 37 ∧ ∀ i, i ≠ 203 → A' i = A i) := by
  refine MV.of (cc := cX11_save) (maxL := 2) (ret := none) RX11 rfl (by decide) rfl ?_
  intro pg e s m below meth cd C hM
  have hx := C.1
  have hb := C.2.1
  have hts := C.2.2.2.2.1
  have hA : ∀ q, s.heap.size ≤ q → qAr ad s.heap.size q := fun _ h => Or.inr h
  have hi11 : ∀ w ∈ u_ws RX11 TX11 45, w ∈ wsX11_save := by decide +kernel
  have hL0 := hts (.fieldLink RX11 56 "CrowFencesModel" "was" "[I") (by decide +kernel)
  have hL1 := hts (.fieldLink RX11 22 "CrowFencesModel" "now" "[I") (by decide +kernel)
  have hl := lv_entry ([.ref (ad 188)]) (n := 2) (Nat.le_of_ble_eq_true rfl)
  rw [lg_entry_eq]
  generalize (lg_sl ([.ref (ad 188)]) ++ List.replicate (2 - (lg_sl ([.ref (ad 188)])).length) Slot.unset).toArray = ls at hl ⊢
  have hl : lv_has ls 2 [(0, .ref (ad 188))] := hl
  refine lv_iconst (v := 0) hx hb dX11_save_0 (by decide) ?_
  refine lv_istore_n (lv' := [(1, .int 0), (0, .ref (ad 188))]) hx hb dX11_save_1 rfl hl (by decide) rfl (fun ls hl => ?_)
  have loop2 : ∀ (fu : Nat) (k : Nat) (A2 : qA2) (hk : k ≤ 37) (hr : A2 203 = qmap (fun k _ => A 193 k) (A 203) k) (hf : ∀ i, i ≠ 203 → A2 i = A i), 37 - k < fu → ∀ (H : Heap) (locs : List Loc) (ls : Array Slot), qM E ad S A2 b (qAr ad s.heap.size) s H locs → lv_has ls 2 [(1, .int (nI k)), (0, .ref (ad 188))] → W pg l e (headSpec wsX11_save { frames := 0, cells := 0, slots := 0, locals := 0 }).room s m ([.ref (ad 188)] : List Value).toArray below meth cd H locs 0 0 (MQ below (qQv E ad s.heap.size (fun S' A' b' => (S = S' ∧ b = b') ∧ A' 203 = qmap (fun k _ => A 193 k) (A 203) 37 ∧ ∀ i, i ≠ 203 → A' i = A i)) ([.ref (ad 188)] : List Value).toArray s 0 0 (qAr ad s.heap.size)) (F0 m 2 ls []) := by
    intro fu
    induction fu with
    | zero => intro k A2 hk hr hf hn; exact absurd hn (Nat.not_lt_zero _)
    | succ fu ih2 =>
      intro k A2 hk hr hf hn H locs ls hM hl
      refine lv_iload_n hx hb dX11_save_2 rfl (lv_at hl 0 rfl) ?_
      refine lv_bipush (v := 37) hx hb dX11_save_3 (by decide) ?_
      refine lv_icmp_ge (tgt := 26) hx hb dX11_save_5 (by decide) (fun c_5 => ?_) (fun c_5 => ?_)
      · skip
        have c_5 : 37 ≤ k := (nI_leI (a := 37) (b := k) (by omega) (by omega)).mp c_5
        exact q_vret C hM dX11_save_26 (by exact ⟨⟨rfl, rfl⟩, by rw [hr, show k = 37 by omega], hf⟩)
      · skip
        have c_5 : ¬ (37 ≤ k) := fun z => c_5 ((nI_leI (a := 37) (b := k) (by omega) (by omega)).mpr z)
        refine lv_aload_n hx hb dX11_save_8 rfl (lv_at hl 1 rfl) ?_
        refine q_get (o := 188) (ci := 11) (k := 32) (T := TX11) (v := .ref (ad 203)) C hM (qmem_11 E ad S A2 b (show qk 188 = 11 from by decide +kernel)) (by decide) rfl hi11 (by decide) hL0 rfl rfl dX11_save_9 ?_
        refine lv_iload_n hx hb dX11_save_12 rfl (lv_at hl 0 rfl) ?_
        refine lv_aload_n hx hb dX11_save_13 rfl (lv_at hl 1 rfl) ?_
        refine q_get (o := 188) (ci := 11) (k := 11) (T := TX11) (v := .ref (ad 193)) C hM (qmem_11 E ad S A2 b (show qk 188 = 11 from by decide +kernel)) (by decide) rfl hi11 (by decide) hL1 rfl rfl dX11_save_14 ?_
        refine lv_iload_n hx hb dX11_save_17 rfl (lv_at hl 0 rfl) ?_
        refine q_iald (v := A 193 k) C hM (show qk 193 = 12 from by decide +kernel) (by rw [(show ql 193 = 37 from by decide +kernel)]; exact vp_nI (by omega) (by omega)) (by rw [nIc (by omega)]; exact (show A2 193 k = A 193 k from by rw [hf 193 (by omega)])) dX11_save_18 ?_
        refine q_iast C hM (show qk 203 = 12 from by decide +kernel) (by rw [(show ql 203 = 37 from by decide +kernel)]; exact vp_nI (by omega) (by omega)) dX11_save_19 (fun H locs hM => ?_)
        rw [nIc (by omega)] at hM
        obtain ⟨A_1, eA_1⟩ : ∃ zz, zz = q2 A2 203 k (A 193 k) := ⟨_, rfl⟩
        rw [← eA_1] at hM
        refine lv_iinc (v := nI (k + 1)) (lv' := [(1, .int (nI (k + 1))), (0, .ref (ad 188))]) hx hb dX11_save_20 hl (k := 0) rfl (by rw [nI_succ]; rfl) (by decide) rfl (fun ls hl => ?_)
        refine lv_goto (tgt := 2) hx hb dX11_save_23 (by decide) ?_
        exact ih2 (k + 1) A_1 (by omega) (by rw [eA_1, q2_row, hr]; exact qmap_s _ _ _ _ rfl) (by rw [eA_1]; exact qfr_up hf) (by omega) _ _ _ hM hl
  exact loop2 (37 - 0 + 1) 0 A (by omega) ((qmap_0 _ _).symm) (fun _ _ => rfl) (Nat.lt_succ_self _) _ _ _ hM hl

set_option maxHeartbeats 4000000 in
set_option maxRecDepth 100000 in
theorem c_X11_putBack (E : qE) (ad : Nat → Nat) (l : Launch) (S A : qA2) (b : qB) : MV E ad l yX11_putBack wsX11_putBack { frames := 0, cells := 0, slots := 0, locals := 0 } [.ref (ad 188)] S A b (fun S' A' b' => (S = S' ∧ b = b') ∧ A' 193 = qmap (fun k _ => A 203 k) (A 193) 37 ∧ ∀ i, i ≠ 193 → A' i = A i) := by
  refine MV.of (cc := cX11_putBack) (maxL := 2) (ret := none) RX11 rfl (by decide) rfl ?_
  intro pg e s m below meth cd C hM
  have hx := C.1
  have hb := C.2.1
  have hts := C.2.2.2.2.1
  have hA : ∀ q, s.heap.size ≤ q → qAr ad s.heap.size q := fun _ h => Or.inr h
  have hi11 : ∀ w ∈ u_ws RX11 TX11 45, w ∈ wsX11_putBack := by decide +kernel
  have hL0 := hts (.fieldLink RX11 22 "CrowFencesModel" "now" "[I") (by decide +kernel)
  have hL1 := hts (.fieldLink RX11 56 "CrowFencesModel" "was" "[I") (by decide +kernel)
  have hl := lv_entry ([.ref (ad 188)]) (n := 2) (Nat.le_of_ble_eq_true rfl)
  rw [lg_entry_eq]
  generalize (lg_sl ([.ref (ad 188)]) ++ List.replicate (2 - (lg_sl ([.ref (ad 188)])).length) Slot.unset).toArray = ls at hl ⊢
  have hl : lv_has ls 2 [(0, .ref (ad 188))] := hl
  refine lv_iconst (v := 0) hx hb dX11_putBack_0 (by decide) ?_
  refine lv_istore_n (lv' := [(1, .int 0), (0, .ref (ad 188))]) hx hb dX11_putBack_1 rfl hl (by decide) rfl (fun ls hl => ?_)
  have loop2 : ∀ (fu : Nat) (k : Nat) (A2 : qA2) (hk : k ≤ 37) (hr : A2 193 = qmap (fun k _ => A 203 k) (A 193) k) (hf : ∀ i, i ≠ 193 → A2 i = A i), 37 - k < fu → ∀ (H : Heap) (locs : List Loc) (ls : Array Slot), qM E ad S A2 b (qAr ad s.heap.size) s H locs → lv_has ls 2 [(1, .int (nI k)), (0, .ref (ad 188))] → W pg l e (headSpec wsX11_putBack { frames := 0, cells := 0, slots := 0, locals := 0 }).room s m ([.ref (ad 188)] : List Value).toArray below meth cd H locs 0 0 (MQ below (qQv E ad s.heap.size (fun S' A' b' => (S = S' ∧ b = b') ∧ A' 193 = qmap (fun k _ => A 203 k) (A 193) 37 ∧ ∀ i, i ≠ 193 → A' i = A i)) ([.ref (ad 188)] : List Value).toArray s 0 0 (qAr ad s.heap.size)) (F0 m 2 ls []) := by
    intro fu
    induction fu with
    | zero => intro k A2 hk hr hf hn; exact absurd hn (Nat.not_lt_zero _)
    | succ fu ih2 =>
      intro k A2 hk hr hf hn H locs ls hM hl
      refine lv_iload_n hx hb dX11_putBack_2 rfl (lv_at hl 0 rfl) ?_
      refine lv_bipush (v := 37) hx hb dX11_putBack_3 (by decide) ?_
      refine lv_icmp_ge (tgt := 26) hx hb dX11_putBack_5 (by decide) (fun c_5 => ?_) (fun c_5 => ?_)
      · skip
        have c_5 : 37 ≤ k := (nI_leI (a := 37) (b := k) (by omega) (by omega)).mp c_5
        exact q_vret C hM dX11_putBack_26 (by exact ⟨⟨rfl, rfl⟩, by rw [hr, show k = 37 by omega], hf⟩)
      · skip
        have c_5 : ¬ (37 ≤ k) := fun z => c_5 ((nI_leI (a := 37) (b := k) (by omega) (by omega)).mpr z)
        refine lv_aload_n hx hb dX11_putBack_8 rfl (lv_at hl 1 rfl) ?_
        refine q_get (o := 188) (ci := 11) (k := 11) (T := TX11) (v := .ref (ad 193)) C hM (qmem_11 E ad S A2 b (show qk 188 = 11 from by decide +kernel)) (by decide) rfl hi11 (by decide) hL0 rfl rfl dX11_putBack_9 ?_
        refine lv_iload_n hx hb dX11_putBack_12 rfl (lv_at hl 0 rfl) ?_
        refine lv_aload_n hx hb dX11_putBack_13 rfl (lv_at hl 1 rfl) ?_
        refine q_get (o := 188) (ci := 11) (k := 32) (T := TX11) (v := .ref (ad 203)) C hM (qmem_11 E ad S A2 b (show qk 188 = 11 from by decide +kernel)) (by decide) rfl hi11 (by decide) hL1 rfl rfl dX11_putBack_14 ?_
        refine lv_iload_n hx hb dX11_putBack_17 rfl (lv_at hl 0 rfl) ?_
        refine q_iald (v := A 203 k) C hM (show qk 203 = 12 from by decide +kernel) (by rw [(show ql 203 = 37 from by decide +kernel)]; exact vp_nI (by omega) (by omega)) (by rw [nIc (by omega)]; exact (show A2 203 k = A 203 k from by rw [hf 203 (by omega)])) dX11_putBack_18 ?_
        refine q_iast C hM (show qk 193 = 12 from by decide +kernel) (by rw [(show ql 193 = 37 from by decide +kernel)]; exact vp_nI (by omega) (by omega)) dX11_putBack_19 (fun H locs hM => ?_)
        rw [nIc (by omega)] at hM
        obtain ⟨A_1, eA_1⟩ : ∃ zz, zz = q2 A2 193 k (A 203 k) := ⟨_, rfl⟩
        rw [← eA_1] at hM
        refine lv_iinc (v := nI (k + 1)) (lv' := [(1, .int (nI (k + 1))), (0, .ref (ad 188))]) hx hb dX11_putBack_20 hl (k := 0) rfl (by rw [nI_succ]; rfl) (by decide) rfl (fun ls hl => ?_)
        refine lv_goto (tgt := 2) hx hb dX11_putBack_23 (by decide) ?_
        exact ih2 (k + 1) A_1 (by omega) (by rw [eA_1, q2_row, hr]; exact qmap_s _ _ _ _ rfl) (by rw [eA_1]; exact qfr_up hf) (by omega) _ _ _ hM hl
  exact loop2 (37 - 0 + 1) 0 A (by omega) ((qmap_0 _ _).symm) (fun _ _ => rfl) (Nat.lt_succ_self _) _ _ _ hM hl

set_option maxHeartbeats 4000000 in
set_option maxRecDepth 100000 in
theorem c_X11_passAll (E : qE) (ad : Nat → Nat) (l : Launch) (S A : qA2) (b : qB) (n : Nat) (hn : n ≤ 100) (nC : Nat) (hC : S 188 0 = nI nC) (hCb : nC ≤ 12) (nP : Nat) (hPo : S 188 4 = nI nP) (hPb : nP ≤ 6) (nW : Nat) (hWi : S 188 8 = nI nW) (hWb : nW ≤ 10) (nH : Nat) (hH : A 193 35 = nI nH) (hHb : nH ≤ 80000) : MV E ad l yX11_passAll wsX11_passAll { frames := 5, cells := 0, slots := 0, locals := 116 } [.ref (ad 188), .int (nI n)] S A b (fun S' A' b' => (S = S' ∧ b = b') ∧ A' 193 = mpass nC nP nW (S 188 1) (A 191) (A 192) (A 193) n ∧ ∀ i, i ≠ 193 → A' i = A i) := by
  refine MV.of (cc := cX11_passAll) (maxL := 3) (ret := none) RX11 rfl (by decide) rfl ?_
  intro pg e s m below meth cd C hM
  have hx := C.1
  have hb := C.2.1
  have hts := C.2.2.2.2.1
  have hA : ∀ q, s.heap.size ≤ q → qAr ad s.heap.size q := fun _ h => Or.inr h
  have hl := lv_entry ([.ref (ad 188), .int (nI n)]) (n := 3) (Nat.le_of_ble_eq_true rfl)
  rw [lg_entry_eq]
  generalize (lg_sl ([.ref (ad 188), .int (nI n)]) ++ List.replicate (3 - (lg_sl ([.ref (ad 188), .int (nI n)])).length) Slot.unset).toArray = ls at hl ⊢
  have hl : lv_has ls 3 [(0, .ref (ad 188)), (1, .int (nI n))] := hl
  refine lv_iconst (v := 0) hx hb dX11_passAll_0 (by decide) ?_
  refine lv_istore_n (lv' := [(2, .int 0), (0, .ref (ad 188)), (1, .int (nI n))]) hx hb dX11_passAll_1 rfl hl (by decide) rfl (fun ls hl => ?_)
  have loop2 : ∀ (fu : Nat) (k : Nat) (A2 : qA2) (hk : k ≤ n) (hr : A2 193 = mpass nC nP nW (S 188 1) (A 191) (A 192) (A 193) k) (hf : ∀ i, i ≠ 193 → A2 i = A i) (hh : A2 193 35 = nI (nH + k)), n - k < fu → ∀ (H : Heap) (locs : List Loc) (ls : Array Slot), qM E ad S A2 b (qAr ad s.heap.size) s H locs → lv_has ls 3 [(2, .int (nI k)), (0, .ref (ad 188)), (1, .int (nI n))] → W pg l e (headSpec wsX11_passAll { frames := 5, cells := 0, slots := 0, locals := 116 }).room s m ([.ref (ad 188), .int (nI n)] : List Value).toArray below meth cd H locs 0 0 (MQ below (qQv E ad s.heap.size (fun S' A' b' => (S = S' ∧ b = b') ∧ A' 193 = mpass nC nP nW (S 188 1) (A 191) (A 192) (A 193) n ∧ ∀ i, i ≠ 193 → A' i = A i)) ([.ref (ad 188), .int (nI n)] : List Value).toArray s 0 0 (qAr ad s.heap.size)) (F0 m 2 ls []) := by
    intro fu
    induction fu with
    | zero => intro k A2 hk hr hf hh hn; exact absurd hn (Nat.not_lt_zero _)
    | succ fu ih2 =>
      intro k A2 hk hr hf hh hn H locs ls hM hl
      refine lv_iload_n hx hb dX11_passAll_2 rfl (lv_at hl 0 rfl) ?_
      refine lv_iload_n hx hb dX11_passAll_3 rfl (lv_at hl 2 rfl) ?_
      refine lv_icmp_ge (tgt := 17) hx hb dX11_passAll_4 (by decide) (fun c_4 => ?_) (fun c_4 => ?_)
      · skip
        have c_4 : n ≤ k := (nI_leI (a := n) (b := k) (by omega) (by omega)).mp c_4
        exact q_vret C hM dX11_passAll_17 (by exact ⟨⟨rfl, rfl⟩, by rw [hr, show k = n by omega], hf⟩)
      · skip
        have c_4 : ¬ (n ≤ k) := fun z => c_4 ((nI_leI (a := n) (b := k) (by omega) (by omega)).mpr z)
        refine lv_aload_n hx hb dX11_passAll_7 rfl (lv_at hl 1 rfl) ?_
        refine q_callVV (n := 0) (o := 188) (As := []) (rest := []) C hM hA (c_X11_pass E ad l S A2 b nC hC (by omega) nP hPo (by omega) nW hWi (by omega) (nH + k) hh (by omega)) (qmem_11 E ad S A2 b (show qk 188 = 11 from by decide +kernel)) (by decide) rfl gX11_passAll_X11_pass rfl rfl rfl (by decide +kernel) ⟨Nat.le_of_ble_eq_true rfl, Nat.le_of_ble_eq_true rfl⟩ rfl hl.1 rfl (Nat.le_of_ble_eq_true rfl) ⟨Nat.zero_le _, Nat.zero_le _⟩ dX11_passAll_8 (fun S_2 A_3 b_4 H locs qr_1 hM => ?_)
        obtain ⟨⟨e1, e3⟩, hrA_3, hfA_3⟩ := qr_1
        subst e1; subst e3
        refine lv_iinc (v := nI (k + 1)) (lv' := [(2, .int (nI (k + 1))), (0, .ref (ad 188)), (1, .int (nI n))]) hx hb dX11_passAll_11 hl (k := 0) rfl (by rw [nI_succ]; rfl) (by decide) rfl (fun ls hl => ?_)
        refine lv_goto (tgt := 2) hx hb dX11_passAll_14 (by decide) ?_
        exact ih2 (k + 1) A_3 (by omega) (by rw [hrA_3, hr, hf 191 (by omega), hf 192 (by omega)]; rfl) (fun i hi => (hfA_3 i hi).trans (hf i hi)) (by rw [hrA_3, mhour_35 (by omega), hh]; exact (nI_succ _).symm) (by omega) _ _ _ hM hl
  exact loop2 (n - 0 + 1) 0 A (by omega) rfl (fun _ _ => rfl) hH (Nat.lt_succ_self _) _ _ _ hM hl

set_option maxHeartbeats 4000000 in
set_option maxRecDepth 100000 in
theorem c_X11_remember (E : qE) (ad : Nat → Nat) (l : Launch) (S A : qA2) (b : qB) (nc : Nat) (hnc : S 188 30 = nI nc) (hncb : nc ≤ 20) : MV E ad l yX11_remember wsX11_remember { frames := 0, cells := 0, slots := 0, locals := 0 } [.ref (ad 188)] S A b (fun S' A' b' => b = b' ∧ S' = q2 S 188 30 (nI (min (nc + 1) 20)) ∧ (∀ i, i ≠ 202 → A' i = A i) ∧ (∀ k, k < 37 → A' 202 (37 * min nc 19 + k) = A 193 k) ∧ (∀ j, j < min nc 19 → ∀ k, k < 37 → A' 202 (37 * j + k) = A 202 (37 * (j + (if nc = 20 then 1 else 0)) + k))) := by
  refine MV.of (cc := cX11_remember) (maxL := 2) (ret := none) RX11 rfl (by decide) rfl ?_
  intro pg e s m below meth cd C hM
  have hx := C.1
  have hb := C.2.1
  have hts := C.2.2.2.2.1
  have hA : ∀ q, s.heap.size ≤ q → qAr ad s.heap.size q := fun _ h => Or.inr h
  have hi11 : ∀ w ∈ u_ws RX11 TX11 45, w ∈ wsX11_remember := by decide +kernel
  have hL0 := hts (.fieldLink RX11 204 "CrowFencesModel" "undos" "I") (by decide +kernel)
  have hL1 := hts (.fieldLink RX11 53 "CrowFencesModel" "past" "[I") (by decide +kernel)
  have hL2 := hts (.fieldLink RX11 22 "CrowFencesModel" "now" "[I") (by decide +kernel)
  have hl := lv_entry ([.ref (ad 188)]) (n := 2) (Nat.le_of_ble_eq_true rfl)
  rw [lg_entry_eq]
  generalize (lg_sl ([.ref (ad 188)]) ++ List.replicate (2 - (lg_sl ([.ref (ad 188)])).length) Slot.unset).toArray = ls at hl ⊢
  have hl : lv_has ls 2 [(0, .ref (ad 188))] := hl
  refine lv_aload_n hx hb dX11_remember_0 rfl (lv_at hl 0 rfl) ?_
  refine q_get (o := 188) (ci := 11) (k := 30) (T := TX11) (v := .int (S 188 30)) C hM (qmem_11 E ad S A b (show qk 188 = 11 from by decide +kernel)) (by decide) rfl hi11 (by decide) hL0 rfl rfl dX11_remember_1 ?_
  refine lv_as (y := nI nc) hnc ?_
  have join50 : ∀ (nm : Nat) (S50 : qA2) (A50 : qA2) (hnm : nm = min nc 19) (hS : S50 = q2 S 188 30 (nI nm)) (hf : ∀ i, i ≠ 202 → A50 i = A i) (hsh : ∀ j, j < nm → ∀ k, k < 37 → A50 202 (37 * j + k) = A 202 (37 * (j + (if nc = 20 then 1 else 0)) + k)) (H : Heap) (locs : List Loc) (ls : Array Slot), qM E ad S50 A50 b (qAr ad s.heap.size) s H locs → lv_has ls 2 [(0, .ref (ad 188))] → W pg l e (headSpec wsX11_remember { frames := 0, cells := 0, slots := 0, locals := 0 }).room s m ([.ref (ad 188)] : List Value).toArray below meth cd H locs 0 0 (MQ below (qQv E ad s.heap.size (fun S' A' b' => b = b' ∧ S' = q2 S 188 30 (nI (min (nc + 1) 20)) ∧ (∀ i, i ≠ 202 → A' i = A i) ∧ (∀ k, k < 37 → A' 202 (37 * min nc 19 + k) = A 193 k) ∧ (∀ j, j < min nc 19 → ∀ k, k < 37 → A' 202 (37 * j + k) = A 202 (37 * (j + (if nc = 20 then 1 else 0)) + k)))) ([.ref (ad 188)] : List Value).toArray s 0 0 (qAr ad s.heap.size)) (F0 m 50 ls []) := by
    intro nm S50 A50 hnm hS hf hsh H locs ls hM hl
    refine lv_iconst (v := 0) hx hb dX11_remember_50 (by decide) ?_
    refine lv_istore_n (lv' := [(1, .int 0), (0, .ref (ad 188))]) hx hb dX11_remember_51 rfl hl (by decide) rfl (fun ls hl => ?_)
    have loop52 : ∀ (fu : Nat) (k : Nat) (A52 : qA2) (hk : k ≤ 37) (h1 : ∀ j, j < k → A52 202 (37 * nm + j) = A 193 j) (h2 : ∀ j, j < nm → ∀ k, k < 37 → A52 202 (37 * j + k) = A50 202 (37 * j + k)) (hf2 : ∀ i, i ≠ 202 → A52 i = A50 i), 37 - k < fu → ∀ (H : Heap) (locs : List Loc) (ls : Array Slot), qM E ad S50 A52 b (qAr ad s.heap.size) s H locs → lv_has ls 2 [(1, .int (nI k)), (0, .ref (ad 188))] → W pg l e (headSpec wsX11_remember { frames := 0, cells := 0, slots := 0, locals := 0 }).room s m ([.ref (ad 188)] : List Value).toArray below meth cd H locs 0 0 (MQ below (qQv E ad s.heap.size (fun S' A' b' => b = b' ∧ S' = q2 S 188 30 (nI (min (nc + 1) 20)) ∧ (∀ i, i ≠ 202 → A' i = A i) ∧ (∀ k, k < 37 → A' 202 (37 * min nc 19 + k) = A 193 k) ∧ (∀ j, j < min nc 19 → ∀ k, k < 37 → A' 202 (37 * j + k) = A 202 (37 * (j + (if nc = 20 then 1 else 0)) + k)))) ([.ref (ad 188)] : List Value).toArray s 0 0 (qAr ad s.heap.size)) (F0 m 52 ls []) := by
      intro fu
      induction fu with
      | zero => intro k A52 hk h1 h2 hf2 hn; exact absurd hn (Nat.not_lt_zero _)
      | succ fu ih52 =>
        intro k A52 hk h1 h2 hf2 hn H locs ls hM hl
        refine lv_iload_n hx hb dX11_remember_52 rfl (lv_at hl 0 rfl) ?_
        refine lv_bipush (v := 37) hx hb dX11_remember_53 (by decide) ?_
        refine lv_icmp_ge (tgt := 84) hx hb dX11_remember_55 (by decide) (fun c_55 => ?_) (fun c_55 => ?_)
        · skip
          have c_55 : 37 ≤ k := (nI_leI (a := 37) (b := k) (by omega) (by omega)).mp c_55
          refine lv_aload_n hx hb dX11_remember_84 rfl (lv_at hl 1 rfl) ?_
          refine lv_dup hx hb dX11_remember_85 rfl ?_
          refine q_get (o := 188) (ci := 11) (k := 30) (T := TX11) (v := .int (nI nm)) C hM (qmem_11 E ad S50 A52 b (show qk 188 = 11 from by decide +kernel)) (by decide) rfl hi11 (by decide) hL0 rfl (congrArg (fun z => some (Value.int z)) (show S50 188 30 = nI nm from by rw [hS]; exact q2_s _ _ _ _)) dX11_remember_86 ?_
          refine lv_iconst (v := 1) hx hb dX11_remember_89 (by decide) ?_
          refine lv_iadd hx hb dX11_remember_90 ?_
          refine lv_as (y := nI (nm + 1)) (nI_add _ _) ?_
          refine q_put (o := 188) (ci := 11) (k := 30) (T := TX11) (ty := .int) (v := nI (nm + 1)) C hM (qmem_11 E ad S50 A52 b (show qk 188 = 11 from by decide +kernel)) (by decide) rfl hi11 tyX11 tyX11_ok nmX11 (by decide) hL0 rfl rfl (by decide +kernel) rfl rfl (Nat.le_of_ble_eq_true rfl) (qs_11_30 E ad S50 A52 b (show qk 188 = 11 from by decide +kernel) (nI (nm + 1))) dX11_remember_91 (fun H locs hM => ?_)
          obtain ⟨S_1, eS_1⟩ : ∃ zz, zz = q2 S50 188 30 (nI (nm + 1)) := ⟨_, rfl⟩
          rw [← eS_1] at hM
          exact q_vret C hM dX11_remember_94 (by have hmn : nm + 1 = min (nc + 1) 20 := (by omega); exact ⟨rfl, by rw [eS_1, hS, q2_q2, hmn], fun i hi => by rw [hf2 i hi, hf i hi], fun k3 hk3 => by rw [← hnm]; exact h1 k3 (by omega), fun j hj k3 hk3 => by rw [h2 j (by omega) k3 hk3]; exact hsh j (by omega) k3 hk3⟩)
        · skip
          have c_55 : ¬ (37 ≤ k) := fun z => c_55 ((nI_leI (a := 37) (b := k) (by omega) (by omega)).mpr z)
          refine lv_aload_n hx hb dX11_remember_58 rfl (lv_at hl 1 rfl) ?_
          refine q_get (o := 188) (ci := 11) (k := 31) (T := TX11) (v := .ref (ad 202)) C hM (qmem_11 E ad S50 A52 b (show qk 188 = 11 from by decide +kernel)) (by decide) rfl hi11 (by decide) hL1 rfl rfl dX11_remember_59 ?_
          refine lv_bipush (v := 37) hx hb dX11_remember_62 (by decide) ?_
          refine lv_aload_n hx hb dX11_remember_64 rfl (lv_at hl 1 rfl) ?_
          refine q_get (o := 188) (ci := 11) (k := 30) (T := TX11) (v := .int (nI nm)) C hM (qmem_11 E ad S50 A52 b (show qk 188 = 11 from by decide +kernel)) (by decide) rfl hi11 (by decide) hL0 rfl (congrArg (fun z => some (Value.int z)) (show S50 188 30 = nI nm from by rw [hS]; exact q2_s _ _ _ _)) dX11_remember_65 ?_
          refine lv_imul hx hb dX11_remember_68 ?_
          refine lv_as (y := nI (37 * nm)) (pk_mul _ _) ?_
          refine lv_iload_n hx hb dX11_remember_69 rfl (lv_at hl 0 rfl) ?_
          refine lv_iadd hx hb dX11_remember_70 ?_
          refine lv_as (y := nI ((37 * nm) + k)) (nI_add _ _) ?_
          refine lv_aload_n hx hb dX11_remember_71 rfl (lv_at hl 1 rfl) ?_
          refine q_get (o := 188) (ci := 11) (k := 11) (T := TX11) (v := .ref (ad 193)) C hM (qmem_11 E ad S50 A52 b (show qk 188 = 11 from by decide +kernel)) (by decide) rfl hi11 (by decide) hL2 rfl rfl dX11_remember_72 ?_
          refine lv_iload_n hx hb dX11_remember_75 rfl (lv_at hl 0 rfl) ?_
          refine q_iald (v := A 193 k) C hM (show qk 193 = 12 from by decide +kernel) (by rw [(show ql 193 = 37 from by decide +kernel)]; exact vp_nI (by omega) (by omega)) (by rw [nIc (by omega)]; exact (show A52 193 k = A 193 k from by rw [hf2 193 (by omega)]; rw [hf 193 (by omega)])) dX11_remember_76 ?_
          refine q_iast C hM (show qk 202 = 12 from by decide +kernel) (by rw [(show ql 202 = 740 from by decide +kernel)]; exact vp_nI (by omega) (by omega)) dX11_remember_77 (fun H locs hM => ?_)
          rw [nIc (by omega)] at hM
          obtain ⟨A_2, eA_2⟩ : ∃ zz, zz = q2 A52 202 ((37 * nm) + k) (A 193 k) := ⟨_, rfl⟩
          rw [← eA_2] at hM
          refine lv_iinc (v := nI (k + 1)) (lv' := [(1, .int (nI (k + 1))), (0, .ref (ad 188))]) hx hb dX11_remember_78 hl (k := 0) rfl (by rw [nI_succ]; rfl) (by decide) rfl (fun ls hl => ?_)
          refine lv_goto (tgt := 52) hx hb dX11_remember_81 (by decide) ?_
          exact ih52 (k + 1) A_2 (by omega) (fun j hj => by rw [eA_2, q2_row]; by_cases hz : j = k; (subst hz; rw [upd_s]); (rw [upd_o _ _ (by omega)]; exact h1 j (by omega))) (fun j hj k2 hk2 => by rw [eA_2, q2_row, upd_o _ _ (by omega)]; exact h2 j hj k2 hk2) (by rw [eA_2]; exact qfr_up hf2) (by omega) _ _ _ hM hl
    exact loop52 (37 - 0 + 1) 0 A50 (by omega) (fun j hj => absurd hj (Nat.not_lt_zero _)) (fun _ _ _ _ => rfl) (fun _ _ => rfl) (Nat.lt_succ_self _) _ _ _ hM hl
  refine lv_bipush (v := 20) hx hb dX11_remember_4 (by decide) ?_
  refine lv_icmp_ne (tgt := 50) hx hb dX11_remember_6 (by decide) (fun c_6 => ?_) (fun c_6 => ?_)
  · skip
    have c_6 : ¬ (nc = 20) := fun z => c_6 ((nI_eq (a := nc) (b := 20) (by omega) (by omega)).mpr z)
    exact join50 nc S A (by omega) (by rw [← hnc, q2_self]) (fun _ _ => rfl) (fun j hj k hk => by rw [if_neg c_6]; rfl) _ _ _ hM hl
  · skip
    have c_6 : nc = 20 := (nI_eq (a := nc) (b := 20) (by omega) (by omega)).mp c_6
    refine lv_bipush (v := 37) hx hb dX11_remember_9 (by decide) ?_
    refine lv_istore_n (lv' := [(1, .int 37), (0, .ref (ad 188))]) hx hb dX11_remember_11 rfl hl (by decide) rfl (fun ls hl => ?_)
    have loop12 : ∀ (fu : Nat) (k : Nat) (A12 : qA2) (hk : 37 ≤ k ∧ k ≤ 740) (h1 : ∀ j, j + 37 < k → A12 202 j = A 202 (j + 37)) (h2 : ∀ j, k ≤ j + 37 → A12 202 j = A 202 j) (hf : ∀ i, i ≠ 202 → A12 i = A i), 740 - k < fu → ∀ (H : Heap) (locs : List Loc) (ls : Array Slot), qM E ad S A12 b (qAr ad s.heap.size) s H locs → lv_has ls 2 [(1, .int (nI k)), (0, .ref (ad 188))] → W pg l e (headSpec wsX11_remember { frames := 0, cells := 0, slots := 0, locals := 0 }).room s m ([.ref (ad 188)] : List Value).toArray below meth cd H locs 0 0 (MQ below (qQv E ad s.heap.size (fun S' A' b' => b = b' ∧ S' = q2 S 188 30 (nI (min (nc + 1) 20)) ∧ (∀ i, i ≠ 202 → A' i = A i) ∧ (∀ k, k < 37 → A' 202 (37 * min nc 19 + k) = A 193 k) ∧ (∀ j, j < min nc 19 → ∀ k, k < 37 → A' 202 (37 * j + k) = A 202 (37 * (j + (if nc = 20 then 1 else 0)) + k)))) ([.ref (ad 188)] : List Value).toArray s 0 0 (qAr ad s.heap.size)) (F0 m 12 ls []) := by
      intro fu
      induction fu with
      | zero => intro k A12 hk h1 h2 hf hn; exact absurd hn (Nat.not_lt_zero _)
      | succ fu ih12 =>
        intro k A12 hk h1 h2 hf hn H locs ls hM hl
        refine lv_iload_n hx hb dX11_remember_12 rfl (lv_at hl 0 rfl) ?_
        refine lv_sipush (v := 740) hx hb dX11_remember_13 (by decide) ?_
        refine lv_icmp_ge (tgt := 40) hx hb dX11_remember_16 (by decide) (fun c_16 => ?_) (fun c_16 => ?_)
        · skip
          have c_16 : 740 ≤ k := (nI_leI (a := 740) (b := k) (by omega) (by omega)).mp c_16
          refine lv_aload_n hx hb dX11_remember_40 rfl (lv_at hl 1 rfl) ?_
          refine lv_dup hx hb dX11_remember_41 rfl ?_
          refine q_get (o := 188) (ci := 11) (k := 30) (T := TX11) (v := .int (S 188 30)) C hM (qmem_11 E ad S A12 b (show qk 188 = 11 from by decide +kernel)) (by decide) rfl hi11 (by decide) hL0 rfl rfl dX11_remember_42 ?_
          refine lv_as (y := nI nc) hnc ?_
          refine lv_iconst (v := 1) hx hb dX11_remember_45 (by decide) ?_
          refine lv_isub hx hb dX11_remember_46 ?_
          refine lv_topi (fun v_3 ev_3 => ?_)
          refine q_put (o := 188) (ci := 11) (k := 30) (T := TX11) (ty := .int) (v := v_3) C hM (qmem_11 E ad S A12 b (show qk 188 = 11 from by decide +kernel)) (by decide) rfl hi11 tyX11 tyX11_ok nmX11 (by decide) hL0 rfl rfl (by decide +kernel) rfl rfl (Nat.le_of_ble_eq_true rfl) (qs_11_30 E ad S A12 b (show qk 188 = 11 from by decide +kernel) v_3) dX11_remember_47 (fun H locs hM => ?_)
          obtain ⟨S_4, eS_4⟩ : ∃ zz, zz = q2 S 188 30 v_3 := ⟨_, rfl⟩
          rw [← eS_4] at hM
          exact join50 19 S_4 A12 (by omega) (by rw [eS_4, ev_3, c_6]; rfl) hf (fun j hj k hk => by rw [if_pos c_6, h1 (37 * j + k) (by omega)]; congr 1; omega) _ _ _ hM (lv_sub hl [1] rfl)
        · skip
          have c_16 : ¬ (740 ≤ k) := fun z => c_16 ((nI_leI (a := 740) (b := k) (by omega) (by omega)).mpr z)
          refine lv_aload_n hx hb dX11_remember_19 rfl (lv_at hl 1 rfl) ?_
          refine q_get (o := 188) (ci := 11) (k := 31) (T := TX11) (v := .ref (ad 202)) C hM (qmem_11 E ad S A12 b (show qk 188 = 11 from by decide +kernel)) (by decide) rfl hi11 (by decide) hL1 rfl rfl dX11_remember_20 ?_
          refine lv_iload_n hx hb dX11_remember_23 rfl (lv_at hl 0 rfl) ?_
          refine lv_bipush (v := 37) hx hb dX11_remember_24 (by decide) ?_
          refine lv_isub hx hb dX11_remember_26 ?_
          refine lv_as (y := nI (k - 37)) (pk_sub (a := k) (b := 37) (by omega)) ?_
          refine lv_aload_n hx hb dX11_remember_27 rfl (lv_at hl 1 rfl) ?_
          refine q_get (o := 188) (ci := 11) (k := 31) (T := TX11) (v := .ref (ad 202)) C hM (qmem_11 E ad S A12 b (show qk 188 = 11 from by decide +kernel)) (by decide) rfl hi11 (by decide) hL1 rfl rfl dX11_remember_28 ?_
          refine lv_iload_n hx hb dX11_remember_31 rfl (lv_at hl 0 rfl) ?_
          refine q_iald (v := A12 202 k) C hM (show qk 202 = 12 from by decide +kernel) (by rw [(show ql 202 = 740 from by decide +kernel)]; exact vp_nI (by omega) (by omega)) (by rw [nIc (by omega)]) dX11_remember_32 ?_
          refine q_iast C hM (show qk 202 = 12 from by decide +kernel) (by rw [(show ql 202 = 740 from by decide +kernel)]; exact vp_nI (by omega) (by omega)) dX11_remember_33 (fun H locs hM => ?_)
          rw [nIc (by omega)] at hM
          obtain ⟨A_5, eA_5⟩ : ∃ zz, zz = q2 A12 202 (k - 37) (A12 202 k) := ⟨_, rfl⟩
          rw [← eA_5] at hM
          refine lv_iinc (v := nI (k + 1)) (lv' := [(1, .int (nI (k + 1))), (0, .ref (ad 188))]) hx hb dX11_remember_34 hl (k := 0) rfl (by rw [nI_succ]; rfl) (by decide) rfl (fun ls hl => ?_)
          refine lv_goto (tgt := 12) hx hb dX11_remember_37 (by decide) ?_
          exact ih12 (k + 1) A_5 (by omega) (fun j hj => by rw [eA_5, q2_row]; by_cases hz : j = k - 37; (subst hz; rw [upd_s, h2 k (by omega)]; congr 1; omega); (rw [upd_o _ _ hz]; exact h1 j (by omega))) (fun j hj => by rw [eA_5, q2_row, upd_o _ _ (by omega)]; exact h2 j (by omega)) (by rw [eA_5]; exact qfr_up hf) (by omega) _ _ _ hM hl
    exact loop12 (740 - 37 + 1) 37 A (by omega) (fun j hj => by omega) (fun _ _ => rfl) (fun _ _ => rfl) (Nat.lt_succ_self _) _ _ _ hM hl

set_option maxHeartbeats 4000000 in
set_option maxRecDepth 100000 in
theorem c_X11_hoursRefused (E : qE) (ad : Nat → Nat) (l : Launch) (S A : qA2) (b : qB) (a1 : Int32) (nC : Nat) (hC : S 188 0 = nI nC) (hCb : nC ≤ 12) : MI E ad l yX11_hoursRefused wsX11_hoursRefused { frames := 1, cells := 0, slots := 0, locals := 25 } [.ref (ad 188), .int a1] S A b (fun r S' A' b' => (S = S' ∧ A = A' ∧ b = b') ∧ r = qrefh a1 nC (A 193 35)) := by
  refine MI.of (cc := cX11_hoursRefused) (maxL := 2) (ret := some .int) RX11 rfl (by decide) rfl ?_
  intro pg e s m below meth cd C hM
  have hx := C.1
  have hb := C.2.1
  have hts := C.2.2.2.2.1
  have hA : ∀ q, s.heap.size ≤ q → qAr ad s.heap.size q := fun _ h => Or.inr h
  have hi11 : ∀ w ∈ u_ws RX11 TX11 45, w ∈ wsX11_hoursRefused := by decide +kernel
  have hL0 := hts (.constantLong RX11 245 (60)) (by decide +kernel)
  have hL1 := hts (.fieldLink RX11 90 "CrowFencesModel" "cells" "I") (by decide +kernel)
  have hL2 := hts (.fieldLink RX11 22 "CrowFencesModel" "now" "[I") (by decide +kernel)
  have hL3 := hts (.constant RX11 109 (-1000000004)) (by decide +kernel)
  have hL4 := hts (.constant RX11 247 (-1000000003)) (by decide +kernel)
  have hL5 := hts (.constant RX11 105 (-1000000002)) (by decide +kernel)
  have hl := lv_entry ([.ref (ad 188), .int a1]) (n := 2) (Nat.le_of_ble_eq_true rfl)
  rw [lg_entry_eq]
  generalize (lg_sl ([.ref (ad 188), .int a1]) ++ List.replicate (2 - (lg_sl ([.ref (ad 188), .int a1])).length) Slot.unset).toArray = ls at hl ⊢
  have hl : lv_has ls 2 [(0, .ref (ad 188)), (1, .int a1)] := hl
  refine lv_iload_n hx hb dX11_hoursRefused_0 rfl (lv_at hl 1 rfl) ?_
  refine lv_i2l (v := (a1 : Int32).toInt64) hx hb dX11_hoursRefused_1 rfl ?_
  refine lv_lconst (v := 1) hx hb dX11_hoursRefused_2 rfl ?_
  refine lv_ldc2 (v := 60) hx hb C.2.2.2.1 hL0 dX11_hoursRefused_3 ?_
  refine q_callSI (n := 3) (As := [.long ((a1 : Int32).toInt64), .long 1, .long 60]) (rest := []) C hM hA (c_X11_in E ad l S A b ((a1 : Int32).toInt64) 1 60) gX11_hoursRefused_X11_in rfl rfl rfl (by decide +kernel) ⟨Nat.le_of_ble_eq_true rfl, Nat.le_of_ble_eq_true rfl⟩ rfl hl.1 rfl (Nat.le_of_ble_eq_true rfl) ⟨Nat.zero_le _, Nat.zero_le _⟩ dX11_hoursRefused_6 (fun r_1 S_2 A_3 b_4 H locs qr_1 hM => ?_)
  obtain ⟨⟨e1, e2, e3⟩, er_1⟩ := qr_1
  subst e1; subst e2; subst e3
  rw [q64 (x := a1) (lo := 1) (hi := 60) (by first | rfl | decide) (by first | rfl | decide)] at er_1
  rcases q01_cases (1 ≤ a1 ∧ a1 ≤ 60) with ⟨hzr_1, hir_1⟩ | ⟨hzr_1, hir_1⟩
  · skip
    rw [hzr_1] at er_1
    subst er_1
    obtain ⟨ka1, hloka1, hhika1, eka1⟩ := qin_of (l := 1) (h := 60) rfl rfl (by omega) (by omega) hir_1
    subst eka1
    refine lv_if_ne (tgt := 15) hx hb dX11_hoursRefused_9 (by decide) (fun c_9 => ?_) (fun c_9 => ?_)
    · skip
      have c_9 : ¬ (1 = 0) := fun z => c_9 ((nI_eq (a := 1) (b := 0) (by omega) (by omega)).mpr z)
      refine lv_aload_n hx hb dX11_hoursRefused_15 rfl (lv_at hl 0 rfl) ?_
      refine q_get (o := 188) (ci := 11) (k := 0) (T := TX11) (v := .int (S 188 0)) C hM (qmem_11 E ad S A b (show qk 188 = 11 from by decide +kernel)) (by decide) rfl hi11 (by decide) hL1 rfl rfl dX11_hoursRefused_16 ?_
      refine lv_as (y := nI nC) hC ?_
      refine lv_if_ne (tgt := 27) hx hb dX11_hoursRefused_19 (by decide) (fun c_19 => ?_) (fun c_19 => ?_)
      · skip
        have c_19 : ¬ (nC = 0) := fun z => c_19 ((nI_eq (a := nC) (b := 0) (by omega) (by omega)).mpr z)
        refine lv_aload_n hx hb dX11_hoursRefused_27 rfl (lv_at hl 0 rfl) ?_
        refine q_get (o := 188) (ci := 11) (k := 11) (T := TX11) (v := .ref (ad 193)) C hM (qmem_11 E ad S A b (show qk 188 = 11 from by decide +kernel)) (by decide) rfl hi11 (by decide) hL2 rfl rfl dX11_hoursRefused_28 ?_
        refine lv_bipush (v := 35) hx hb dX11_hoursRefused_31 (by decide) ?_
        refine q_iald (v := A 193 35) C hM (show qk 193 = 12 from by decide +kernel) (by rw [(show ql 193 = 37 from by decide +kernel)]; exact (vp_nI (by decide) (by decide) : vp_in (nI 35) 37)) (by rw [show Int32.toNatClampNeg 35 = 35 from by decide]) dX11_hoursRefused_33 ?_
        refine lv_sipush (v := 9000) hx hb dX11_hoursRefused_34 (by decide) ?_
        refine lv_icmp_le (tgt := 45) hx hb dX11_hoursRefused_37 (by decide) (fun c_37 => ?_) (fun c_37 => ?_)
        · skip
          refine lv_iconst (v := 0) hx hb dX11_hoursRefused_45 (by decide) ?_
          exact q_iret C hM dX11_hoursRefused_46 (by exact ⟨⟨rfl, rfl, rfl⟩, (by unfold qrefh; rw [if_pos hir_1, if_neg c_19, if_pos c_37])⟩)
        · skip
          refine lv_ldc (v := (-1000000004)) hx hb C.2.2.2.1 hL3 dX11_hoursRefused_40 ?_
          refine lv_goto (tgt := 46) hx hb dX11_hoursRefused_42 (by decide) ?_
          exact q_iret C hM dX11_hoursRefused_46 (by exact ⟨⟨rfl, rfl, rfl⟩, (by unfold qrefh; rw [if_pos hir_1, if_neg c_19, if_neg c_37])⟩)
      · skip
        have c_19 : nC = 0 := (nI_eq (a := nC) (b := 0) (by omega) (by omega)).mp c_19
        refine lv_ldc (v := (-1000000003)) hx hb C.2.2.2.1 hL4 dX11_hoursRefused_22 ?_
        refine lv_goto (tgt := 46) hx hb dX11_hoursRefused_24 (by decide) ?_
        exact q_iret C hM dX11_hoursRefused_46 (by exact ⟨⟨rfl, rfl, rfl⟩, (by unfold qrefh; rw [if_pos hir_1, if_pos c_19])⟩)
    · skip
      have c_9 : 1 = 0 := (nI_eq (a := 1) (b := 0) (by omega) (by omega)).mp c_9
      exact absurd c_9 (by decide)
  · skip
    rw [hzr_1] at er_1
    subst er_1
    refine lv_if_ne (tgt := 15) hx hb dX11_hoursRefused_9 (by decide) (fun c_9 => ?_) (fun c_9 => ?_)
    · skip
      have c_9 : ¬ (0 = 0) := fun z => c_9 ((nI_eq (a := 0) (b := 0) (by omega) (by omega)).mpr z)
      exact absurd rfl c_9
    · skip
      have c_9 : 0 = 0 := (nI_eq (a := 0) (b := 0) (by omega) (by omega)).mp c_9
      refine lv_ldc (v := (-1000000002)) hx hb C.2.2.2.1 hL5 dX11_hoursRefused_12 ?_
      exact q_iret C hM dX11_hoursRefused_14 (by exact ⟨⟨rfl, rfl, rfl⟩, (by unfold qrefh; rw [if_neg hir_1])⟩)

set_option maxHeartbeats 4000000 in
set_option maxRecDepth 100000 in
theorem c_X11_bid (E : qE) (ad : Nat → Nat) (l : Launch) (S A : qA2) (b : qB) (k c : Nat) (hk : k < 6) (hc : c < 5) : MI E ad l yX11_bid wsX11_bid { frames := 0, cells := 0, slots := 0, locals := 0 } [.ref (ad 188), .int (nI k), .int (nI c)] S A b (fun r S' A' b' => (S = S' ∧ A = A' ∧ b = b') ∧ r = A 193 (25 + c) + A 190 c * A 189 k) := by
  refine MI.of (cc := cX11_bid) (maxL := 3) (ret := some .int) RX11 rfl (by decide) rfl ?_
  intro pg e s m below meth cd C hM
  have hx := C.1
  have hb := C.2.1
  have hts := C.2.2.2.2.1
  have hA : ∀ q, s.heap.size ≤ q → qAr ad s.heap.size q := fun _ h => Or.inr h
  have hi11 : ∀ w ∈ u_ws RX11 TX11 45, w ∈ wsX11_bid := by decide +kernel
  have hL0 := hts (.fieldLink RX11 22 "CrowFencesModel" "now" "[I") (by decide +kernel)
  have hL1 := hts (.fieldLink RX11 13 "CrowFencesModel" "likes" "[I") (by decide +kernel)
  have hL2 := hts (.fieldLink RX11 7 "CrowFencesModel" "view" "[I") (by decide +kernel)
  have hl := lv_entry ([.ref (ad 188), .int (nI k), .int (nI c)]) (n := 3) (Nat.le_of_ble_eq_true rfl)
  rw [lg_entry_eq]
  generalize (lg_sl ([.ref (ad 188), .int (nI k), .int (nI c)]) ++ List.replicate (3 - (lg_sl ([.ref (ad 188), .int (nI k), .int (nI c)])).length) Slot.unset).toArray = ls at hl ⊢
  have hl : lv_has ls 3 [(0, .ref (ad 188)), (1, .int (nI k)), (2, .int (nI c))] := hl
  refine lv_aload_n hx hb dX11_bid_0 rfl (lv_at hl 0 rfl) ?_
  refine q_get (o := 188) (ci := 11) (k := 11) (T := TX11) (v := .ref (ad 193)) C hM (qmem_11 E ad S A b (show qk 188 = 11 from by decide +kernel)) (by decide) rfl hi11 (by decide) hL0 rfl rfl dX11_bid_1 ?_
  refine lv_bipush (v := 25) hx hb dX11_bid_4 (by decide) ?_
  refine lv_iload_n hx hb dX11_bid_6 rfl (lv_at hl 2 rfl) ?_
  refine lv_iadd hx hb dX11_bid_7 ?_
  refine lv_as (y := nI (25 + c)) (nI_add _ _) ?_
  refine q_iald (v := A 193 (25 + c)) C hM (show qk 193 = 12 from by decide +kernel) (by rw [(show ql 193 = 37 from by decide +kernel)]; exact vp_nI (by omega) (by omega)) (by rw [nIc (by omega)]) dX11_bid_8 ?_
  refine lv_aload_n hx hb dX11_bid_9 rfl (lv_at hl 0 rfl) ?_
  refine q_get (o := 188) (ci := 11) (k := 7) (T := TX11) (v := .ref (ad 190)) C hM (qmem_11 E ad S A b (show qk 188 = 11 from by decide +kernel)) (by decide) rfl hi11 (by decide) hL1 rfl rfl dX11_bid_10 ?_
  refine lv_iload_n hx hb dX11_bid_13 rfl (lv_at hl 2 rfl) ?_
  refine q_iald (v := A 190 c) C hM (show qk 190 = 12 from by decide +kernel) (by rw [(show ql 190 = 5 from by decide +kernel)]; exact vp_nI (by omega) (by omega)) (by rw [nIc (by omega)]) dX11_bid_14 ?_
  refine lv_aload_n hx hb dX11_bid_15 rfl (lv_at hl 0 rfl) ?_
  refine q_get (o := 188) (ci := 11) (k := 5) (T := TX11) (v := .ref (ad 189)) C hM (qmem_11 E ad S A b (show qk 188 = 11 from by decide +kernel)) (by decide) rfl hi11 (by decide) hL2 rfl rfl dX11_bid_16 ?_
  refine lv_iload_n hx hb dX11_bid_19 rfl (lv_at hl 1 rfl) ?_
  refine q_iald (v := A 189 k) C hM (show qk 189 = 12 from by decide +kernel) (by rw [(show ql 189 = 6 from by decide +kernel)]; exact vp_nI (by omega) (by omega)) (by rw [nIc (by omega)]) dX11_bid_20 ?_
  refine lv_imul hx hb dX11_bid_21 ?_
  refine lv_iadd hx hb dX11_bid_22 ?_
  exact q_iret C hM dX11_bid_23 (by exact ⟨⟨rfl, rfl, rfl⟩, rfl⟩)

set_option maxHeartbeats 4000000 in
set_option maxRecDepth 100000 in
theorem c_X11_mayMove (E : qE) (ad : Nat → Nat) (l : Launch) (S A : qA2) (b : qB) (a1 a2 : Int32) (nC : Nat) (hC : S 188 0 = nI nC) (hCb : nC ≤ 12) (nP : Nat) (hPo : S 188 4 = nI nP) (hPb : nP ≤ 6) : MI E ad l yX11_mayMove wsX11_mayMove { frames := 2, cells := 0, slots := 0, locals := 46 } [.ref (ad 188), .int a1, .int a2] S A b (fun r S' A' b' => (S = S' ∧ A = A' ∧ b = b') ∧ r = q01 (¬ qfree (fun j => A 193 (12 + j)) nC nP a2 = -1)) := by
  refine MI.of (cc := cX11_mayMove) (maxL := 5) (ret := some .boolean) RX11 rfl (by decide) rfl ?_
  intro pg e s m below meth cd C hM
  have hx := C.1
  have hb := C.2.1
  have hts := C.2.2.2.2.1
  have hA : ∀ q, s.heap.size ≤ q → qAr ad s.heap.size q := fun _ h => Or.inr h
  have hi11 : ∀ w ∈ u_ws RX11 TX11 45, w ∈ wsX11_mayMove := by decide +kernel
  have hL0 := hts (.fieldLink RX11 97 "CrowFencesModel" "posts" "I") (by decide +kernel)
  have hL1 := hts (.fieldLink RX11 22 "CrowFencesModel" "now" "[I") (by decide +kernel)
  have hl := lv_entry ([.ref (ad 188), .int a1, .int a2]) (n := 5) (Nat.le_of_ble_eq_true rfl)
  rw [lg_entry_eq]
  generalize (lg_sl ([.ref (ad 188), .int a1, .int a2]) ++ List.replicate (5 - (lg_sl ([.ref (ad 188), .int a1, .int a2])).length) Slot.unset).toArray = ls at hl ⊢
  have hl : lv_has ls 5 [(0, .ref (ad 188)), (1, .int a1), (2, .int a2)] := hl
  refine lv_aload_n hx hb dX11_mayMove_0 rfl (lv_at hl 0 rfl) ?_
  refine lv_iload_n hx hb dX11_mayMove_1 rfl (lv_at hl 2 rfl) ?_
  refine q_callVI (n := 1) (o := 188) (As := [.int a2]) (rest := []) C hM hA (c_X11_isCell E ad l S A b a2 nC hC (by omega)) (qmem_11 E ad S A b (show qk 188 = 11 from by decide +kernel)) (by decide) rfl gX11_mayMove_X11_isCell rfl rfl rfl (by decide +kernel) ⟨Nat.le_of_ble_eq_true rfl, Nat.le_of_ble_eq_true rfl⟩ rfl hl.1 rfl (Nat.le_of_ble_eq_true rfl) ⟨Nat.zero_le _, Nat.zero_le _⟩ dX11_mayMove_2 (fun r_1 S_2 A_3 b_4 H locs qr_1 hM => ?_)
  obtain ⟨⟨e1, e2, e3⟩, hDr_1⟩ := qr_1
  subst e1; subst e2; subst e3
  rcases hDr_1 with ⟨er_1, ka2, hka2, eka2⟩ | ⟨er_1, hnoa2⟩
  · skip
    subst er_1
    subst eka2
    refine lv_istore_n (lv' := [(3, .int 1), (0, .ref (ad 188)), (1, .int a1), (2, .int (nI ka2))]) hx hb dX11_mayMove_5 rfl hl (by decide) rfl (fun ls hl => ?_)
    refine lv_iconst (v := 0) hx hb dX11_mayMove_6 (by decide) ?_
    refine lv_istore (lv' := [(4, .int 0), (3, .int 1), (0, .ref (ad 188)), (1, .int a1), (2, .int (nI ka2))]) hx hb dX11_mayMove_7 hl (by decide) rfl (fun ls hl => ?_)
    have loop9 : ∀ (fu : Nat) (t : Int32) (k : Nat) (hk : k ≤ nP) (ht : (t = 1 ∧ (∃ c, c < nC ∧ (nI ka2) = nI c) ∧ ∀ j, j < k → ¬ A 193 (12 + j) = (nI ka2)) ∨ (t = 0 ∧ ((∀ c, c < nC → ¬ (nI ka2) = nI c) ∨ ∃ j, j < k ∧ A 193 (12 + j) = (nI ka2)))), nP - k < fu → ∀ (H : Heap) (locs : List Loc) (ls : Array Slot), qM E ad S A b (qAr ad s.heap.size) s H locs → lv_has ls 5 [(4, .int (nI k)), (3, .int t), (0, .ref (ad 188)), (1, .int a1), (2, .int (nI ka2))] → W pg l e (headSpec wsX11_mayMove { frames := 2, cells := 0, slots := 0, locals := 46 }).room s m ([.ref (ad 188), .int a1, .int (nI ka2)] : List Value).toArray below meth cd H locs 0 0 (MQ below (qQi E ad s.heap.size (fun r S' A' b' => (S = S' ∧ A = A' ∧ b = b') ∧ r = q01 (¬ qfree (fun j => A 193 (12 + j)) nC nP (nI ka2) = -1))) ([.ref (ad 188), .int a1, .int (nI ka2)] : List Value).toArray s 0 0 (qAr ad s.heap.size)) (F0 m 9 ls []) := by
      intro fu
      induction fu with
      | zero => intro t k hk ht hn; exact absurd hn (Nat.not_lt_zero _)
      | succ fu ih9 =>
        intro t k hk ht hn H locs ls hM hl
        refine lv_iload hx hb dX11_mayMove_9 (lv_at hl 0 rfl) ?_
        refine lv_aload_n hx hb dX11_mayMove_11 rfl (lv_at hl 2 rfl) ?_
        refine q_get (o := 188) (ci := 11) (k := 4) (T := TX11) (v := .int (S 188 4)) C hM (qmem_11 E ad S A b (show qk 188 = 11 from by decide +kernel)) (by decide) rfl hi11 (by decide) hL0 rfl rfl dX11_mayMove_12 ?_
        refine lv_as (y := nI nP) hPo ?_
        refine lv_icmp_ge (tgt := 48) hx hb dX11_mayMove_15 (by decide) (fun c_15 => ?_) (fun c_15 => ?_)
        · skip
          have c_15 : nP ≤ k := (nI_leI (a := nP) (b := k) (by omega) (by omega)).mp c_15
          refine lv_iload_n hx hb dX11_mayMove_48 rfl (lv_at hl 1 rfl) ?_
          exact q_zret C hM dX11_mayMove_49 (nar01 (ht.elim (fun z => Or.inr z.1) (fun z => Or.inl z.1))) (by exact ⟨⟨rfl, rfl, rfl⟩, by have hq := qfree_in (f := fun j => A 193 (12 + j)) (nP := nP) hCb hPb hka2; rcases ht with ⟨h1, _, h3⟩ | ⟨h1, h2⟩; (rw [h1, q01, if_pos (hq.mpr (fun j hj => h3 j (by omega)))]); (rw [h1, q01, if_neg (fun z => h2.elim (fun q => q ka2 hka2 rfl) (fun ⟨j, q1, q2⟩ => hq.mp z j (by omega) q2))])⟩)
        · skip
          have c_15 : ¬ (nP ≤ k) := fun z => c_15 ((nI_leI (a := nP) (b := k) (by omega) (by omega)).mpr z)
          refine lv_iload_n hx hb dX11_mayMove_18 rfl (lv_at hl 1 rfl) ?_
          refine lv_if_eq (tgt := 40) hx hb dX11_mayMove_19 (by decide) (fun c_19 => ?_) (fun c_19 => ?_)
          · skip
            refine lv_iconst (v := 0) hx hb dX11_mayMove_40 (by decide) ?_
            refine lv_istore_n (lv' := [(3, .int 0), (4, .int (nI k)), (0, .ref (ad 188)), (1, .int a1), (2, .int (nI ka2))]) hx hb dX11_mayMove_41 rfl hl (by decide) rfl (fun ls hl => ?_)
            refine lv_iinc (v := nI (k + 1)) (lv' := [(4, .int (nI (k + 1))), (3, .int 0), (0, .ref (ad 188)), (1, .int a1), (2, .int (nI ka2))]) hx hb dX11_mayMove_42 hl (k := 1) rfl (by rw [nI_succ]; rfl) (by decide) rfl (fun ls hl => ?_)
            refine lv_goto (tgt := 9) hx hb dX11_mayMove_45 (by decide) ?_
            exact ih9 0 (k + 1) (by omega) (ht.elim (fun z => absurd (z.1.symm.trans c_19) (by decide)) (fun z => Or.inr ⟨rfl, z.2.elim Or.inl (fun ⟨j, h1, h2⟩ => Or.inr ⟨j, by omega, h2⟩)⟩)) (by omega) _ _ _ hM hl
          · skip
            refine lv_aload_n hx hb dX11_mayMove_22 rfl (lv_at hl 2 rfl) ?_
            refine q_get (o := 188) (ci := 11) (k := 11) (T := TX11) (v := .ref (ad 193)) C hM (qmem_11 E ad S A b (show qk 188 = 11 from by decide +kernel)) (by decide) rfl hi11 (by decide) hL1 rfl rfl dX11_mayMove_23 ?_
            refine lv_bipush (v := 12) hx hb dX11_mayMove_26 (by decide) ?_
            refine lv_iload hx hb dX11_mayMove_28 (lv_at hl 0 rfl) ?_
            refine lv_iadd hx hb dX11_mayMove_30 ?_
            refine lv_as (y := nI (12 + k)) (nI_add _ _) ?_
            refine q_iald (v := A 193 (12 + k)) C hM (show qk 193 = 12 from by decide +kernel) (by rw [(show ql 193 = 37 from by decide +kernel)]; exact vp_nI (by omega) (by omega)) (by rw [nIc (by omega)]) dX11_mayMove_31 ?_
            refine lv_iload_n hx hb dX11_mayMove_32 rfl (lv_at hl 4 rfl) ?_
            refine lv_icmp_eq (tgt := 40) hx hb dX11_mayMove_33 (by decide) (fun c_33 => ?_) (fun c_33 => ?_)
            · skip
              refine lv_iconst (v := 0) hx hb dX11_mayMove_40 (by decide) ?_
              refine lv_istore_n (lv' := [(3, .int 0), (4, .int (nI k)), (0, .ref (ad 188)), (1, .int a1), (2, .int (nI ka2))]) hx hb dX11_mayMove_41 rfl hl (by decide) rfl (fun ls hl => ?_)
              refine lv_iinc (v := nI (k + 1)) (lv' := [(4, .int (nI (k + 1))), (3, .int 0), (0, .ref (ad 188)), (1, .int a1), (2, .int (nI ka2))]) hx hb dX11_mayMove_42 hl (k := 1) rfl (by rw [nI_succ]; rfl) (by decide) rfl (fun ls hl => ?_)
              refine lv_goto (tgt := 9) hx hb dX11_mayMove_45 (by decide) ?_
              exact ih9 0 (k + 1) (by omega) (ht.elim (fun z => Or.inr ⟨rfl, Or.inr ⟨k, by omega, c_33⟩⟩) (fun z => absurd z.1 c_19)) (by omega) _ _ _ hM hl
            · skip
              refine lv_iconst (v := 1) hx hb dX11_mayMove_36 (by decide) ?_
              refine lv_goto (tgt := 41) hx hb dX11_mayMove_37 (by decide) ?_
              refine lv_istore_n (lv' := [(3, .int 1), (4, .int (nI k)), (0, .ref (ad 188)), (1, .int a1), (2, .int (nI ka2))]) hx hb dX11_mayMove_41 rfl hl (by decide) rfl (fun ls hl => ?_)
              refine lv_iinc (v := nI (k + 1)) (lv' := [(4, .int (nI (k + 1))), (3, .int 1), (0, .ref (ad 188)), (1, .int a1), (2, .int (nI ka2))]) hx hb dX11_mayMove_42 hl (k := 1) rfl (by rw [nI_succ]; rfl) (by decide) rfl (fun ls hl => ?_)
              refine lv_goto (tgt := 9) hx hb dX11_mayMove_45 (by decide) ?_
              exact ih9 1 (k + 1) (by omega) (ht.elim (fun z => Or.inl ⟨rfl, z.2.1, fun j hj => by by_cases e : j = k; (subst e; exact c_33); (exact z.2.2 j (by omega))⟩) (fun z => absurd z.1 c_19)) (by omega) _ _ _ hM hl
    exact loop9 (nP - 0 + 1) 1 0 (by omega) (Or.inl ⟨rfl, ⟨ka2, hka2, rfl⟩, fun j hj => absurd hj (Nat.not_lt_zero _)⟩) (Nat.lt_succ_self _) _ _ _ hM hl
  · skip
    subst er_1
    refine lv_istore_n (lv' := [(3, .int 0), (0, .ref (ad 188)), (1, .int a1), (2, .int a2)]) hx hb dX11_mayMove_5 rfl hl (by decide) rfl (fun ls hl => ?_)
    refine lv_iconst (v := 0) hx hb dX11_mayMove_6 (by decide) ?_
    refine lv_istore (lv' := [(4, .int 0), (3, .int 0), (0, .ref (ad 188)), (1, .int a1), (2, .int a2)]) hx hb dX11_mayMove_7 hl (by decide) rfl (fun ls hl => ?_)
    have loop9 : ∀ (fu : Nat) (t : Int32) (k : Nat) (hk : k ≤ nP) (ht : (t = 1 ∧ (∃ c, c < nC ∧ a2 = nI c) ∧ ∀ j, j < k → ¬ A 193 (12 + j) = a2) ∨ (t = 0 ∧ ((∀ c, c < nC → ¬ a2 = nI c) ∨ ∃ j, j < k ∧ A 193 (12 + j) = a2))), nP - k < fu → ∀ (H : Heap) (locs : List Loc) (ls : Array Slot), qM E ad S A b (qAr ad s.heap.size) s H locs → lv_has ls 5 [(4, .int (nI k)), (3, .int t), (0, .ref (ad 188)), (1, .int a1), (2, .int a2)] → W pg l e (headSpec wsX11_mayMove { frames := 2, cells := 0, slots := 0, locals := 46 }).room s m ([.ref (ad 188), .int a1, .int a2] : List Value).toArray below meth cd H locs 0 0 (MQ below (qQi E ad s.heap.size (fun r S' A' b' => (S = S' ∧ A = A' ∧ b = b') ∧ r = q01 (¬ qfree (fun j => A 193 (12 + j)) nC nP a2 = -1))) ([.ref (ad 188), .int a1, .int a2] : List Value).toArray s 0 0 (qAr ad s.heap.size)) (F0 m 9 ls []) := by
      intro fu
      induction fu with
      | zero => intro t k hk ht hn; exact absurd hn (Nat.not_lt_zero _)
      | succ fu ih9 =>
        intro t k hk ht hn H locs ls hM hl
        refine lv_iload hx hb dX11_mayMove_9 (lv_at hl 0 rfl) ?_
        refine lv_aload_n hx hb dX11_mayMove_11 rfl (lv_at hl 2 rfl) ?_
        refine q_get (o := 188) (ci := 11) (k := 4) (T := TX11) (v := .int (S 188 4)) C hM (qmem_11 E ad S A b (show qk 188 = 11 from by decide +kernel)) (by decide) rfl hi11 (by decide) hL0 rfl rfl dX11_mayMove_12 ?_
        refine lv_as (y := nI nP) hPo ?_
        refine lv_icmp_ge (tgt := 48) hx hb dX11_mayMove_15 (by decide) (fun c_15 => ?_) (fun c_15 => ?_)
        · skip
          have c_15 : nP ≤ k := (nI_leI (a := nP) (b := k) (by omega) (by omega)).mp c_15
          refine lv_iload_n hx hb dX11_mayMove_48 rfl (lv_at hl 1 rfl) ?_
          exact q_zret C hM dX11_mayMove_49 (nar01 (ht.elim (fun z => Or.inr z.1) (fun z => Or.inl z.1))) (by exact ⟨⟨rfl, rfl, rfl⟩, by rcases ht with ⟨h1, ⟨c, hc, h2⟩, h3⟩ | ⟨h1, h2⟩; (exact absurd h2 (hnoa2 c hc)); (rw [h1, q01, if_neg (fun z => z (qfree_out (by omega) hnoa2))])⟩)
        · skip
          have c_15 : ¬ (nP ≤ k) := fun z => c_15 ((nI_leI (a := nP) (b := k) (by omega) (by omega)).mpr z)
          refine lv_iload_n hx hb dX11_mayMove_18 rfl (lv_at hl 1 rfl) ?_
          refine lv_if_eq (tgt := 40) hx hb dX11_mayMove_19 (by decide) (fun c_19 => ?_) (fun c_19 => ?_)
          · skip
            refine lv_iconst (v := 0) hx hb dX11_mayMove_40 (by decide) ?_
            refine lv_istore_n (lv' := [(3, .int 0), (4, .int (nI k)), (0, .ref (ad 188)), (1, .int a1), (2, .int a2)]) hx hb dX11_mayMove_41 rfl hl (by decide) rfl (fun ls hl => ?_)
            refine lv_iinc (v := nI (k + 1)) (lv' := [(4, .int (nI (k + 1))), (3, .int 0), (0, .ref (ad 188)), (1, .int a1), (2, .int a2)]) hx hb dX11_mayMove_42 hl (k := 1) rfl (by rw [nI_succ]; rfl) (by decide) rfl (fun ls hl => ?_)
            refine lv_goto (tgt := 9) hx hb dX11_mayMove_45 (by decide) ?_
            exact ih9 0 (k + 1) (by omega) (ht.elim (fun z => absurd (z.1.symm.trans c_19) (by decide)) (fun z => Or.inr ⟨rfl, z.2.elim Or.inl (fun ⟨j, h1, h2⟩ => Or.inr ⟨j, by omega, h2⟩)⟩)) (by omega) _ _ _ hM hl
          · skip
            refine lv_aload_n hx hb dX11_mayMove_22 rfl (lv_at hl 2 rfl) ?_
            refine q_get (o := 188) (ci := 11) (k := 11) (T := TX11) (v := .ref (ad 193)) C hM (qmem_11 E ad S A b (show qk 188 = 11 from by decide +kernel)) (by decide) rfl hi11 (by decide) hL1 rfl rfl dX11_mayMove_23 ?_
            refine lv_bipush (v := 12) hx hb dX11_mayMove_26 (by decide) ?_
            refine lv_iload hx hb dX11_mayMove_28 (lv_at hl 0 rfl) ?_
            refine lv_iadd hx hb dX11_mayMove_30 ?_
            refine lv_as (y := nI (12 + k)) (nI_add _ _) ?_
            refine q_iald (v := A 193 (12 + k)) C hM (show qk 193 = 12 from by decide +kernel) (by rw [(show ql 193 = 37 from by decide +kernel)]; exact vp_nI (by omega) (by omega)) (by rw [nIc (by omega)]) dX11_mayMove_31 ?_
            refine lv_iload_n hx hb dX11_mayMove_32 rfl (lv_at hl 4 rfl) ?_
            refine lv_icmp_eq (tgt := 40) hx hb dX11_mayMove_33 (by decide) (fun c_33 => ?_) (fun c_33 => ?_)
            · skip
              refine lv_iconst (v := 0) hx hb dX11_mayMove_40 (by decide) ?_
              refine lv_istore_n (lv' := [(3, .int 0), (4, .int (nI k)), (0, .ref (ad 188)), (1, .int a1), (2, .int a2)]) hx hb dX11_mayMove_41 rfl hl (by decide) rfl (fun ls hl => ?_)
              refine lv_iinc (v := nI (k + 1)) (lv' := [(4, .int (nI (k + 1))), (3, .int 0), (0, .ref (ad 188)), (1, .int a1), (2, .int a2)]) hx hb dX11_mayMove_42 hl (k := 1) rfl (by rw [nI_succ]; rfl) (by decide) rfl (fun ls hl => ?_)
              refine lv_goto (tgt := 9) hx hb dX11_mayMove_45 (by decide) ?_
              exact ih9 0 (k + 1) (by omega) (ht.elim (fun z => Or.inr ⟨rfl, Or.inr ⟨k, by omega, c_33⟩⟩) (fun z => absurd z.1 c_19)) (by omega) _ _ _ hM hl
            · skip
              refine lv_iconst (v := 1) hx hb dX11_mayMove_36 (by decide) ?_
              refine lv_goto (tgt := 41) hx hb dX11_mayMove_37 (by decide) ?_
              refine lv_istore_n (lv' := [(3, .int 1), (4, .int (nI k)), (0, .ref (ad 188)), (1, .int a1), (2, .int a2)]) hx hb dX11_mayMove_41 rfl hl (by decide) rfl (fun ls hl => ?_)
              refine lv_iinc (v := nI (k + 1)) (lv' := [(4, .int (nI (k + 1))), (3, .int 1), (0, .ref (ad 188)), (1, .int a1), (2, .int a2)]) hx hb dX11_mayMove_42 hl (k := 1) rfl (by rw [nI_succ]; rfl) (by decide) rfl (fun ls hl => ?_)
              refine lv_goto (tgt := 9) hx hb dX11_mayMove_45 (by decide) ?_
              exact ih9 1 (k + 1) (by omega) (ht.elim (fun z => Or.inl ⟨rfl, z.2.1, fun j hj => by by_cases e : j = k; (subst e; exact c_33); (exact z.2.2 j (by omega))⟩) (fun z => absurd z.1 c_19)) (by omega) _ _ _ hM hl
    exact loop9 (nP - 0 + 1) 0 0 (by omega) (Or.inr ⟨rfl, Or.inl hnoa2⟩) (Nat.lt_succ_self _) _ _ _ hM hl

set_option maxHeartbeats 4000000 in
set_option maxRecDepth 100000 in
theorem c_X11_draw (E : qE) (ad : Nat → Nat) (l : Launch) (S A : qA2) (b : qB) (a1 : Int32) (ha1 : ¬ a1 = 0) : MI E ad l yX11_draw wsX11_draw { frames := 0, cells := 0, slots := 0, locals := 0 } [.ref (ad 188), .int a1] S A b (fun r S' A' b' => (A = A' ∧ b = b') ∧ r = qrem (qdraw (S 188 12) / 65536) a1 ∧ S' = q2 S 188 12 (qdraw (S 188 12))) := by
  refine MI.of (cc := cX11_draw) (maxL := 2) (ret := some .int) RX11 rfl (by decide) rfl ?_
  intro pg e s m below meth cd C hM
  have hx := C.1
  have hb := C.2.1
  have hts := C.2.2.2.2.1
  have hA : ∀ q, s.heap.size ≤ q → qAr ad s.heap.size q := fun _ h => Or.inr h
  have hi11 : ∀ w ∈ u_ws RX11 TX11 45, w ∈ wsX11_draw := by decide +kernel
  have hL0 := hts (.fieldLink RX11 266 "CrowFencesModel" "seed" "I") (by decide +kernel)
  have hL1 := hts (.constantLong RX11 269 (1103515245)) (by decide +kernel)
  have hL2 := hts (.constantLong RX11 271 (12345)) (by decide +kernel)
  have hL3 := hts (.constantLong RX11 273 (2147483648)) (by decide +kernel)
  have hL4 := hts (.constant RX11 275 (65536)) (by decide +kernel)
  have hl := lv_entry ([.ref (ad 188), .int a1]) (n := 2) (Nat.le_of_ble_eq_true rfl)
  rw [lg_entry_eq]
  generalize (lg_sl ([.ref (ad 188), .int a1]) ++ List.replicate (2 - (lg_sl ([.ref (ad 188), .int a1])).length) Slot.unset).toArray = ls at hl ⊢
  have hl : lv_has ls 2 [(0, .ref (ad 188)), (1, .int a1)] := hl
  refine lv_aload_n hx hb dX11_draw_0 rfl (lv_at hl 0 rfl) ?_
  refine lv_aload_n hx hb dX11_draw_1 rfl (lv_at hl 0 rfl) ?_
  refine q_get (o := 188) (ci := 11) (k := 12) (T := TX11) (v := .int (S 188 12)) C hM (qmem_11 E ad S A b (show qk 188 = 11 from by decide +kernel)) (by decide) rfl hi11 (by decide) hL0 rfl rfl dX11_draw_2 ?_
  refine lv_i2l (v := (S 188 12 : Int32).toInt64) hx hb dX11_draw_5 rfl ?_
  refine lv_ldc2 (v := 1103515245) hx hb C.2.2.2.1 hL1 dX11_draw_6 ?_
  refine lv_lmul hx hb dX11_draw_9 ?_
  refine lv_ldc2 (v := 12345) hx hb C.2.2.2.1 hL2 dX11_draw_10 ?_
  refine lv_ladd hx hb dX11_draw_13 ?_
  refine lv_ldc2 (v := 2147483648) hx hb C.2.2.2.1 hL3 dX11_draw_14 ?_
  refine lv_lrem hx hb dX11_draw_17 (by decide) ?_
  refine lv_l2i (v := (((((S 188 12 : Int32).toInt64) * 1103515245) + 12345) - ((((S 188 12 : Int32).toInt64) * 1103515245) + 12345) / 2147483648 * 2147483648 : Int64).toInt32) hx hb dX11_draw_18 rfl ?_
  refine lv_topi (fun v_1 ev_1 => ?_)
  refine q_put (o := 188) (ci := 11) (k := 12) (T := TX11) (ty := .int) (v := v_1) C hM (qmem_11 E ad S A b (show qk 188 = 11 from by decide +kernel)) (by decide) rfl hi11 tyX11 tyX11_ok nmX11 (by decide) hL0 rfl rfl (by decide +kernel) rfl rfl (Nat.le_of_ble_eq_true rfl) (qs_11_12 E ad S A b (show qk 188 = 11 from by decide +kernel) v_1) dX11_draw_19 (fun H locs hM => ?_)
  obtain ⟨S_2, eS_2⟩ : ∃ zz, zz = q2 S 188 12 v_1 := ⟨_, rfl⟩
  rw [← eS_2] at hM
  refine lv_aload_n hx hb dX11_draw_22 rfl (lv_at hl 0 rfl) ?_
  refine q_get (o := 188) (ci := 11) (k := 12) (T := TX11) (v := .int v_1) C hM (qmem_11 E ad S_2 A b (show qk 188 = 11 from by decide +kernel)) (by decide) rfl hi11 (by decide) hL0 rfl (congrArg (fun z => some (Value.int z)) (show S_2 188 12 = v_1 from by rw [eS_2]; exact q2_s _ _ _ _)) dX11_draw_23 ?_
  refine lv_ldcw (v := 65536) hx hb C.2.2.2.1 hL4 dX11_draw_26 ?_
  refine lv_idiv hx hb dX11_draw_29 (by decide) ?_
  refine lv_iload_n hx hb dX11_draw_30 rfl (lv_at hl 1 rfl) ?_
  refine lv_irem hx hb dX11_draw_31 ha1 ?_
  exact q_iret C hM dX11_draw_32 (by exact ⟨⟨rfl, rfl⟩, by rw [ev_1]; rfl, by rw [eS_2, ev_1]; rfl⟩)
