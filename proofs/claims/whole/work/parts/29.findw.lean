set_option maxHeartbeats 4000000 in
set_option maxRecDepth 100000 in
theorem c_X6_findWays (E : qE) (ad : Nat → Nat) (l : Launch) (S A : qA2) (b : qB) (p : Nat) (hp : qpl p) (nP : Nat) (hPo : S p 4 = nI nP) (hPb : nP ≤ 6) (nK : Nat) (hK : S p 5 = nI nK) (hKb : nK ≤ 5) (nS : Nat) (hS : S 164 0 = nI nS) (hSb : nS ≤ 6) (sp : Nat → Nat) (hsp : ∀ k, k < nS → A 166 k = nI (sp k) ∧ sp k < 6) : MV E ad l yX6_findWays wsX6_findWays { frames := 3, cells := 0, slots := 0, locals := 68 } [.ref (ad 164), .ref (ad p)] S A b (fun S' A' b' => b = b' ∧ (S' 164 1, A' 168) = qfw nP nK (fun way => qfits nP (fun p => qsat (A 165) sp p nS) (qsall (A 165) nS) way) 5000 (qsettle nK nP 0 0 (A 170, 0, 0)) (0, qmap (fun _ _ => 0) (A 168) 6) ∧ (∀ i, (i ≠ 167 ∧ i ≠ 168 ∧ i ≠ 170) → A' i = A i) ∧ (∀ i, (i ≠ 164 ∧ i ≠ 169) → S' i = S i) ∧ S' 164 0 = S 164 0) := by
  obtain ⟨⟨kp, kp1, kp2, kp3, kp4, kp5, kp6⟩, ⟨lp1, lp2, lp3, lp4, lp5, lp6⟩, bp, bp7⟩ := qpl_all hp
  refine MV.of (cc := cX6_findWays) (maxL := 3) (ret := none) RX6 rfl (by decide) rfl ?_
  intro pg e s m below meth cd C hM
  have hx := C.1
  have hb := C.2.1
  have hts := C.2.2.2.2.1
  have hA : ∀ q, s.heap.size ≤ q → qAr ad s.heap.size q := fun _ h => Or.inr h
  have hi5 : ∀ w ∈ u_ws RX5 TX5 13, w ∈ wsX6_findWays := by decide +kernel
  have hi6 : ∀ w ∈ u_ws RX6 TX6 8, w ∈ wsX6_findWays := by decide +kernel
  have hi8 : ∀ w ∈ u_ws RX8 TX8 6, w ∈ wsX6_findWays := by decide +kernel
  have hL0 := hts (.fieldLink RX6 43 "CrowFences$Sits" "waysThatFit" "I") (by decide +kernel)
  have hL1 := hts (.fieldLink RX6 27 "CrowFences$Sits" "ways" "LCrowFences$Ways;") (by decide +kernel)
  have hL2 := hts (.fieldLink RX6 50 "CrowFences$Ways" "ended" "Z") (by decide +kernel)
  have hL3 := hts (.fieldLink RX6 54 "CrowFences$Plan" "posts" "I") (by decide +kernel)
  have hL4 := hts (.fieldLink RX6 21 "CrowFences$Sits" "tenants" "[I") (by decide +kernel)
  have hl := lv_entry ([.ref (ad 164), .ref (ad p)]) (n := 3) (Nat.le_of_ble_eq_true rfl)
  rw [lg_entry_eq]
  generalize (lg_sl ([.ref (ad 164), .ref (ad p)]) ++ List.replicate (3 - (lg_sl ([.ref (ad 164), .ref (ad p)])).length) Slot.unset).toArray = ls at hl ⊢
  have hl : lv_has ls 3 [(0, .ref (ad 164)), (1, .ref (ad p))] := hl
  refine lv_aload_n hx hb dX6_findWays_0 rfl (lv_at hl 0 rfl) ?_
  refine q_callVV (n := 0) (o := 164) (As := []) (rest := []) C hM hA (c_X6_gatherSeen E ad l S A b nS hS (by omega) sp hsp) (qmem_6 E ad S A b (show qk 164 = 6 from by decide +kernel)) (by decide) rfl gX6_findWays_X6_gatherSeen rfl rfl rfl (by decide +kernel) ⟨Nat.le_of_ble_eq_true rfl, Nat.le_of_ble_eq_true rfl⟩ rfl hl.1 rfl (Nat.le_of_ble_eq_true rfl) ⟨Nat.zero_le _, Nat.zero_le _⟩ dX6_findWays_1 (fun S_2 A_3 b_4 H locs qr_1 hM => ?_)
  obtain ⟨e3, hrA_3, eS_2, hfA_3⟩ := qr_1
  subst e3
  refine lv_aload_n hx hb dX6_findWays_4 rfl (lv_at hl 0 rfl) ?_
  refine lv_iconst (v := 0) hx hb dX6_findWays_5 (by decide) ?_
  refine q_put (o := 164) (ci := 6) (k := 1) (T := TX6) (ty := .int) (v := 0) C hM (qmem_6 E ad S_2 A_3 b (show qk 164 = 6 from by decide +kernel)) (by decide) rfl hi6 tyX6 tyX6_ok nmX6 (by decide) hL0 rfl rfl (by decide +kernel) rfl rfl (Nat.le_of_ble_eq_true rfl) (qs_6_1 E ad S_2 A_3 b (show qk 164 = 6 from by decide +kernel) 0) dX6_findWays_6 (fun H locs hM => ?_)
  obtain ⟨S_5, eS_5⟩ : ∃ zz, zz = q2 S_2 164 1 0 := ⟨_, rfl⟩
  rw [← eS_5] at hM
  refine lv_iconst (v := 0) hx hb dX6_findWays_9 (by decide) ?_
  refine lv_istore_n (lv' := [(2, .int 0), (0, .ref (ad 164)), (1, .ref (ad p))]) hx hb dX6_findWays_10 rfl hl (by decide) rfl (fun ls hl => ?_)
  have loop11 : ∀ (fu : Nat) (k1 : Nat) (A11 : qA2) (hk1 : k1 ≤ 6) (hr : A11 168 = qmap (fun _ _ => 0) (A 168) k1) (hf : ∀ i, i ≠ 168 → A11 i = A_3 i), 6 - k1 < fu → ∀ (H : Heap) (locs : List Loc) (ls : Array Slot), qM E ad S_5 A11 b (qAr ad s.heap.size) s H locs → lv_has ls 3 [(2, .int (nI k1)), (0, .ref (ad 164)), (1, .ref (ad p))] → W pg l e (headSpec wsX6_findWays { frames := 3, cells := 0, slots := 0, locals := 68 }).room s m ([.ref (ad 164), .ref (ad p)] : List Value).toArray below meth cd H locs 0 0 (MQ below (qQv E ad s.heap.size (fun S' A' b' => b = b' ∧ (S' 164 1, A' 168) = qfw nP nK (fun way => qfits nP (fun p => qsat (A 165) sp p nS) (qsall (A 165) nS) way) 5000 (qsettle nK nP 0 0 (A 170, 0, 0)) (0, qmap (fun _ _ => 0) (A 168) 6) ∧ (∀ i, (i ≠ 167 ∧ i ≠ 168 ∧ i ≠ 170) → A' i = A i) ∧ (∀ i, (i ≠ 164 ∧ i ≠ 169) → S' i = S i) ∧ S' 164 0 = S 164 0)) ([.ref (ad 164), .ref (ad p)] : List Value).toArray s 0 0 (qAr ad s.heap.size)) (F0 m 11 ls []) := by
    intro fu
    induction fu with
    | zero => intro k1 A11 hk1 hr hf hn; exact absurd hn (Nat.not_lt_zero _)
    | succ fu ih11 =>
      intro k1 A11 hk1 hr hf hn H locs ls hM hl
      refine lv_iload_n hx hb dX6_findWays_11 rfl (lv_at hl 0 rfl) ?_
      refine lv_bipush (v := 6) hx hb dX6_findWays_12 (by decide) ?_
      refine lv_icmp_ge (tgt := 30) hx hb dX6_findWays_14 (by decide) (fun c_14 => ?_) (fun c_14 => ?_)
      · skip
        have c_14 : 6 ≤ k1 := (nI_leI (a := 6) (b := k1) (by omega) (by omega)).mp c_14
        refine lv_aload_n hx hb dX6_findWays_30 rfl (lv_at hl 1 rfl) ?_
        refine q_get (o := 164) (ci := 6) (k := 7) (T := TX6) (v := .ref (ad 169)) C hM (qmem_6 E ad S_5 A11 b (show qk 164 = 6 from by decide +kernel)) (by decide) rfl hi6 (by decide) hL1 rfl rfl dX6_findWays_31 ?_
        refine lv_aload_n hx hb dX6_findWays_34 rfl (lv_at hl 2 rfl) ?_
        refine q_callVV (n := 1) (o := 169) (As := [.ref (ad p)]) (rest := []) C hM hA (c_X8_begin E ad l S_5 A11 b 169 (show qy 169 from Or.inr rfl) p hp nK ((show S_5 p 5 = S p 5 from by rw [eS_5, q2_o _ _ (by omega)]; rw [eS_2, q2_o _ _ (by omega)]).trans hK) (by omega) nP ((show S_5 p 4 = S p 4 from by rw [eS_5, q2_o _ _ (by omega)]; rw [eS_2, q2_o _ _ (by omega)]).trans hPo) (by omega)) (qmem_8 E ad S_5 A11 b (show qk 169 = 8 from by decide +kernel)) (by decide) rfl gX6_findWays_X8_begin rfl rfl rfl (by decide +kernel) ⟨Nat.le_of_ble_eq_true rfl, Nat.le_of_ble_eq_true rfl⟩ rfl hl.1 rfl (Nat.le_of_ble_eq_true rfl) ⟨Nat.zero_le _, Nat.zero_le _⟩ dX6_findWays_35 (fun S_7 A_8 b_9 H locs qr_6 hM => ?_)
        obtain ⟨e3, htA_8, hyS_7, hfA_8, hgS_7⟩ := qr_6
        subst e3
        simp only [Nat.reduceAdd] at htA_8 hfA_8
        refine lv_iconst (v := 0) hx hb dX6_findWays_38 (by decide) ?_
        refine lv_istore_n (lv' := [(2, .int 0), (0, .ref (ad 164)), (1, .ref (ad p))]) hx hb dX6_findWays_39 rfl hl (by decide) rfl (fun ls hl => ?_)
        have loop40 : ∀ (fu : Nat) (k : Nat) (S40 : qA2) (A40 : qA2) (hk : k ≤ 5000) (hen : S40 169 2 = 0 ∨ S40 169 2 = 1) (hf0 : S40 169 2 = 0 → qfw nP nK (fun way => qfits nP (fun p => qsat (A 165) sp p nS) (qsall (A 165) nS) way) 5000 (qsettle nK nP 0 0 (A 170, 0, 0)) (0, qmap (fun _ _ => 0) (A 168) 6) = qfw nP nK (fun way => qfits nP (fun p => qsat (A 165) sp p nS) (qsall (A 165) nS) way) (5000 - k) (A40 170, S40 169 1, S40 169 5) (S40 164 1, A40 168)) (hf1 : S40 169 2 = 1 → qfw nP nK (fun way => qfits nP (fun p => qsat (A 165) sp p nS) (qsall (A 165) nS) way) 5000 (qsettle nK nP 0 0 (A 170, 0, 0)) (0, qmap (fun _ _ => 0) (A 168) 6) = (S40 164 1, A40 168)) (hok : S40 169 2 = 0 → qWok nP nK (A40 170, S40 169 1, S40 169 5)) (hsn : ∀ p, p < 6 → A40 167 p = qsat (A 165) sp p nS) (hall : S40 164 6 = qsall (A 165) nS) (h00 : S40 164 0 = S 164 0) (hy34 : S40 169 3 = nI nP ∧ S40 169 4 = nI nK) (hfA : ∀ i, (i ≠ 167 ∧ i ≠ 168 ∧ i ≠ 170) → A40 i = A i) (hfS : ∀ i, (i ≠ 164 ∧ i ≠ 169) → S40 i = S i), 5000 - k < fu → ∀ (H : Heap) (locs : List Loc) (ls : Array Slot), qM E ad S40 A40 b (qAr ad s.heap.size) s H locs → lv_has ls 3 [(2, .int (nI k)), (0, .ref (ad 164)), (1, .ref (ad p))] → W pg l e (headSpec wsX6_findWays { frames := 3, cells := 0, slots := 0, locals := 68 }).room s m ([.ref (ad 164), .ref (ad p)] : List Value).toArray below meth cd H locs 0 0 (MQ below (qQv E ad s.heap.size (fun S' A' b' => b = b' ∧ (S' 164 1, A' 168) = qfw nP nK (fun way => qfits nP (fun p => qsat (A 165) sp p nS) (qsall (A 165) nS) way) 5000 (qsettle nK nP 0 0 (A 170, 0, 0)) (0, qmap (fun _ _ => 0) (A 168) 6) ∧ (∀ i, (i ≠ 167 ∧ i ≠ 168 ∧ i ≠ 170) → A' i = A i) ∧ (∀ i, (i ≠ 164 ∧ i ≠ 169) → S' i = S i) ∧ S' 164 0 = S 164 0)) ([.ref (ad 164), .ref (ad p)] : List Value).toArray s 0 0 (qAr ad s.heap.size)) (F0 m 40 ls []) := by
          intro fu
          induction fu with
          | zero => intro k S40 A40 hk hen hf0 hf1 hok hsn hall h00 hy34 hfA hfS hn; exact absurd hn (Nat.not_lt_zero _)
          | succ fu ih40 =>
            intro k S40 A40 hk hen hf0 hf1 hok hsn hall h00 hy34 hfA hfS hn H locs ls hM hl
            refine lv_iload_n hx hb dX6_findWays_40 rfl (lv_at hl 0 rfl) ?_
            refine lv_sipush (v := 5000) hx hb dX6_findWays_41 (by decide) ?_
            refine lv_icmp_ge (tgt := 89) hx hb dX6_findWays_44 (by decide) (fun c_44 => ?_) (fun c_44 => ?_)
            · skip
              have c_44 : 5000 ≤ k := (nI_leI (a := 5000) (b := k) (by omega) (by omega)).mp c_44
              exact q_vret C hM dX6_findWays_89 (by exact ⟨rfl, (hen.elim (fun hz => by rw [hf0 hz, show 5000 - k = 0 by omega]; rfl) (fun hz => (hf1 hz).symm)), hfA, hfS, h00⟩)
            · skip
              have c_44 : ¬ (5000 ≤ k) := fun z => c_44 ((nI_leI (a := 5000) (b := k) (by omega) (by omega)).mpr z)
              refine lv_aload_n hx hb dX6_findWays_47 rfl (lv_at hl 1 rfl) ?_
              refine q_get (o := 164) (ci := 6) (k := 7) (T := TX6) (v := .ref (ad 169)) C hM (qmem_6 E ad S40 A40 b (show qk 164 = 6 from by decide +kernel)) (by decide) rfl hi6 (by decide) hL1 rfl rfl dX6_findWays_48 ?_
              refine q_get (o := 169) (ci := 8) (k := 2) (T := TX8) (v := .int (S40 169 2)) C hM (qmem_8 E ad S40 A40 b (show qk 169 = 8 from by decide +kernel)) (by decide) rfl hi8 (by decide) hL2 rfl rfl dX6_findWays_51 ?_
              refine lv_if_ne (tgt := 89) hx hb dX6_findWays_54 (by decide) (fun c_54 => ?_) (fun c_54 => ?_)
              · skip
                exact q_vret C hM dX6_findWays_89 (by exact ⟨rfl, (hf1 (hen.resolve_left c_54)).symm, hfA, hfS, h00⟩)
              · skip
                refine lv_aload_n hx hb dX6_findWays_57 rfl (lv_at hl 1 rfl) ?_
                refine lv_aload_n hx hb dX6_findWays_58 rfl (lv_at hl 2 rfl) ?_
                refine q_get (o := p) (ci := 5) (k := 4) (T := TX5) (v := .int (S p 4)) C hM (qmem_5 E ad S40 A40 b kp) (by omega) rfl hi5 (by decide) hL3 rfl (congrArg (fun z => some (Value.int z)) (show S40 p 4 = S p 4 from by rw [hfS p (by omega)])) dX6_findWays_59 ?_
                refine lv_as (y := nI nP) hPo ?_
                refine q_callVI (n := 1) (o := 164) (As := [.int (nI nP)]) (rest := []) C hM hA (c_X6_wayFits E ad l S40 A40 b nP (by omega)) (qmem_6 E ad S40 A40 b (show qk 164 = 6 from by decide +kernel)) (by decide) rfl gX6_findWays_X6_wayFits rfl rfl rfl (by decide +kernel) ⟨Nat.le_of_ble_eq_true rfl, Nat.le_of_ble_eq_true rfl⟩ rfl hl.1 rfl (Nat.le_of_ble_eq_true rfl) ⟨Nat.zero_le _, Nat.zero_le _⟩ dX6_findWays_62 (fun r_10 S_11 A_12 b_13 H locs qr_10 hM => ?_)
                obtain ⟨⟨e1, e2, e3⟩, hr_10⟩ := qr_10
                subst e1; subst e2; subst e3
                rw [qfits_cong (s2 := (fun p => qsat (A 165) sp p nS)) (a2 := qsall (A 165) nS) (fun p hp => hsn p (by omega)) hall] at hr_10
                refine lv_if_eq (tgt := 76) hx hb dX6_findWays_65 (by decide) (fun c_65 => ?_) (fun c_65 => ?_)
                · skip
                  refine lv_aload_n hx hb dX6_findWays_76 rfl (lv_at hl 1 rfl) ?_
                  refine q_get (o := 164) (ci := 6) (k := 7) (T := TX6) (v := .ref (ad 169)) C hM (qmem_6 E ad S40 A40 b (show qk 164 = 6 from by decide +kernel)) (by decide) rfl hi6 (by decide) hL1 rfl rfl dX6_findWays_77 ?_
                  refine q_callVV (n := 0) (o := 169) (As := []) (rest := []) C hM hA (c_X8_advance E ad l S40 A40 b 169 (show qy 169 from Or.inr rfl) nK hy34.2 (by omega) nP hy34.1 (by omega) (fun q h1 h2 => by rw [show A40 170 = A40 170 from by rfl] at h2 ⊢; exact qcw_nat hKb ((hok c_54).1 q h1) h2)) (qmem_8 E ad S40 A40 b (show qk 169 = 8 from by decide +kernel)) (by decide) rfl gX6_findWays_X8_advance rfl rfl rfl (by decide +kernel) ⟨Nat.le_of_ble_eq_true rfl, Nat.le_of_ble_eq_true rfl⟩ rfl hl.1 rfl (Nat.le_of_ble_eq_true rfl) ⟨Nat.zero_le _, Nat.zero_le _⟩ dX6_findWays_80 (fun S_15 A_16 b_17 H locs qr_14 hM => ?_)
                  obtain ⟨e3, hfA_16, hgS_15, h3S_15, h4S_15, hvS_15⟩ := qr_14
                  subst e3
                  simp only [Nat.reduceAdd] at hfA_16 hvS_15
                  refine lv_iinc (v := nI (k + 1)) (lv' := [(2, .int (nI (k + 1))), (0, .ref (ad 164)), (1, .ref (ad p))]) hx hb dX6_findWays_83 hl (k := 0) rfl (by rw [nI_succ]; rfl) (by decide) rfl (fun ls hl => ?_)
                  refine lv_goto (tgt := 40) hx hb dX6_findWays_86 (by decide) ?_
                  exact ih40 (k + 1) S_15 A_16 (by omega) (hvS_15.elim (fun q => Or.inr q.2) (fun ⟨_, _, q, _⟩ => Or.inl (q.trans ((show S40 169 2 = S40 169 2 from by rfl).trans c_54)))) (fun hz => hvS_15.elim (fun q => absurd (hz.symm.trans q.2) (by decide)) (fun ⟨t9, q1, _, q3⟩ => by rw [(show (A40 170, S40 169 1, S40 169 5) = (A40 170, S40 169 1, S40 169 5) from by rw [show A40 170 = A40 170 from by rfl, show S40 169 1 = S40 169 1 from by rfl, show S40 169 5 = S40 169 5 from by rfl])] at q1; rw [q3, show (S_15 164 1, A_16 168) = (S40 164 1, A40 168) from by rw [show S_15 164 1 = S40 164 1 from by rw [hgS_15 164 (by omega)], show A_16 168 = A40 168 from by rw [hfA_16 168 (by omega)]], hf0 c_54, show 5000 - k = 5000 - (k + 1) + 1 by omega, qfw_some q1, qfs_no (hr_10.elim (fun q => absurd (c_65.symm.trans q.1) (by decide)) (fun q => q.2))])) (fun hz => hvS_15.elim (fun q => by have q1 := q.1; rw [(show (A40 170, S40 169 1, S40 169 5) = (A40 170, S40 169 1, S40 169 5) from by rw [show A40 170 = A40 170 from by rfl, show S40 169 1 = S40 169 1 from by rfl, show S40 169 5 = S40 169 5 from by rfl])] at q1; rw [show (S_15 164 1, A_16 168) = (S40 164 1, A40 168) from by rw [show S_15 164 1 = S40 164 1 from by rw [hgS_15 164 (by omega)], show A_16 168 = A40 168 from by rw [hfA_16 168 (by omega)]], hf0 c_54, show 5000 - k = 5000 - (k + 1) + 1 by omega, qfw_none q1, qfs_no (hr_10.elim (fun q => absurd (c_65.symm.trans q.1) (by decide)) (fun q => q.2))]) (fun ⟨_, _, q, _⟩ => absurd (hz.symm.trans (q.trans ((show S40 169 2 = S40 169 2 from by rfl).trans c_54))) (by decide))) (fun hz => hvS_15.elim (fun q => absurd (hz.symm.trans q.2) (by decide)) (fun ⟨t9, q1, _, q3⟩ => by rw [(show (A40 170, S40 169 1, S40 169 5) = (A40 170, S40 169 1, S40 169 5) from by rw [show A40 170 = A40 170 from by rfl, show S40 169 1 = S40 169 1 from by rfl, show S40 169 5 = S40 169 5 from by rfl])] at q1; rw [q3]; exact qadv_ok hKb hPb (hok c_54) nP (Nat.le_refl _) q1)) (fun p hp => by rw [hfA_16 167 (by omega)]; exact hsn p hp) (by rw [hgS_15 164 (by omega)]; exact hall) (by rw [hgS_15 164 (by omega)]; exact h00) (⟨h3S_15.trans ((show S40 169 3 = S40 169 3 from by rfl).trans hy34.1), h4S_15.trans ((show S40 169 4 = S40 169 4 from by rfl).trans hy34.2)⟩) (fun i hi => by rw [hfA_16 i (by omega), hfA i hi]) (fun i hi => by rw [hgS_15 i (by omega), hfS i hi]) (by omega) _ _ _ hM hl
                · skip
                  refine lv_aload_n hx hb dX6_findWays_68 rfl (lv_at hl 1 rfl) ?_
                  refine lv_aload_n hx hb dX6_findWays_69 rfl (lv_at hl 2 rfl) ?_
                  refine q_get (o := p) (ci := 5) (k := 4) (T := TX5) (v := .int (S p 4)) C hM (qmem_5 E ad S40 A40 b kp) (by omega) rfl hi5 (by decide) hL3 rfl (congrArg (fun z => some (Value.int z)) (show S40 p 4 = S p 4 from by rw [hfS p (by omega)])) dX6_findWays_70 ?_
                  refine lv_as (y := nI nP) hPo ?_
                  refine q_callVV (n := 1) (o := 164) (As := [.int (nI nP)]) (rest := []) C hM hA (c_X6_countWay E ad l S40 A40 b nP (by omega)) (qmem_6 E ad S40 A40 b (show qk 164 = 6 from by decide +kernel)) (by decide) rfl gX6_findWays_X6_countWay rfl rfl rfl (by decide +kernel) ⟨Nat.le_of_ble_eq_true rfl, Nat.le_of_ble_eq_true rfl⟩ rfl hl.1 rfl (Nat.le_of_ble_eq_true rfl) ⟨Nat.zero_le _, Nat.zero_le _⟩ dX6_findWays_73 (fun S_19 A_20 b_21 H locs qr_18 hM => ?_)
                  obtain ⟨e3, eS_19, hrA_20, hfA_20⟩ := qr_18
                  subst e3
                  refine lv_aload_n hx hb dX6_findWays_76 rfl (lv_at hl 1 rfl) ?_
                  refine q_get (o := 164) (ci := 6) (k := 7) (T := TX6) (v := .ref (ad 169)) C hM (qmem_6 E ad S_19 A_20 b (show qk 164 = 6 from by decide +kernel)) (by decide) rfl hi6 (by decide) hL1 rfl rfl dX6_findWays_77 ?_
                  refine q_callVV (n := 0) (o := 169) (As := []) (rest := []) C hM hA (c_X8_advance E ad l S_19 A_20 b 169 (show qy 169 from Or.inr rfl) nK ((show S_19 169 4 = S40 169 4 from by rw [eS_19, q2_o _ _ (by omega)]).trans hy34.2) (by omega) nP ((show S_19 169 3 = S40 169 3 from by rw [eS_19, q2_o _ _ (by omega)]).trans hy34.1) (by omega) (fun q h1 h2 => by rw [show A_20 170 = A40 170 from by rw [hfA_20 170 (by omega)]] at h2 ⊢; exact qcw_nat hKb ((hok c_54).1 q h1) h2)) (qmem_8 E ad S_19 A_20 b (show qk 169 = 8 from by decide +kernel)) (by decide) rfl gX6_findWays_X8_advance rfl rfl rfl (by decide +kernel) ⟨Nat.le_of_ble_eq_true rfl, Nat.le_of_ble_eq_true rfl⟩ rfl hl.1 rfl (Nat.le_of_ble_eq_true rfl) ⟨Nat.zero_le _, Nat.zero_le _⟩ dX6_findWays_80 (fun S_23 A_24 b_25 H locs qr_22 hM => ?_)
                  obtain ⟨e3, hfA_24, hgS_23, h3S_23, h4S_23, hvS_23⟩ := qr_22
                  subst e3
                  simp only [Nat.reduceAdd] at hfA_24 hvS_23
                  refine lv_iinc (v := nI (k + 1)) (lv' := [(2, .int (nI (k + 1))), (0, .ref (ad 164)), (1, .ref (ad p))]) hx hb dX6_findWays_83 hl (k := 0) rfl (by rw [nI_succ]; rfl) (by decide) rfl (fun ls hl => ?_)
                  refine lv_goto (tgt := 40) hx hb dX6_findWays_86 (by decide) ?_
                  exact ih40 (k + 1) S_23 A_24 (by omega) (hvS_23.elim (fun q => Or.inr q.2) (fun ⟨_, _, q, _⟩ => Or.inl (q.trans ((show S_19 169 2 = S40 169 2 from by rw [eS_19, q2_o _ _ (by omega)]).trans c_54)))) (fun hz => hvS_23.elim (fun q => absurd (hz.symm.trans q.2) (by decide)) (fun ⟨t9, q1, _, q3⟩ => by rw [(show (A_20 170, S_19 169 1, S_19 169 5) = (A40 170, S40 169 1, S40 169 5) from by rw [show A_20 170 = A40 170 from by rw [hfA_20 170 (by omega)], show S_19 169 1 = S40 169 1 from by rw [eS_19, q2_o _ _ (by omega)], show S_19 169 5 = S40 169 5 from by rw [eS_19, q2_o _ _ (by omega)]])] at q1; rw [q3, show (S_23 164 1, A_24 168) = (S40 164 1 + 1, qmap (fun p x => x ||| ((1 : Int32) <<< ((A40 170 p + 1) &&& 31))) (A40 168) nP) from by rw [show S_23 164 1 = S40 164 1 + 1 from by rw [hgS_23 164 (by omega), eS_19, q2_s], show A_24 168 = qmap (fun p x => x ||| ((1 : Int32) <<< ((A40 170 p + 1) &&& 31))) (A40 168) nP from by rw [hfA_24 168 (by omega), hrA_20]], hf0 c_54, show 5000 - k = 5000 - (k + 1) + 1 by omega, qfw_some q1, qfs_yes (hr_10.elim (fun q => q.2) (fun q => absurd q.1 c_65))])) (fun hz => hvS_23.elim (fun q => by have q1 := q.1; rw [(show (A_20 170, S_19 169 1, S_19 169 5) = (A40 170, S40 169 1, S40 169 5) from by rw [show A_20 170 = A40 170 from by rw [hfA_20 170 (by omega)], show S_19 169 1 = S40 169 1 from by rw [eS_19, q2_o _ _ (by omega)], show S_19 169 5 = S40 169 5 from by rw [eS_19, q2_o _ _ (by omega)]])] at q1; rw [show (S_23 164 1, A_24 168) = (S40 164 1 + 1, qmap (fun p x => x ||| ((1 : Int32) <<< ((A40 170 p + 1) &&& 31))) (A40 168) nP) from by rw [show S_23 164 1 = S40 164 1 + 1 from by rw [hgS_23 164 (by omega), eS_19, q2_s], show A_24 168 = qmap (fun p x => x ||| ((1 : Int32) <<< ((A40 170 p + 1) &&& 31))) (A40 168) nP from by rw [hfA_24 168 (by omega), hrA_20]], hf0 c_54, show 5000 - k = 5000 - (k + 1) + 1 by omega, qfw_none q1, qfs_yes (hr_10.elim (fun q => q.2) (fun q => absurd q.1 c_65))]) (fun ⟨_, _, q, _⟩ => absurd (hz.symm.trans (q.trans ((show S_19 169 2 = S40 169 2 from by rw [eS_19, q2_o _ _ (by omega)]).trans c_54))) (by decide))) (fun hz => hvS_23.elim (fun q => absurd (hz.symm.trans q.2) (by decide)) (fun ⟨t9, q1, _, q3⟩ => by rw [(show (A_20 170, S_19 169 1, S_19 169 5) = (A40 170, S40 169 1, S40 169 5) from by rw [show A_20 170 = A40 170 from by rw [hfA_20 170 (by omega)], show S_19 169 1 = S40 169 1 from by rw [eS_19, q2_o _ _ (by omega)], show S_19 169 5 = S40 169 5 from by rw [eS_19, q2_o _ _ (by omega)]])] at q1; rw [q3]; exact qadv_ok hKb hPb (hok c_54) nP (Nat.le_refl _) q1)) (fun p hp => by rw [hfA_24 167 (by omega), hfA_20 167 (by omega)]; exact hsn p hp) (by rw [hgS_23 164 (by omega), eS_19, q2_k _ _ (by omega)]; exact hall) (by rw [hgS_23 164 (by omega), eS_19, q2_k _ _ (by omega)]; exact h00) (⟨h3S_23.trans ((show S_19 169 3 = S40 169 3 from by rw [eS_19, q2_o _ _ (by omega)]).trans hy34.1), h4S_23.trans ((show S_19 169 4 = S40 169 4 from by rw [eS_19, q2_o _ _ (by omega)]).trans hy34.2)⟩) (fun i hi => by rw [hfA_24 i (by omega), hfA_20 i (by omega), hfA i hi]) (fun i hi => by rw [hgS_23 i (by omega), eS_19, q2_or _ _ (by omega), hfS i hi]) (by omega) _ _ _ hM hl
        exact loop40 (5000 - 0 + 1) 0 S_7 A_8 (by omega) (Or.inl hyS_7.1) (fun _ => by rw [htA_8, show S_7 164 1 = 0 from by rw [hgS_7 164 (by omega), eS_5, q2_s], show A_8 168 = qmap (fun _ _ => 0) (A 168) 6 from by rw [hfA_8 168 (by omega), hr, show k1 = 6 by omega], hf 170 (by omega), hfA_3 170 (by omega)]) (fun hz => absurd (hz.symm.trans hyS_7.1) (by decide)) (fun _ => by rw [htA_8]; have hz := qsettle_ok hKb nP 0 0 (A11 170, 0, 0) (by omega) (by omega) (fun k hk => absurd hk (Nat.not_lt_zero _)) qset6_0; rw [Nat.zero_add] at hz; exact hz) (fun p hp => by rw [hfA_8 167 (by omega), hf 167 (by omega)]; exact hrA_3 p hp) (by rw [hgS_7 164 (by omega), eS_5, q2_k _ _ (by omega), eS_2, q2_s]) (by rw [hgS_7 164 (by omega), eS_5, q2_k _ _ (by omega), eS_2, q2_k _ _ (by omega)]) hyS_7.2 (fun i hi => by rw [hfA_8 i (by omega), hf i (by omega), hfA_3 i (by omega)]) (fun i hi => by rw [hgS_7 i (by omega), eS_5, q2_or _ _ (by omega), eS_2, q2_or _ _ (by omega)]) (Nat.lt_succ_self _) _ _ _ hM hl
      · skip
        have c_14 : ¬ (6 ≤ k1) := fun z => c_14 ((nI_leI (a := 6) (b := k1) (by omega) (by omega)).mpr z)
        refine lv_aload_n hx hb dX6_findWays_17 rfl (lv_at hl 1 rfl) ?_
        refine q_get (o := 164) (ci := 6) (k := 5) (T := TX6) (v := .ref (ad 168)) C hM (qmem_6 E ad S_5 A11 b (show qk 164 = 6 from by decide +kernel)) (by decide) rfl hi6 (by decide) hL4 rfl rfl dX6_findWays_18 ?_
        refine lv_iload_n hx hb dX6_findWays_21 rfl (lv_at hl 0 rfl) ?_
        refine lv_iconst (v := 0) hx hb dX6_findWays_22 (by decide) ?_
        refine q_iast C hM (show qk 168 = 12 from by decide +kernel) (by rw [(show ql 168 = 6 from by decide +kernel)]; exact vp_nI (by omega) (by omega)) dX6_findWays_23 (fun H locs hM => ?_)
        rw [nIc (by omega)] at hM
        obtain ⟨A_26, eA_26⟩ : ∃ zz, zz = q2 A11 168 k1 0 := ⟨_, rfl⟩
        rw [← eA_26] at hM
        refine lv_iinc (v := nI (k1 + 1)) (lv' := [(2, .int (nI (k1 + 1))), (0, .ref (ad 164)), (1, .ref (ad p))]) hx hb dX6_findWays_24 hl (k := 0) rfl (by rw [nI_succ]; rfl) (by decide) rfl (fun ls hl => ?_)
        refine lv_goto (tgt := 11) hx hb dX6_findWays_27 (by decide) ?_
        exact ih11 (k1 + 1) A_26 (by omega) (by rw [eA_26, q2_row, hr]; exact qmap_s _ _ _ _ rfl) (by rw [eA_26]; exact qfr_up hf) (by omega) _ _ _ hM hl
  exact loop11 (6 - 0 + 1) 0 A_3 (by omega) (by rw [qmap_0, hfA_3 168 (by omega)]) (fun _ _ => rfl) (Nat.lt_succ_self _) _ _ _ hM hl
