/-! ways to let: the class's order and the reference's codes -/
def cfr {α : Type} (g : Nat → α → α) : Nat → Nat → α → α
  | 0, _, br => br
  | k + 1, le, br => cfr g k (le + 1) (g le br)
theorem cfr_app {α : Type} (g : Nat → α → α) : ∀ (a b lo : Nat) (br : α), cfr g (a + b) lo br = cfr g b (lo + a) (cfr g a lo br)
  | 0, b, lo, br => by simp only [Nat.zero_add, cfr, Nat.add_zero]
  | a + 1, b, lo, br => by
    rw [show a + 1 + b = a + b + 1 by omega]
    simp only [cfr]
    rw [cfr_app g a b (lo + 1) (g lo br), show lo + 1 + a = lo + (a + 1) by omega]
theorem cfr_snoc {α : Type} (g : Nat → α → α) (k lo : Nat) (br : α) : cfr g (k + 1) lo br = g (lo + k) (cfr g k lo br) := by
  rw [cfr_app g k 1 lo br]
  rfl
theorem cfr_id {α : Type} {g : Nat → α → α} : ∀ (k lo : Nat) (br : α), (∀ m, lo ≤ m → m < lo + k → ∀ b, g m b = b) → cfr g k lo br = br
  | 0, _, _, _ => rfl
  | k + 1, lo, br, h => by
    simp only [cfr]
    rw [h lo (Nat.le_refl _) (by omega)]
    exact cfr_id k (lo + 1) br (fun m h1 h2 => h m (by omega) (by omega))
abbrev wa_n (q : Nat) (t : qWy) : qWy := (upd t.1 q (-1), t.2.1, t.2.2)
abbrev wa_c (q c : Nat) (t : qWy) : qWy := (upd t.1 q (nI c), t.2.1 ||| qbit q, t.2.2 ||| qbit c)
def dfs {α : Type} (nK : Nat) (step : qWy → α → α) : Nat → Nat → qWy → α → α
  | 0, _, t, br => step t br
  | n + 1, q, t, br => dfs nK step n (q + 1) (wa_n q t) (cfr (fun c br => if qtb t.2.2 (nI c) = 0 then dfs nK step n (q + 1) (wa_c q c t) br else br) nK 0 br)
def wWf (nK q : Nat) (t : qWy) : Prop := (∀ j, j < q → qcw nK (t.1 j)) ∧ t.2.1 = qlets t.1 q ∧ (∀ c, c < 32 → (qtb t.2.2 (nI c) = 0 ↔ ∀ j, j < q → ¬ t.1 j = nI c))
theorem qlets_upd {f : Nat → Int32} {q : Nat} {v : Int32} : qlets (upd f q v) (q + 1) = qlets f q ||| (if v = -1 then 0 else qbit q) := by
  have e : qlets (upd f q v) (q + 1) = qlets (upd f q v) q ||| (if upd f q v q = -1 then 0 else qbit q) := rfl
  rw [e, upd_s, qlets_cong (g := f) (fun p hp => upd_o _ _ (by omega))]
theorem wWf_n {nK q : Nat} {t : qWy} (h : wWf nK q t) : wWf nK (q + 1) (wa_n q t) := by
  obtain ⟨h1, h2, h3⟩ := h
  refine ⟨fun j hj => ?_, ?_, fun c hc => ?_⟩
  · show qcw nK (upd t.1 q (-1) j)
    by_cases e : j = q
    · subst e; rw [upd_s]; exact Or.inl rfl
    · rw [upd_o _ _ e]; exact h1 j (by omega)
  · show t.2.1 = qlets (upd t.1 q (-1)) (q + 1)
    rw [qlets_upd, if_pos rfl, i32_or0]
    exact h2
  · show qtb t.2.2 (nI c) = 0 ↔ ∀ j, j < q + 1 → ¬ upd t.1 q (-1) j = nI c
    rw [h3 c hc]
    constructor
    · intro h j hj
      by_cases e : j = q
      · subst e; rw [upd_s]; exact fun z => nI_nm1 (by omega) z.symm
      · rw [upd_o _ _ e]; exact h j (by omega)
    · intro h j hj
      have := h j (by omega)
      rwa [upd_o _ _ (by omega)] at this
theorem wWf_c {nK q c : Nat} (hK : nK ≤ 5) {t : qWy} (h : wWf nK q t) (hc : c < nK) : wWf nK (q + 1) (wa_c q c t) := by
  obtain ⟨h1, h2, h3⟩ := h
  refine ⟨fun j hj => ?_, ?_, fun d hd => ?_⟩
  · show qcw nK (upd t.1 q (nI c) j)
    by_cases e : j = q
    · subst e; rw [upd_s]; exact Or.inr ⟨c, hc, rfl⟩
    · rw [upd_o _ _ e]; exact h1 j (by omega)
  · show t.2.1 ||| qbit q = qlets (upd t.1 q (nI c)) (q + 1)
    rw [qlets_upd, if_neg (nI_nm1 (by omega)), h2]
  · show qtb (t.2.2 ||| qbit c) (nI d) = 0 ↔ ∀ j, j < q + 1 → ¬ upd t.1 q (nI c) j = nI d
    rw [qtb_or hd, h3 d hd, qtb_bit (by omega) hd]
    constructor
    · intro h j hj
      by_cases e : j = q
      · subst e; rw [upd_s]; exact fun z => h.2 ((nI_eq (by omega) (by omega)).mp z).symm
      · rw [upd_o _ _ e]; exact h.1 j (by omega)
    · intro h
      refine ⟨fun j hj => ?_, fun e => ?_⟩
      · have := h j (by omega)
        rwa [upd_o _ _ (by omega)] at this
      · have := h q (by omega)
        rw [upd_s, e] at this
        exact this rfl
def frc (tk : Int32) : Nat → Nat → Nat
  | 0, _ => 0
  | k + 1, le => (if qtb tk (nI le) = 0 then 1 else 0) + frc tk k (le + 1)
theorem frc_le (tk : Int32) : ∀ k le, frc tk k le ≤ k
  | 0, _ => Nat.le_refl _
  | k + 1, le => by
    unfold frc
    have := frc_le tk k (le + 1)
    split <;> omega
theorem frc_bit {tk : Int32} {c : Nat} (hc : c < 31) (h0 : qtb tk (nI c) = 0) : ∀ k le, le + k ≤ 31 → frc (tk ||| qbit c) k le + (if le ≤ c ∧ c < le + k then 1 else 0) = frc tk k le
  | 0, le, _ => by
    rw [if_neg (by omega)]
    rfl
  | k + 1, le, h => by
    unfold frc
    have ih := frc_bit hc h0 k (le + 1) (by omega)
    by_cases e : le = c
    · subst e
      rw [if_neg (show ¬ (le + 1 ≤ le ∧ le < le + 1 + k) by omega)] at ih
      have hn : ¬ qtb (tk ||| qbit le) (nI le) = 0 := by
        rw [qtb_or (by omega), qtb_bit (by omega) (by omega)]
        exact fun z => z.2 rfl
      rw [if_neg hn, if_pos h0, if_pos (by omega)]
      omega
    · have hq : qtb (tk ||| qbit c) (nI le) = 0 ↔ qtb tk (nI le) = 0 := by
        rw [qtb_or (by omega), qtb_bit (by omega) (by omega)]
        exact ⟨fun z => z.1, fun z => ⟨z, e⟩⟩
      have hi : (if le ≤ c ∧ c < le + (k + 1) then 1 else 0) = (if le + 1 ≤ c ∧ c < le + 1 + k then 1 else 0) := by
        by_cases hz : le + 1 ≤ c ∧ c < le + 1 + k
        · rw [if_pos hz, if_pos (by omega)]
        · rw [if_neg hz, if_neg (by omega)]
      rw [hi]
      by_cases hz : qtb tk (nI le) = 0
      · rw [if_pos hz, if_pos (hq.mpr hz)]; omega
      · rw [if_neg hz, if_neg (fun z => hz (hq.mp z))]; omega
def wM : Nat → Nat → Nat
  | 0, _ => 1
  | n + 1, k => k * wM n (k - 1) + wM n k
theorem wM_mono : ∀ (n k k' : Nat), k ≤ k' → wM n k ≤ wM n k'
  | 0, _, _, _ => Nat.le_refl _
  | n + 1, k, k', h => by
    unfold wM
    exact Nat.add_le_add (Nat.mul_le_mul h (wM_mono n _ _ (by omega))) (wM_mono n _ _ h)
theorem wM_le {n k : Nat} (hn : n ≤ 6) (hk : k ≤ 5) : wM n k ≤ 5000 := by
  have : ∀ n, n < 7 → ∀ k, k < 6 → wM n k ≤ 5000 := by decide +kernel
  exact this n (by omega) k (by omega)
theorem wa_row {nK : Nat} : ∀ (n q le : Nat) (f g : Nat → Int32) (x y : Int32), (∀ j, ¬ (q ≤ j ∧ j < q + n) → f j = g j) → qsettle nK n q le (f, x, y) = qsettle nK n q le (g, x, y)
  | 0, q, le, f, g, x, y, h => by
    have : f = g := funext (fun j => h j (by omega))
    rw [this]
  | n + 1, q, le, f, g, x, y, h => by
    simp only [qsettle]
    generalize qleast y le (nK - le) = c
    have hu : ∀ j, ¬ (q + 1 ≤ j ∧ j < q + 1 + n) → upd f q c j = upd g q c j := fun j hj => by
      by_cases e : j = q
      · subst e; rw [upd_s, upd_s]
      · rw [upd_o _ _ e, upd_o _ _ e]; exact h j (by omega)
    by_cases hc : c = -1
    · rw [if_pos hc, if_pos hc]
      exact wa_row n (q + 1) 0 _ _ _ _ hu
    · rw [if_neg hc, if_neg hc]
      exact wa_row n (q + 1) 0 _ _ _ _ hu
def wtl (nP q : Nat) (t : qWy) : qWy := (fun j => if q ≤ j ∧ j < nP then -1 else t.1 j, t.2.1, t.2.2)
def wK {α : Type} (nP nK : Nat) (R : Nat → qWy → α → α) (fu q : Nat) (t : qWy) (D : α) : α := match qadv nP nK (wtl nP q t) q with
  | none => D
  | some t' => R fu t' D
theorem wK_some {α : Type} {nP nK : Nat} {R : Nat → qWy → α → α} {fu q : Nat} {t t' : qWy} {D : α} (h : qadv nP nK (wtl nP q t) q = some t') : wK nP nK R fu q t D = R fu t' D := by
  unfold wK
  rw [h]
theorem wa_back1 {x : Int32} {q : Nat} (hq : q < 31) (h : qtb x (nI q) = 0) : (x ||| qbit q) &&& (qbit q ^^^ -1) = x := by
  apply qtb_ext
  intro d hd
  rw [qtb_and hd, qtb_or hd, qtb_bit hq hd, qtb_nbit hq hd]
  by_cases e : d = q
  · subst e; simp [h]
  · simp [e]
theorem qlets_hi {f : Nat → Int32} {n d : Nat} (hn : n ≤ 30) (hd : d < 32) (h : n ≤ d) : qtb (qlets f n) (nI d) = 0 := by
  unfold qlets
  rw [qtb_qor hd]
  intro k hk
  split
  · exact qtb_0 hd
  · exact (qtb_bit (by omega) hd).mpr (by omega)
theorem wa_stepn {α : Type} {nP nK : Nat} {R : Nat → qWy → α → α} {fu q : Nat} {t : qWy} {D : α} (hq : q < nP) : wK nP nK R fu (q + 1) (wa_n q t) D = wK nP nK R fu q t D := by
  have e : wtl nP (q + 1) (wa_n q t) = wtl nP q t := by
    unfold wtl
    refine Prod.ext (funext (fun j => ?_)) rfl
    show (if q + 1 ≤ j ∧ j < nP then -1 else upd t.1 q (-1) j) = (if q ≤ j ∧ j < nP then -1 else t.1 j)
    by_cases e : j = q
    · subst e
      rw [if_neg (by omega), upd_s, if_pos (by omega)]
    · rw [upd_o _ _ e]
      by_cases h : q ≤ j ∧ j < nP
      · rw [if_pos h, if_pos (by omega)]
      · rw [if_neg h, if_neg (by omega)]
  unfold wK
  rw [e, qadv_skip (j := q + 1) (by omega) (by
    show (if q ≤ q + 1 - 1 ∧ q + 1 - 1 < nP then -1 else t.1 (q + 1 - 1)) = -1
    exact if_pos (by omega))]
  rfl
theorem wa_stepc {α : Type} {nP nK : Nat} (hP : nP ≤ 6) (hK : nK ≤ 5) {R : Nat → qWy → α → α} {fu q c n : Nat} {t : qWy} {D : α} (hq : q + (n + 1) = nP) (hc : c < nK) (h : wWf nK q t) (h0 : qtb t.2.2 (nI c) = 0) : wK nP nK R fu (q + 1) (wa_c q c t) D = R fu (qsettle nK (n + 1) q (c + 1) t) D := by
  refine wK_some ?_
  have e : (wtl nP (q + 1) (wa_c q c t)).1 q = nI c := by
    show (if q + 1 ≤ q ∧ q < nP then -1 else upd t.1 q (nI c) q) = nI c
    rw [if_neg (by omega), upd_s]
  rw [qadv_hit (j := q + 1) (by omega) (by
    rw [show q + 1 - 1 = q by omega, e]
    exact nI_nm1 (by omega))]
  rw [show q + 1 - 1 = q by omega, e, nIc (by omega), show nP - q = n + 1 by omega]
  have e1 : (wtl nP (q + 1) (wa_c q c t)).2.1 &&& (qbit q ^^^ -1) = t.2.1 := wa_back1 (by omega) (by rw [h.2.1]; exact qlets_hi (by omega) (by omega) (Nat.le_refl q))
  have e2 : (wtl nP (q + 1) (wa_c q c t)).2.2 &&& (((1 : Int32) <<< (nI c &&& 31)) ^^^ -1) = t.2.2 := wa_back1 (by omega) h0
  rw [e1, e2]
  congr 1
  refine wa_row (n + 1) q (c + 1) _ t.1 _ _ (fun j hj => ?_)
  show (if q + 1 ≤ j ∧ j < nP then -1 else upd t.1 q (nI c) j) = t.1 j
  rw [if_neg (by omega), upd_o _ _ (by omega)]
theorem wa_run {α : Type} {nP nK : Nat} (hP : nP ≤ 6) (hK : nK ≤ 5) {R : Nat → qWy → α → α} {step : qWy → α → α} (h0 : ∀ fu t br, qadv nP nK t nP = none → R (fu + 1) t br = step t br) (h1 : ∀ fu t t' br, qadv nP nK t nP = some t' → R (fu + 1) t br = R fu t' (step t br)) : ∀ (n q : Nat) (t : qWy), q + n = nP → wWf nK q t → ∃ N, N ≤ wM n (frc t.2.2 nK 0) ∧ ∀ fu br, R (fu + N) (qsettle nK n q 0 t) br = wK nP nK R fu q t (dfs nK step n q t br)
  | 0, q, t, hq, h => by
    refine ⟨1, Nat.le_refl _, fun fu br => ?_⟩
    have e : wtl nP q t = t := by
      unfold wtl
      refine Prod.ext (funext (fun j => ?_)) rfl
      show (if q ≤ j ∧ j < nP then -1 else t.1 j) = t.1 j
      exact if_neg (by omega)
    show R (fu + 1) t br = wK nP nK R fu q t (step t br)
    have hqq : q = nP := by omega
    unfold wK
    rw [e, hqq]
    cases hz : qadv nP nK t nP with
    | none => exact h0 fu t br hz
    | some t' => exact h1 fu t t' br hz
  | n + 1, q, t, hq, h => by
    have hin : ∀ (cnt le : Nat), le + cnt = nK → ∃ N, N ≤ frc t.2.2 cnt le * wM n (frc t.2.2 nK 0 - 1) + wM n (frc t.2.2 nK 0) ∧ ∀ fu br, R (fu + N) (qsettle nK (n + 1) q le t) br = wK nP nK R fu q t (dfs nK step n (q + 1) (wa_n q t) (cfr (fun c br => if qtb t.2.2 (nI c) = 0 then dfs nK step n (q + 1) (wa_c q c t) br else br) cnt le br)) := by
      intro cnt
      induction cnt with
      | zero =>
        intro le hle
        obtain ⟨N, hN, hr⟩ := wa_run hP hK h0 h1 n (q + 1) (wa_n q t) (by omega) (wWf_n h)
        refine ⟨N, Nat.le_trans hN (Nat.le_add_left _ _), fun fu br => ?_⟩
        have e : qsettle nK (n + 1) q le t = qsettle nK n (q + 1) 0 (wa_n q t) := by
          simp only [qsettle]
          rw [show nK - le = 0 by omega]
          simp only [qleast, if_true]
        rw [e, hr fu br, wa_stepn (by omega)]
        rfl
      | succ cnt ih =>
        intro le hle
        have el : nK - le = cnt + 1 := by omega
        by_cases hz : qtb t.2.2 (nI le) = 0
        · obtain ⟨N1, hN1, hr1⟩ := wa_run hP hK h0 h1 n (q + 1) (wa_c q le t) (by omega) (wWf_c hK h (by omega))
          obtain ⟨N2, hN2, hr2⟩ := ih (le + 1) (by omega)
          have hf := frc_bit (tk := t.2.2) (c := le) (by omega) hz nK 0 (by omega)
          rw [if_pos (by omega)] at hf
          have hb : N1 ≤ wM n (frc t.2.2 nK 0 - 1) := Nat.le_trans hN1 (wM_mono n _ _ (by show frc (t.2.2 ||| qbit le) nK 0 ≤ _; omega))
          refine ⟨N2 + N1, ?_, fun fu br => ?_⟩
          · have e3 : frc t.2.2 (cnt + 1) le = frc t.2.2 cnt (le + 1) + 1 := by
              show (if qtb t.2.2 (nI le) = 0 then 1 else 0) + frc t.2.2 cnt (le + 1) = _
              rw [if_pos hz]
              omega
            rw [e3, Nat.add_mul, Nat.one_mul]
            omega
          · have e : qsettle nK (n + 1) q le t = qsettle nK n (q + 1) 0 (wa_c q le t) := by
              have hl : qleast t.2.2 le (nK - le) = nI le := by rw [el]; exact if_pos hz
              simp only [qsettle]
              rw [hl, if_neg (nI_nm1 (by omega))]
              rfl
            rw [e, ← Nat.add_assoc, hr1 (fu + N2) br, wa_stepc hP hK (by omega) (by omega) h hz, hr2]
            simp only [cfr]
            rw [if_pos hz]
        · obtain ⟨N2, hN2, hr2⟩ := ih (le + 1) (by omega)
          refine ⟨N2, ?_, fun fu br => ?_⟩
          · have e3 : frc t.2.2 (cnt + 1) le = frc t.2.2 cnt (le + 1) := by
              show (if qtb t.2.2 (nI le) = 0 then 1 else 0) + frc t.2.2 cnt (le + 1) = _
              rw [if_neg hz]
              omega
            rw [e3]
            exact hN2
          · have e : qsettle nK (n + 1) q le t = qsettle nK (n + 1) q (le + 1) t := by
              have hl : qleast t.2.2 le (nK - le) = qleast t.2.2 (le + 1) (nK - (le + 1)) := by
                rw [el, show nK - (le + 1) = cnt by omega]
                exact if_neg hz
              simp only [qsettle]
              rw [hl]
            rw [e, hr2]
            simp only [cfr]
            rw [if_neg hz]
    obtain ⟨N, hN, hr⟩ := hin nK 0 (by omega)
    exact ⟨N, hN, fun fu br => hr fu br⟩
theorem wa_class {α : Type} {nP nK : Nat} (hP : nP ≤ 6) (hK : nK ≤ 5) {R : Nat → qWy → α → α} {step : qWy → α → α} (h0 : ∀ fu t br, qadv nP nK t nP = none → R (fu + 1) t br = step t br) (h1 : ∀ fu t t' br, qadv nP nK t nP = some t' → R (fu + 1) t br = R fu t' (step t br)) (f : Nat → Int32) (br : α) : R 5000 (qsettle nK nP 0 0 (f, 0, 0)) br = dfs nK step nP 0 (f, 0, 0) br := by
  obtain ⟨N, hN, hr⟩ := wa_run hP hK h0 h1 nP 0 (f, 0, 0) (by omega) ⟨fun j hj => absurd hj (Nat.not_lt_zero _), rfl, fun c hc => ⟨fun _ j hj => absurd hj (Nat.not_lt_zero _), fun _ => qtb_0 hc⟩⟩
  have hb : N ≤ 5000 := Nat.le_trans hN (wM_le hP (Nat.le_trans (frc_le _ _ _) hK))
  have := hr (5000 - N) br
  rw [show 5000 - N + N = 5000 by omega] at this
  rw [this]
  rfl
/-! the codes -/
theorem mdg_div {n q m j : Nat} (hj : j < q) : mdg (q + n) m j = mdg q (m / 6 ^ n) j := by
  unfold mdg
  rw [show q + n - 1 - j = n + (q - 1 - j) by omega, Nat.pow_add, Nat.div_div_eq_div_mul]
theorem mdg_lo {q pc d j : Nat} (hd : d < 6) (hj : j < q) : mdg (q + 1) (pc * 6 + d) j = mdg q pc j := by
  rw [mdg_div hj]
  congr 1
  omega
theorem mdg_hi {q pc d : Nat} (hd : d < 6) : mdg (q + 1) (pc * 6 + d) q = d := by
  unfold mdg
  rw [show q + 1 - 1 - q = 0 by omega, Nat.pow_zero, Nat.div_one]
  omega
theorem mG_ext {q nK pc d : Nat} (hd : d < 6) (h : mG q nK pc 0) (h2 : d = 5 ∨ (d < nK ∧ ∀ j, j < q → ¬ mdg q pc j = d)) : mG (q + 1) nK (pc * 6 + d) 0 := by
  intro i _ hi
  by_cases e : i = q
  · subst e
    rw [mdg_hi hd]
    rcases h2 with h3 | h3
    · exact Or.inl h3
    · exact Or.inr ⟨h3.1, fun q' h4 h5 => by omega⟩
  · rw [mdg_lo hd (by omega)]
    rcases h i (Nat.zero_le _) (by omega) with h3 | ⟨h3, h4⟩
    · exact Or.inl h3
    · by_cases e5 : mdg q pc i = 5
      · exact Or.inl e5
      refine Or.inr ⟨h3, fun q' h5 h6 => ?_⟩
      by_cases e2 : q' = q
      · subst e2
        rw [mdg_hi hd]
        rcases h2 with h7 | h7
        · exact fun z => e5 (z.symm.trans h7)
        · exact fun z => h7.2 i (by omega) z.symm
      · rw [mdg_lo hd (by omega)]
        exact h4 q' h5 (by omega)
theorem mG_of {q n nK m : Nat} (h : mG (q + n) nK m 0) : mG q nK (m / 6 ^ n) 0 := by
  intro i _ hi
  rcases h i (Nat.zero_le _) (by omega) with h3 | ⟨h3, h4⟩
  · rw [mdg_div hi] at h3
    exact Or.inl h3
  · rw [mdg_div hi] at h3
    refine Or.inr ⟨h3, fun q' h5 h6 => ?_⟩
    have := h4 q' h5 (by omega)
    rwa [mdg_div h6, mdg_div hi] at this
theorem wa_bad {β : Type} {g : Nat → β → β} {nP nK n q pc : Nat} (hq : q + n = nP) (hbad : ∀ m br, ¬ mG nP nK m 0 → g m br = br) (h : ¬ mG q nK pc 0) (br : β) : cfr g (6 ^ n) (pc * 6 ^ n) br = br := by
  refine cfr_id _ _ _ (fun m h1 h2 b => hbad m b (fun hm => h ?_))
  subst hq
  have := mG_of hm
  rwa [Nat.div_eq_of_lt_le h1 (by rw [Nat.add_mul, Nat.one_mul]; exact h2)] at this
theorem mdv_nI {d : Nat} (h : ¬ d = 5) : mdv d = nI d := if_neg h
theorem mdv_eq {d c : Nat} (hd : d < 6) (hc : c < 5) (h : mdv d = nI c) : d = c := by
  unfold mdv at h
  by_cases e : d = 5
  · rw [if_pos e] at h
    exact absurd h.symm (nI_nm1 (by omega))
  · rw [if_neg e] at h
    exact (nI_eq (by omega) (by omega)).mp h
theorem wa_codes {α β : Type} (Rl : α → β → Prop) {step : qWy → α → α} {g : Nat → β → β} {nP nK : Nat} (hK : nK ≤ 5)   (hleaf : ∀ t m br br', wWf nK nP t → (∀ j, j < nP → t.1 j = mway nP m j) → mG nP nK m 0 → Rl br br' → Rl (step t br) (g m br'))   (hbad : ∀ m br, ¬ mG nP nK m 0 → g m br = br) : ∀ (n q : Nat) (t : qWy) (pc : Nat), q + n = nP → wWf nK q t → (∀ j, j < q → t.1 j = mway q pc j) → mG q nK pc 0 → ∀ br br', Rl br br' → Rl (dfs nK step n q t br) (cfr g (6 ^ n) (pc * 6 ^ n) br')
  | 0, q, t, pc, hq, h, hw, hG, br, br', hr => by
    have hqq : q = nP := by omega
    subst hqq
    rw [Nat.pow_zero, Nat.mul_one]
    exact hleaf t pc br br' h hw hG hr
  | n + 1, q, t, pc, hq, h, hw, hG, br, br', hr => by
    have hrow : ∀ (d : Nat) (v : Int32), d < 6 → v = mdv d → ∀ j, j < q + 1 → upd t.1 q v j = mway (q + 1) (pc * 6 + d) j := by
      intro d v hd hv j hj
      unfold mway
      by_cases e : j = q
      · subst e; rw [upd_s, mdg_hi hd, hv]
      · rw [upd_o _ _ e, mdg_lo hd (by omega)]; exact hw j (by omega)
    have hin : ∀ k, k ≤ 5 → Rl (cfr (fun c br => if qtb t.2.2 (nI c) = 0 then dfs nK step n (q + 1) (wa_c q c t) br else br) (min k nK) 0 br) (cfr g (k * 6 ^ n) (pc * 6 * 6 ^ n) br') := by
      intro k
      induction k with
      | zero =>
        intro _
        rw [Nat.zero_min, Nat.zero_mul]
        exact hr
      | succ k ih =>
        intro hk
        have ih := ih (by omega)
        rw [Nat.add_mul, Nat.one_mul, cfr_app, ← Nat.add_mul]
        by_cases hkn : k < nK
        · rw [show min (k + 1) nK = k + 1 by omega, cfr_snoc, Nat.zero_add]
          rw [show min k nK = k by omega] at ih
          show Rl (if qtb t.2.2 (nI k) = 0 then _ else _) _
          by_cases hz : qtb t.2.2 (nI k) = 0
          · rw [if_pos hz]
            have hz2 := (h.2.2 k (by omega)).mp hz
            refine wa_codes Rl hK hleaf hbad n (q + 1) (wa_c q k t) (pc * 6 + k) (by omega) (wWf_c hK h hkn) (hrow k (nI k) (by omega) (mdv_nI (by omega)).symm) (mG_ext (by omega) hG (Or.inr ⟨hkn, fun j hj e => hz2 j hj ?_⟩)) _ _ ih
            rw [hw j hj]
            unfold mway
            rw [e, mdv_nI (by omega)]
          · rw [if_neg hz, wa_bad (q := q + 1) (by omega) hbad (fun hm => hz ((h.2.2 k (by omega)).mpr (fun j hj e => ?_)))]
            · exact ih
            · rw [hw j hj] at e
              have e2 := mdv_eq (mdg_lt q pc j) (by omega) e
              rcases hm j (Nat.zero_le _) (by omega) with h3 | ⟨h3, h4⟩
              · rw [mdg_lo (by omega) hj] at h3; omega
              · have := h4 q hj (by omega)
                rw [mdg_hi (by omega), mdg_lo (by omega) hj] at this
                exact this e2.symm
        · rw [show min (k + 1) nK = nK by omega, wa_bad (q := q + 1) (by omega) hbad (fun hm => ?_)]
          · rw [show min k nK = nK by omega] at ih
            exact ih
          · rcases hm q (Nat.zero_le _) (by omega) with h3 | ⟨h3, h4⟩
            · rw [mdg_hi (by omega)] at h3; omega
            · rw [mdg_hi (by omega)] at h3; omega
    have h5 := hin 5 (Nat.le_refl _)
    rw [show min 5 nK = nK by omega] at h5
    have e6 : 6 ^ (n + 1) = 5 * 6 ^ n + 6 ^ n := by rw [Nat.pow_succ]; omega
    have e7 : pc * 6 ^ (n + 1) = pc * 6 * 6 ^ n := by rw [Nat.pow_succ, Nat.mul_comm (6 ^ n) 6, Nat.mul_assoc]
    rw [e7, e6, cfr_app, ← Nat.add_mul]
    exact wa_codes Rl hK hleaf hbad n (q + 1) (wa_n q t) (pc * 6 + 5) (by omega) (wWf_n h) (hrow 5 (-1) (by omega) rfl) (mG_ext (by omega) hG (Or.inl rfl)) _ _ h5
theorem wa_all {α β : Type} (Rl : α → β → Prop) {step : qWy → α → α} {g : Nat → β → β} {nP nK : Nat} (hK : nK ≤ 5)   (hleaf : ∀ t m br br', wWf nK nP t → (∀ j, j < nP → t.1 j = mway nP m j) → mG nP nK m 0 → Rl br br' → Rl (step t br) (g m br'))   (hbad : ∀ m br, ¬ mG nP nK m 0 → g m br = br) (f : Nat → Int32) {br : α} {br' : β} (hr : Rl br br') : Rl (dfs nK step nP 0 (f, 0, 0) br) (cfr g (6 ^ nP) 0 br') := by
  have := wa_codes Rl hK hleaf hbad nP 0 (f, 0, 0) 0 (by omega) ⟨fun j hj => absurd hj (Nat.not_lt_zero _), rfl, fun c hc => ⟨fun _ j hj => absurd hj (Nat.not_lt_zero _), fun _ => qtb_0 hc⟩⟩ (fun j hj => absurd hj (Nat.not_lt_zero _)) (fun q _ hq => absurd hq (Nat.not_lt_zero _)) br br' hr
  rw [Nat.zero_mul] at this
  exact this
theorem mfm_cfr (nP nK : Nat) (Op : Nat → Prop) (sp : (Nat → Int32) → Int32) (br : Int32 × (Nat → Int32)) : ∀ m, mfm nP nK Op sp br m = cfr (mbr nP nK Op sp) m 0 br
  | 0 => rfl
  | m + 1 => by
    rw [cfr_snoc, ← mfm_cfr nP nK Op sp br m, Nat.zero_add]
    rfl
theorem mfw_cfr (nP nK : Nat) (F : (Nat → Int32) → Prop) (br : Int32 × (Nat → Int32)) : ∀ m, mfw nP nK F br m = cfr (mfs nP nK F) m 0 br
  | 0 => rfl
  | m + 1 => by
    rw [cfr_snoc, ← mfw_cfr nP nK F br m, Nat.zero_add]
    rfl
/-- the best so far, both sides -/
def wB (nP : Nat) (br br' : Int32 × (Nat → Int32)) : Prop := br.1 = br'.1 ∧ ((br.1 = -1 ∧ ∀ k, k < nP → br.2 k = -1) ∨ (-1 < br.1 ∧ ∀ k, k < nP → br.2 k = br'.2 k))
theorem wa_lets {nP nK : Nat} (hP : nP ≤ 6) (hK : nK ≤ 5) {Op Op' : Nat → Prop} (hO : ∀ m, m < 64 → (Op m ↔ Op' m)) {sp sp' : (Nat → Int32) → Int32} (hs : ∀ way, (∀ j, j < nP → qcw nK (way j)) → sp way = sp' way) (hc : ∀ f g : Nat → Int32, (∀ j, j < nP → f j = g j) → sp' f = sp' g) (f0 r0 r1 : Nat → Int32) (h0 : ∀ k, k < nP → r0 k = -1) : wB nP (qfm nP nK Op sp 5000 (qsettle nK nP 0 0 (f0, 0, 0)) (-1, r0)) (mfm nP nK Op' sp' (-1, r1) (6 ^ nP)) := by
  rw [wa_class hP hK (R := qfm nP nK Op sp) (step := qbr nP Op sp) (fun fu t br h => qfm_none h) (fun fu t t' br h => qfm_some h), mfm_cfr]
  refine wa_all (wB nP) hK (fun t m br br' ht hw hG hb => ?_) (fun m br hm => mbr_no (fun z => hm z.1)) f0 ⟨rfl, Or.inl ⟨rfl, h0⟩⟩
  have e1 : t.2.1 = qlets (mway nP m) nP := ht.2.1.trans (qlets_cong hw)
  have e2 : sp t.1 = sp' (mway nP m) := (hs t.1 ht.1).trans (hc _ _ hw)
  obtain ⟨mm, hm1, hm2⟩ := qlets_lt (f := mway nP m) nP hP
  have hmm : mm < 64 := Nat.lt_of_lt_of_le hm1 (q2p hP).2
  have e3 : Op t.2.1.toNatClampNeg ↔ Op' (qlets (mway nP m) nP).toNatClampNeg := by
    rw [e1, hm2, nIc (by omega)]
    exact hO mm hmm
  by_cases hz : br.1 < sp t.1 ∧ Op t.2.1.toNatClampNeg
  · rw [qbr_yes hz, mbr_yes ⟨hG, e3.mp hz.2, by rw [← hb.1, ← e2]; exact hz.1⟩]
    refine ⟨e2, Or.inr ⟨?_, fun k hk => ?_⟩⟩
    · rcases hb.2 with h | h
      · show -1 < sp t.1
        rw [← h.1]; exact hz.1
      · exact Int32.lt_trans h.1 hz.1
    · show va_cpy t.1 br.2 0 0 nP k = qmap (fun k _ => mway nP m k) br'.2 nP k
      rw [pk_cpy_in (Nat.zero_le _) (by omega), qmap_in hk, Nat.zero_add, Nat.sub_zero]
      exact hw k hk
  · rw [qbr_no hz, mbr_no (fun z => hz ⟨by rw [hb.1, e2]; exact z.2.2, e3.mpr z.2.1⟩)]
    exact hb
/-- who can have a post, both sides -/
def wrot (x : Nat) : Nat := x / 2 + x % 2 * 32
def wF (nP : Nat) (br br' : Int32 × (Nat → Int32)) : Prop := br.1 = br'.1 ∧ ∀ k, k < nP → ∃ x, x < 64 ∧ br.2 k = nI x ∧ br'.2 k = nI (wrot x)
theorem wa_rot {x c : Nat} (hx : x < 64) (hc : c < 5) : (x ||| 2 ^ (c + 1)) < 64 ∧ wrot (x ||| 2 ^ (c + 1)) = wrot x ||| 2 ^ c := by
  have : ∀ x, x < 64 → ∀ c, c < 5 → (x ||| 2 ^ (c + 1)) < 64 ∧ wrot (x ||| 2 ^ (c + 1)) = wrot x ||| 2 ^ c := by decide +kernel
  exact this x hx c hc
theorem wa_rot0 {x : Nat} (hx : x < 64) : (x ||| 1) < 64 ∧ wrot (x ||| 1) = wrot x ||| 32 := by
  have : ∀ x, x < 64 → (x ||| 1) < 64 ∧ wrot (x ||| 1) = wrot x ||| 32 := by decide +kernel
  exact this x hx
theorem wa_cnt {x : Nat} (hx : x < 64) : qbc (nI x) = qsum (fun j => qtb (nI (wrot x)) (nI j)) 6 := by
  have : ∀ x, x < 64 → qbc (nI x) = qsum (fun j => qtb (nI (wrot x)) (nI j)) 6 := by decide +kernel
  exact this x hx
theorem wa_shl {c : Nat} (hc : c ≤ 12) : (1 : Int32) <<< (nI c &&& 31) = nI (2 ^ c) := qbit_nI hc
theorem wa_fit {nP nK : Nat} (hP : nP ≤ 6) (hK : nK ≤ 5) {F F' : (Nat → Int32) → Prop} (hF : ∀ way, F way ↔ F' way) (hc : ∀ f g : Nat → Int32, (∀ j, j < nP → f j = g j) → (F' f ↔ F' g)) (f0 r0 r1 : Nat → Int32) (h0 : ∀ k, k < nP → r0 k = 0) (h1 : ∀ k, k < nP → r1 k = 0) : wF nP (qfw nP nK F 5000 (qsettle nK nP 0 0 (f0, 0, 0)) (0, r0)) (mfw nP nK F' (0, r1) (6 ^ nP)) := by
  rw [wa_class hP hK (R := qfw nP nK F) (step := qfs nP F) (fun fu t br h => qfw_none h) (fun fu t t' br h => qfw_some h), mfw_cfr]
  refine wa_all (wF nP) hK (fun t m br br' ht hw hG hb => ?_) (fun m br hm => mfs_no (fun z => hm z.1)) f0 ⟨rfl, fun k hk => ⟨0, by omega, h0 k hk, h1 k hk⟩⟩
  have e3 : F t.1 ↔ F' (mway nP m) := (hF t.1).trans (hc _ _ hw)
  by_cases hz : F t.1
  · rw [qfs_yes hz, mfs_yes ⟨hG, e3.mp hz⟩]
    refine ⟨by show br.1 + 1 = br'.1 + 1; rw [hb.1], fun k hk => ?_⟩
    show ∃ x, x < 64 ∧ qmap (fun p x => x ||| ((1 : Int32) <<< ((t.1 p + 1) &&& 31))) br.2 nP k = nI x ∧ qmap (fun p x => x ||| ((1 : Int32) <<< ((if mway nP m p < 0 then 5 else mway nP m p) &&& 31))) br'.2 nP k = nI (wrot x)
    rw [qmap_in hk, qmap_in hk]
    obtain ⟨x, hx, x1, x2⟩ := hb.2 k hk
    rw [x1, x2, ← hw k hk]
    rcases ht.1 k hk with h | ⟨c, hcn, h⟩
    · rw [h, if_pos (by decide)]
      refine ⟨x ||| 1, (wa_rot0 hx).1, ?_, ?_⟩
      · rw [← nI_or]; rfl
      · rw [(wa_rot0 hx).2, ← nI_or]; rfl
    · rw [h, if_neg (nI_pos (by omega)), nI_1, wa_shl (by omega), wa_shl (by omega), nI_or, nI_or]
      exact ⟨x ||| 2 ^ (c + 1), (wa_rot hx (by omega)).1, rfl, by rw [(wa_rot hx (by omega)).2]⟩
  · rw [qfs_no hz, mfs_no (fun z => hz (e3.mpr z.2))]
    exact hb
theorem qlook_cong {f g : Nat → Int32} : ∀ n, (∀ k, k < n → f k = g k) → qlook f n = qlook g n
  | 0, _ => rfl
  | n + 1, h => by
    unfold qlook
    rw [qlook_cong n (fun k hk => h k (by omega)), h n (by omega)]
