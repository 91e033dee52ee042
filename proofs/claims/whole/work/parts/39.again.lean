theorem zc_bipush_20 : (Int8.ofInt 20).toInt32 = nI 20 := by decide
/-! ===== planAgain ===== -/
theorem le00 : lN 0 ≤ lN 0 := by decide
theorem zStp_move {g gn : Nat → Int64} {q : zPs} {B : zBt} (hg : gBd g) (hB : B.2.2.2 = lN 0) (h : ¬ (zfF g gn q.2.2.2.2.2.1 q.2.2.2.2.2.2 (gN g 3) B).2.2.2 ≤ lN 0) : ∃ f t x, f < gN g 3 ∧ t < gN g 2 ∧ zfF g gn q.2.2.2.2.2.1 q.2.2.2.2.2.2 (gN g 3) B = (nI f, -1, nI t, x) ∧ zStp g gn q = some (zTake g q f none t x) := by
  have h20 := hg.2.2.1.2
  have h4 := hg.2.1.2
  have e1 : zfF g gn q.2.2.2.2.2.1 q.2.2.2.2.2.2 (gN g 3) B = zfF g gn q.2.2.2.2.2.1 q.2.2.2.2.2.2 (gN g 3) (0, 0, 0, lN 0) := by
    rcases zfF_ind g gn q.2.2.2.2.2.1 q.2.2.2.2.2.2 (b := B) (c := (0, 0, 0, lN 0)) hB (gN g 3) with ⟨h1, h2⟩ | h1
    · exact absurd (by rw [h1, hB]; exact le00) h
    · exact h1
  rcases zfF_form g gn q.2.2.2.2.2.1 q.2.2.2.2.2.2 (gN g 3) B with h1 | ⟨f, t, h1, h2, h3, h5⟩
  · exact absurd (by rw [h1, hB]; exact le00) h
  · refine ⟨f, t, _, h1, h2, h5, ?_⟩
    have eb : zBst g gn q.2.2.2.2.2.1 q.2.2.2.2.2.2 = (nI f, -1, nI t, gn (f * 4 + t)) := by
      unfold zBst
      rw [← e1, if_neg h, h5]
    rw [h5] at h
    unfold zStp
    rw [eb, if_neg h]
    show some (zTake g q (nI f).toNatClampNeg (zDo (-1)) (nI t).toNatClampNeg _) = _
    rw [nI_clamp (by omega), nI_clamp (by omega)]
    rfl
theorem zStp_no1 {g gn : Nat → Int64} {q : zPs} {B : zBt} (hB : B.2.2.2 = lN 0) (h : (zfF g gn q.2.2.2.2.2.1 q.2.2.2.2.2.2 (gN g 3) B).2.2.2 ≤ lN 0) : zBst g gn q.2.2.2.2.2.1 q.2.2.2.2.2.2 = zxF g gn q.2.2.2.2.2.1 q.2.2.2.2.2.2 (gN g 3) (0, 0, 0, lN 0) := by
  unfold zBst
  rcases zfF_ind g gn q.2.2.2.2.2.1 q.2.2.2.2.2.2 (b := B) (c := (0, 0, 0, lN 0)) hB (gN g 3) with ⟨h1, h2⟩ | h1
  · rw [h2, if_pos le00]
  · rw [← h1, if_pos h]
theorem zStp_ex {g gn : Nat → Int64} {q : zPs} {B B' : zBt} (hg : gBd g) (hB : B.2.2.2 = lN 0) (h : (zfF g gn q.2.2.2.2.2.1 q.2.2.2.2.2.2 (gN g 3) B).2.2.2 ≤ lN 0) (hB' : B'.2.2.2 = lN 0) (h' : ¬ (zxF g gn q.2.2.2.2.2.1 q.2.2.2.2.2.2 (gN g 3) B').2.2.2 ≤ lN 0) : ∃ i j t x, i < gN g 3 ∧ j < gN g 3 ∧ t < gN g 2 ∧ zxF g gn q.2.2.2.2.2.1 q.2.2.2.2.2.2 (gN g 3) B' = (nI i, nI j, nI t, x) ∧ zStp g gn q = some (zTake g q i (some j) t x) := by
  have h20 := hg.2.2.1.2
  have h4 := hg.2.1.2
  have e0 := zStp_no1 (g := g) (gn := gn) (q := q) hB h
  have e1 : zxF g gn q.2.2.2.2.2.1 q.2.2.2.2.2.2 (gN g 3) B' = zxF g gn q.2.2.2.2.2.1 q.2.2.2.2.2.2 (gN g 3) (0, 0, 0, lN 0) := by
    rcases zxF_ind g gn q.2.2.2.2.2.1 q.2.2.2.2.2.2 (b := B') (c := (0, 0, 0, lN 0)) hB' (gN g 3) with ⟨h1, h2⟩ | h1
    · exact absurd (by rw [h1, hB']; exact le00) h'
    · exact h1
  rcases zxF_form g gn q.2.2.2.2.2.1 q.2.2.2.2.2.2 (gN g 3) B' (Nat.le_refl _) with h1 | ⟨i, j, h1, h2, h3, h5, h6⟩
  · exact absurd (by rw [h1, hB']; exact le00) h'
  · have ht := hg.onL h2
    refine ⟨i, j, _, _, by omega, h2, ht, h6, ?_⟩
    have eb : zBst g gn q.2.2.2.2.2.1 q.2.2.2.2.2.2 = (nI i, nI j, nI (gN g (58 + 51 * j + 1)), zxG g gn i j) := by rw [e0, ← e1, h6]
    rw [h6] at h'
    unfold zStp
    rw [eb, if_neg h']
    show some (zTake g q (nI i).toNatClampNeg (zDo (nI j)) (nI (gN g (58 + 51 * j + 1))).toNatClampNeg _) = _
    have ed : zDo (nI j) = some j := by unfold zDo; rw [if_neg (nI_ne1 (by omega)), nI_clamp (by omega)]
    rw [nI_clamp (by omega), nI_clamp (by omega), ed]
theorem zStp_no {g gn : Nat → Int64} {q : zPs} {B B' : zBt} (hB : B.2.2.2 = lN 0) (h : (zfF g gn q.2.2.2.2.2.1 q.2.2.2.2.2.2 (gN g 3) B).2.2.2 ≤ lN 0) (hB' : B'.2.2.2 = lN 0) (h' : (zxF g gn q.2.2.2.2.2.1 q.2.2.2.2.2.2 (gN g 3) B').2.2.2 ≤ lN 0) : zStp g gn q = none := by
  have e0 := zStp_no1 (g := g) (gn := gn) (q := q) hB h
  unfold zStp
  rw [e0]
  rcases zxF_ind g gn q.2.2.2.2.2.1 q.2.2.2.2.2.2 (b := B') (c := (0, 0, 0, lN 0)) hB' (gN g 3) with ⟨h1, h2⟩ | h1
  · rw [h2, if_pos le00]
  · rw [← h1, if_pos h']
def zPQ (M : zMem) (a : Nat) (v : Option Value) (gn : Nat → Int64) (q : zPs) : zOut → zMem → Prop := fun o M' => o = .inl v ∧ zag M M' (fun c => c < a ∨ a + 7 ≤ c) ∧ rPl M' a gn q
theorem zMB_8 {M : zMem} {a : Nat} {b : zBt} : zI (zMB M a b) a 8 = b.1 := by
  unfold zMB
  rw [zI_J, zI_Ie, zw1_n (by decide), zI_Ie, zw1_n (by decide), zI_Ie, zw1_e]
theorem zMB_9 {M : zMem} {a : Nat} {b : zBt} : zI (zMB M a b) a 9 = b.2.1 := by
  unfold zMB
  rw [zI_J, zI_Ie, zw1_n (by decide), zI_Ie, zw1_e]
theorem zMB_10 {M : zMem} {a : Nat} {b : zBt} : zI (zMB M a b) a 10 = b.2.2.1 := by
  unfold zMB
  rw [zI_J, zI_Ie, zw1_e]
section
variable {l : Launch} {G : zG}
theorem w_X3_planAgain_114 (hl : l.stackTraces = false) {M : zMem} {a s : Nat} {g gn : Nat → Int64} {p : Nat → Nat} (h0 : rSt M s g p) (hd : a + 7 ≤ s ∨ s + 77 ≤ a) (x2 x3 : Int32) : ∀ (k : Nat) (M1 : zMem) (i : Nat) (q : zPs), zag M M1 (fun c => c < a ∨ a + 7 ≤ c) → rPl M1 a gn q → q.1 = i → i ≤ 20 → 20 - i < k → zS l G mX3_planAgain 2 80 0 0 114 [some (.ref a), some (.ref s), some (.int (x2)), some (.int (x3)), some (.int (nI i))] [] M1 (zPQ M a none gn (zPln g gn (20 - i) q)) := by
  intro k
  induction k with
  | zero => intros; omega
  | succ k ih =>
    intro M1 i q e hP hqn hi hk
    have h : rSt M1 s g p := h0.keep (e.mono fun c hc => by omega)
    refine s_iload (zdk hX3_planAgain_1 2 rfl) rfl ?_
    refine s_bipushv (v := nI 20) (zdk hX3_planAgain_1 3 rfl) zc_bipush_20 ?_
    refine s_icmp_ge 148 (zdk hX3_planAgain_1 4 rfl) (by decide) (fun c118 => ?_) (fun c118 => ?_)
    · obtain rfl : i = 20 := by have := nle c118 (by omega) (by omega); omega
      refine s_return (zdk hX3_planAgain_1 18 rfl) rfl ?_
      refine ⟨rfl, e, ?_⟩
      exact hP
    · have hi2 : i < 20 := nlt c118 (by omega) (by omega)
      refine s_aload_n (zdk hX3_planAgain_1 5 rfl) rfl ?_
      refine s_aload_n (zdk hX3_planAgain_1 6 rfl) rfl ?_
      have cm := c_X3_findMove (l := l) (G := G) hl hP.1 h hd
      rw [hP.2.2.2.2.2.2.1, hP.2.2.2.2.2.2.2.1, hP.2.2.2.2.2.2.2.2] at cm
      refine s_callV0 (ci := 3) [.ref s] (zdk hX3_planAgain_1 7 rfl) cw_X3_93 (hP.1.1) (by decide) rfl rfl rfl (Nat.le_of_ble_eq_true rfl) (by decide) (cm) ?_
      have hQ : rPl (zMB M1 a (zfF g gn q.2.2.2.2.2.1 q.2.2.2.2.2.2 (gN g 3) (zI M1 a 8, zI M1 a 9, zI M1 a 10, lN 0))) a gn q := hP.mb
      have hS : rSt (zMB M1 a (zfF g gn q.2.2.2.2.2.1 q.2.2.2.2.2.2 (gN g 3) (zI M1 a 8, zI M1 a 9, zI M1 a 10, lN 0))) s g p := h.keep (zag_MB.mono fun c hc => by omega)
      have eM : zag M (zMB M1 a (zfF g gn q.2.2.2.2.2.1 q.2.2.2.2.2.2 (gN g 3) (zI M1 a 8, zI M1 a 9, zI M1 a 10, lN 0))) (fun c => c < a ∨ a + 7 ≤ c) := e.trans (zag_MB.mono fun c hc => by omega)
      have hk1 : 20 - i = (20 - (i + 1)) + 1 := by omega
      by_cases cb : (zfF g gn q.2.2.2.2.2.1 q.2.2.2.2.2.2 (gN g 3) (zI M1 a 8, zI M1 a 9, zI M1 a 10, lN 0)).2.2.2 ≤ lN 0
      · rw [if_pos cb]
        refine s_if_ne 137 (zdk hX3_planAgain_1 8 rfl) (by decide) (fun c126 => ?_) (fun c126 => ?_)
        · exact absurd rfl c126
        · refine s_aload_n (zdk hX3_planAgain_1 9 rfl) rfl ?_
          refine s_aload_n (zdk hX3_planAgain_1 10 rfl) rfl ?_
          have cx := c_X3_findExchange (l := l) (G := G) hl hQ.1 hS hd
          rw [hQ.2.2.2.2.2.2.1, hQ.2.2.2.2.2.2.2.1, hQ.2.2.2.2.2.2.2.2] at cx
          refine s_callV0 (ci := 3) [.ref s] (zdk hX3_planAgain_1 11 rfl) cw_X3_97 (hQ.1.1) (by decide) rfl rfl rfl (Nat.le_of_ble_eq_true rfl) (by decide) (cx) ?_
          have hY : rPl (zMB (zMB M1 a (zfF g gn q.2.2.2.2.2.1 q.2.2.2.2.2.2 (gN g 3) (zI M1 a 8, zI M1 a 9, zI M1 a 10, lN 0))) a (zxF g gn q.2.2.2.2.2.1 q.2.2.2.2.2.2 (gN g 3) (zI (zMB M1 a (zfF g gn q.2.2.2.2.2.1 q.2.2.2.2.2.2 (gN g 3) (zI M1 a 8, zI M1 a 9, zI M1 a 10, lN 0))) a 8, zI (zMB M1 a (zfF g gn q.2.2.2.2.2.1 q.2.2.2.2.2.2 (gN g 3) (zI M1 a 8, zI M1 a 9, zI M1 a 10, lN 0))) a 9, zI (zMB M1 a (zfF g gn q.2.2.2.2.2.1 q.2.2.2.2.2.2 (gN g 3) (zI M1 a 8, zI M1 a 9, zI M1 a 10, lN 0))) a 10, lN 0))) a gn q := hQ.mb
          have hS2 : rSt (zMB (zMB M1 a (zfF g gn q.2.2.2.2.2.1 q.2.2.2.2.2.2 (gN g 3) (zI M1 a 8, zI M1 a 9, zI M1 a 10, lN 0))) a (zxF g gn q.2.2.2.2.2.1 q.2.2.2.2.2.2 (gN g 3) (zI (zMB M1 a (zfF g gn q.2.2.2.2.2.1 q.2.2.2.2.2.2 (gN g 3) (zI M1 a 8, zI M1 a 9, zI M1 a 10, lN 0))) a 8, zI (zMB M1 a (zfF g gn q.2.2.2.2.2.1 q.2.2.2.2.2.2 (gN g 3) (zI M1 a 8, zI M1 a 9, zI M1 a 10, lN 0))) a 9, zI (zMB M1 a (zfF g gn q.2.2.2.2.2.1 q.2.2.2.2.2.2 (gN g 3) (zI M1 a 8, zI M1 a 9, zI M1 a 10, lN 0))) a 10, lN 0))) s g p := hS.keep (zag_MB.mono fun c hc => by omega)
          have eX : zag M (zMB (zMB M1 a (zfF g gn q.2.2.2.2.2.1 q.2.2.2.2.2.2 (gN g 3) (zI M1 a 8, zI M1 a 9, zI M1 a 10, lN 0))) a (zxF g gn q.2.2.2.2.2.1 q.2.2.2.2.2.2 (gN g 3) (zI (zMB M1 a (zfF g gn q.2.2.2.2.2.1 q.2.2.2.2.2.2 (gN g 3) (zI M1 a 8, zI M1 a 9, zI M1 a 10, lN 0))) a 8, zI (zMB M1 a (zfF g gn q.2.2.2.2.2.1 q.2.2.2.2.2.2 (gN g 3) (zI M1 a 8, zI M1 a 9, zI M1 a 10, lN 0))) a 9, zI (zMB M1 a (zfF g gn q.2.2.2.2.2.1 q.2.2.2.2.2.2 (gN g 3) (zI M1 a 8, zI M1 a 9, zI M1 a 10, lN 0))) a 10, lN 0))) (fun c => c < a ∨ a + 7 ≤ c) := eM.trans (zag_MB.mono fun c hc => by omega)
          by_cases cc : (zxF g gn q.2.2.2.2.2.1 q.2.2.2.2.2.2 (gN g 3) (zI (zMB M1 a (zfF g gn q.2.2.2.2.2.1 q.2.2.2.2.2.2 (gN g 3) (zI M1 a 8, zI M1 a 9, zI M1 a 10, lN 0))) a 8, zI (zMB M1 a (zfF g gn q.2.2.2.2.2.1 q.2.2.2.2.2.2 (gN g 3) (zI M1 a 8, zI M1 a 9, zI M1 a 10, lN 0))) a 9, zI (zMB M1 a (zfF g gn q.2.2.2.2.2.1 q.2.2.2.2.2.2 (gN g 3) (zI M1 a 8, zI M1 a 9, zI M1 a 10, lN 0))) a 10, lN 0)).2.2.2 ≤ lN 0
          · rw [if_pos cc]
            have es : zStp g gn q = none := zStp_no rfl cb rfl cc
            have ep : zPln g gn (20 - i) q = q := by rw [hk1]; unfold zPln; rw [es]
            refine s_if_eq 148 (zdk hX3_planAgain_1 12 rfl) (by decide) (fun c134 => ?_) (fun c134 => ?_)
            · refine s_return (zdk hX3_planAgain_1 18 rfl) rfl ?_
              exact ⟨rfl, eX, by rw [ep]; exact hY⟩
            · exact absurd rfl c134
          · rw [if_neg cc]
            obtain ⟨f, j, t, x, hf0, hj, ht0, hr, es⟩ := zStp_ex h.b rfl cb rfl cc
            have ep : zPln g gn (20 - i) q = zPln g gn (20 - (i + 1)) (zTake g q f (some j) t x) := by rw [hk1]; show (match zStp g gn q with | none => q | some q9 => zPln g gn _ q9) = _; rw [es]
            rw [ep]
            have hY8 : zI (zMB (zMB M1 a (zfF g gn q.2.2.2.2.2.1 q.2.2.2.2.2.2 (gN g 3) (zI M1 a 8, zI M1 a 9, zI M1 a 10, lN 0))) a (zxF g gn q.2.2.2.2.2.1 q.2.2.2.2.2.2 (gN g 3) (zI (zMB M1 a (zfF g gn q.2.2.2.2.2.1 q.2.2.2.2.2.2 (gN g 3) (zI M1 a 8, zI M1 a 9, zI M1 a 10, lN 0))) a 8, zI (zMB M1 a (zfF g gn q.2.2.2.2.2.1 q.2.2.2.2.2.2 (gN g 3) (zI M1 a 8, zI M1 a 9, zI M1 a 10, lN 0))) a 9, zI (zMB M1 a (zfF g gn q.2.2.2.2.2.1 q.2.2.2.2.2.2 (gN g 3) (zI M1 a 8, zI M1 a 9, zI M1 a 10, lN 0))) a 10, lN 0))) a 8 = nI f := by rw [zMB_8, hr]
            have hY9 : zI (zMB (zMB M1 a (zfF g gn q.2.2.2.2.2.1 q.2.2.2.2.2.2 (gN g 3) (zI M1 a 8, zI M1 a 9, zI M1 a 10, lN 0))) a (zxF g gn q.2.2.2.2.2.1 q.2.2.2.2.2.2 (gN g 3) (zI (zMB M1 a (zfF g gn q.2.2.2.2.2.1 q.2.2.2.2.2.2 (gN g 3) (zI M1 a 8, zI M1 a 9, zI M1 a 10, lN 0))) a 8, zI (zMB M1 a (zfF g gn q.2.2.2.2.2.1 q.2.2.2.2.2.2 (gN g 3) (zI M1 a 8, zI M1 a 9, zI M1 a 10, lN 0))) a 9, zI (zMB M1 a (zfF g gn q.2.2.2.2.2.1 q.2.2.2.2.2.2 (gN g 3) (zI M1 a 8, zI M1 a 9, zI M1 a 10, lN 0))) a 10, lN 0))) a 9 = zOi (some j) := by rw [zMB_9, hr]; rfl
            have hY10 : zI (zMB (zMB M1 a (zfF g gn q.2.2.2.2.2.1 q.2.2.2.2.2.2 (gN g 3) (zI M1 a 8, zI M1 a 9, zI M1 a 10, lN 0))) a (zxF g gn q.2.2.2.2.2.1 q.2.2.2.2.2.2 (gN g 3) (zI (zMB M1 a (zfF g gn q.2.2.2.2.2.1 q.2.2.2.2.2.2 (gN g 3) (zI M1 a 8, zI M1 a 9, zI M1 a 10, lN 0))) a 8, zI (zMB M1 a (zfF g gn q.2.2.2.2.2.1 q.2.2.2.2.2.2 (gN g 3) (zI M1 a 8, zI M1 a 9, zI M1 a 10, lN 0))) a 9, zI (zMB M1 a (zfF g gn q.2.2.2.2.2.1 q.2.2.2.2.2.2 (gN g 3) (zI M1 a 8, zI M1 a 9, zI M1 a 10, lN 0))) a 10, lN 0))) a 10 = nI t := by rw [zMB_10, hr]
            have hYn : zI (zMB (zMB M1 a (zfF g gn q.2.2.2.2.2.1 q.2.2.2.2.2.2 (gN g 3) (zI M1 a 8, zI M1 a 9, zI M1 a 10, lN 0))) a (zxF g gn q.2.2.2.2.2.1 q.2.2.2.2.2.2 (gN g 3) (zI (zMB M1 a (zfF g gn q.2.2.2.2.2.1 q.2.2.2.2.2.2 (gN g 3) (zI M1 a 8, zI M1 a 9, zI M1 a 10, lN 0))) a 8, zI (zMB M1 a (zfF g gn q.2.2.2.2.2.1 q.2.2.2.2.2.2 (gN g 3) (zI M1 a 8, zI M1 a 9, zI M1 a 10, lN 0))) a 9, zI (zMB M1 a (zfF g gn q.2.2.2.2.2.1 q.2.2.2.2.2.2 (gN g 3) (zI M1 a 8, zI M1 a 9, zI M1 a 10, lN 0))) a 10, lN 0))) a 0 = nI i := hY.2.1.trans (by rw [hqn])
            have hoo : ∀ j9, some j = some j9 → j9 < gN g 3 := fun j9 q9 => by cases q9; exact hj
            have hT : rPl (zTs (zMB (zMB M1 a (zfF g gn q.2.2.2.2.2.1 q.2.2.2.2.2.2 (gN g 3) (zI M1 a 8, zI M1 a 9, zI M1 a 10, lN 0))) a (zxF g gn q.2.2.2.2.2.1 q.2.2.2.2.2.2 (gN g 3) (zI (zMB M1 a (zfF g gn q.2.2.2.2.2.1 q.2.2.2.2.2.2 (gN g 3) (zI M1 a 8, zI M1 a 9, zI M1 a 10, lN 0))) a 8, zI (zMB M1 a (zfF g gn q.2.2.2.2.2.1 q.2.2.2.2.2.2 (gN g 3) (zI M1 a 8, zI M1 a 9, zI M1 a 10, lN 0))) a 9, zI (zMB M1 a (zfF g gn q.2.2.2.2.2.1 q.2.2.2.2.2.2 (gN g 3) (zI M1 a 8, zI M1 a 9, zI M1 a 10, lN 0))) a 10, lN 0))) a i g f (some j) t) a gn (zTake g q f (some j) t x) := by
              have := hY.ts (g := g) (f0 := f) (t0 := t) (o := some j) hqn
              rw [show zJ (zMB (zMB M1 a (zfF g gn q.2.2.2.2.2.1 q.2.2.2.2.2.2 (gN g 3) (zI M1 a 8, zI M1 a 9, zI M1 a 10, lN 0))) a (zxF g gn q.2.2.2.2.2.1 q.2.2.2.2.2.2 (gN g 3) (zI (zMB M1 a (zfF g gn q.2.2.2.2.2.1 q.2.2.2.2.2.2 (gN g 3) (zI M1 a 8, zI M1 a 9, zI M1 a 10, lN 0))) a 8, zI (zMB M1 a (zfF g gn q.2.2.2.2.2.1 q.2.2.2.2.2.2 (gN g 3) (zI M1 a 8, zI M1 a 9, zI M1 a 10, lN 0))) a 9, zI (zMB M1 a (zfF g gn q.2.2.2.2.2.1 q.2.2.2.2.2.2 (gN g 3) (zI M1 a 8, zI M1 a 9, zI M1 a 10, lN 0))) a 10, lN 0))) a 11 = x by rw [zMB_J, hr]] at this
              exact this
            have he : zag M (zTs (zMB (zMB M1 a (zfF g gn q.2.2.2.2.2.1 q.2.2.2.2.2.2 (gN g 3) (zI M1 a 8, zI M1 a 9, zI M1 a 10, lN 0))) a (zxF g gn q.2.2.2.2.2.1 q.2.2.2.2.2.2 (gN g 3) (zI (zMB M1 a (zfF g gn q.2.2.2.2.2.1 q.2.2.2.2.2.2 (gN g 3) (zI M1 a 8, zI M1 a 9, zI M1 a 10, lN 0))) a 8, zI (zMB M1 a (zfF g gn q.2.2.2.2.2.1 q.2.2.2.2.2.2 (gN g 3) (zI M1 a 8, zI M1 a 9, zI M1 a 10, lN 0))) a 9, zI (zMB M1 a (zfF g gn q.2.2.2.2.2.1 q.2.2.2.2.2.2 (gN g 3) (zI M1 a 8, zI M1 a 9, zI M1 a 10, lN 0))) a 10, lN 0))) a i g f (some j) t) (fun c => c < a ∨ a + 7 ≤ c) := eX.trans zag_ts
            have hqn2 : (zTake g q f (some j) t x).1 = i + 1 := by show q.1 + 1 = _; rw [hqn]
            refine s_if_eq 148 (zdk hX3_planAgain_1 12 rfl) (by decide) (fun c134 => ?_) (fun c134 => ?_)
            · exact absurd c134 (by decide)
            · refine s_aload_n (zdk hX3_planAgain_1 13 rfl) rfl ?_
              refine s_aload_n (zdk hX3_planAgain_1 14 rfl) rfl ?_
              refine s_callV0 (ci := 3) [.ref s] (zdk hX3_planAgain_1 15 rfl) cw_X3_100 (hY.1.1) (by decide) rfl rfl rfl (Nat.le_of_ble_eq_true rfl) (by decide) (c_X3_takeStep hl hY.1 hS2 hd hYn hi2 hY8 hY9 hY10 hf0 ht0 hoo) ?_
              refine s_iinc (r := nI (i + 1)) (zdk hX3_planAgain_1 16 rfl) (Nat.le_of_ble_eq_true rfl) rfl (nI_1 i) ?_
              refine s_ls (ls' := [some (.ref a), some (.ref s), some (.int (x2)), some (.int (x3)), some (.int (nI (i + 1)))]) rfl ?_
              refine s_goto 114 (zdk hX3_planAgain_1 17 rfl) (by decide) ?_
              exact ih _ (i + 1) _ he hT hqn2 (by omega) (by omega)
      · rw [if_neg cb]
        obtain ⟨f, t, x, hf0, ht0, hr, es⟩ := zStp_move h.b rfl cb
        have ep : zPln g gn (20 - i) q = zPln g gn (20 - (i + 1)) (zTake g q f none t x) := by rw [hk1]; show (match zStp g gn q with | none => q | some q9 => zPln g gn _ q9) = _; rw [es]
        rw [ep]
        have hQ8 : zI (zMB M1 a (zfF g gn q.2.2.2.2.2.1 q.2.2.2.2.2.2 (gN g 3) (zI M1 a 8, zI M1 a 9, zI M1 a 10, lN 0))) a 8 = nI f := by rw [zMB_8, hr]
        have hQ9 : zI (zMB M1 a (zfF g gn q.2.2.2.2.2.1 q.2.2.2.2.2.2 (gN g 3) (zI M1 a 8, zI M1 a 9, zI M1 a 10, lN 0))) a 9 = zOi none := by rw [zMB_9, hr]; rfl
        have hQ10 : zI (zMB M1 a (zfF g gn q.2.2.2.2.2.1 q.2.2.2.2.2.2 (gN g 3) (zI M1 a 8, zI M1 a 9, zI M1 a 10, lN 0))) a 10 = nI t := by rw [zMB_10, hr]
        have hQn : zI (zMB M1 a (zfF g gn q.2.2.2.2.2.1 q.2.2.2.2.2.2 (gN g 3) (zI M1 a 8, zI M1 a 9, zI M1 a 10, lN 0))) a 0 = nI i := hQ.2.1.trans (by rw [hqn])
        have hoo : ∀ j9, (none : Option Nat) = some j9 → j9 < gN g 3 := fun j9 q9 => by cases q9
        have hT : rPl (zTs (zMB M1 a (zfF g gn q.2.2.2.2.2.1 q.2.2.2.2.2.2 (gN g 3) (zI M1 a 8, zI M1 a 9, zI M1 a 10, lN 0))) a i g f none t) a gn (zTake g q f none t x) := by
          have := hQ.ts (g := g) (f0 := f) (t0 := t) (o := none) hqn
          rw [show zJ (zMB M1 a (zfF g gn q.2.2.2.2.2.1 q.2.2.2.2.2.2 (gN g 3) (zI M1 a 8, zI M1 a 9, zI M1 a 10, lN 0))) a 11 = x by rw [zMB_J, hr]] at this
          exact this
        have he : zag M (zTs (zMB M1 a (zfF g gn q.2.2.2.2.2.1 q.2.2.2.2.2.2 (gN g 3) (zI M1 a 8, zI M1 a 9, zI M1 a 10, lN 0))) a i g f none t) (fun c => c < a ∨ a + 7 ≤ c) := eM.trans zag_ts
        have hqn2 : (zTake g q f none t x).1 = i + 1 := by show q.1 + 1 = _; rw [hqn]
        refine s_if_ne 137 (zdk hX3_planAgain_1 8 rfl) (by decide) (fun c126 => ?_) (fun c126 => ?_)
        · refine s_aload_n (zdk hX3_planAgain_1 13 rfl) rfl ?_
          refine s_aload_n (zdk hX3_planAgain_1 14 rfl) rfl ?_
          refine s_callV0 (ci := 3) [.ref s] (zdk hX3_planAgain_1 15 rfl) cw_X3_100 (hQ.1.1) (by decide) rfl rfl rfl (Nat.le_of_ble_eq_true rfl) (by decide) (c_X3_takeStep hl hQ.1 hS hd hQn hi2 hQ8 hQ9 hQ10 hf0 ht0 hoo) ?_
          refine s_iinc (r := nI (i + 1)) (zdk hX3_planAgain_1 16 rfl) (Nat.le_of_ble_eq_true rfl) rfl (nI_1 i) ?_
          refine s_ls (ls' := [some (.ref a), some (.ref s), some (.int (x2)), some (.int (x3)), some (.int (nI (i + 1)))]) rfl ?_
          refine s_goto 114 (zdk hX3_planAgain_1 17 rfl) (by decide) ?_
          exact ih _ (i + 1) _ he hT hqn2 (by omega) (by omega)
        · exact absurd c126 (by decide)
end
