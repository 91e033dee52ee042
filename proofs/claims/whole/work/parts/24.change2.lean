/-! ===== more changes of rows ===== -/
theorem zpk_sh {g h : Nat → Int64} {b c : Nat} : ∀ n, (∀ j, j < n → g (b + j) = h (c + j)) → zpk g b n = zpk h c n
  | 0, _ => rfl
  | n + 1, e => by
    unfold zpk
    rw [zpk_sh n (fun j hj => e j (by omega)), e n (by omega), show its g (b + n) = its h (c + n) from congrArg Int64.toInt32 (e n (by omega))]
theorem oRe_its1 {g : Nat → Int64} {f n : Nat} (hc : 0 < gN g 0 ∧ gN g 0 ≤ 12) (i : Nat) : its (oRe g f n i) 1 = its g 1 := its_eq (oRe_n (by omega) hc i)
theorem zrl_re {g : Nat → Int64} {f n : Nat} {u v : Nat → Int32} (hc : 0 < gN g 0 ∧ gN g 0 ≤ 12) (hv : ∀ j, j < n → v j = gu g f j) : ∀ i, i ≤ n → ∀ j, j < 12 → zrl u v (gN g 4 - n) (gN g 0) (its g 1) i j = gs (oRe g f n i) f j
  | 0, _, j, hj => by
    have e : gs (oRe g f n 0) f j = (-1) := (congrArg Int64.toInt32 (if_pos (by omega))).trans (i64 _)
    rw [e]
    exact if_pos hj
  | i + 1, hi, j, hj => by
    have hm := Nat.mod_lt (gN g 4 - n + i) hc.1
    have h0 := zrl_re (u := u) hc hv i (by omega)
    unfold zrl oRe oLearn
    by_cases q : j = (gN g 4 - n + i) % gN g 0
    · rw [q, zw1_e]
      refine Eq.trans ?_ (its_e.trans (i64 _)).symm
      rw [h0 _ (by omega), hv i (by omega), oRe_its1 hc]
    · rw [zw1_n q, h0 j hj]
      exact (its_n (by omega)).symm
theorem rFi.re {M : zMem} {a f n : Nat} {g : Nat → Int64} (h : rFi M a g f) (hn : gN g (58 + 51 * f + 4) = n) (hk : n ≤ 24) (hc : 0 < gN g 0 ∧ gN g 0 ≤ 12) : rFi (zsA M (a + 2) (zrl (zI M (a + 2)) (zI M (a + 1)) (gN g 4 - n) (gN g 0) (its g 1) n)) a (oRe g f n n) f := by
  obtain ⟨a1, a2, a3, a4, a5, a6, a7, a8, a9, a10⟩ := h
  rw [hn] at a10
  have h0 := zrl_re (u := zI M (a + 2)) hc a10 n (Nat.le_refl n)
  generalize zrl (zI M (a + 2)) (zI M (a + 1)) (gN g 4 - n) (gN g 0) (its g 1) n = z at h0 ⊢
  have e0 : zI (zsA M (a + 2) z) a = zI M a := zI_An _ _ (by omega)
  have e1 : zI (zsA M (a + 2) z) (a + 1) = zI M (a + 1) := zI_An _ _ (by omega)
  have en : ∀ k, k < 14 ∨ 26 ≤ k → oRe g f n n (58 + 51 * f + k) = g (58 + 51 * f + k) := fun k hk => oRe_n (by omega) hc n
  unfold rFi
  rw [e0, e1, zI_A, zJ_A]
  refine ⟨a1.trans (zpk_eq 8 fun j hj => ?_), a2.trans (its_eq (en 0 (by omega))).symm, a3.trans (its_eq (en 1 (by omega))).symm, a4.trans (its_eq (en 2 (by omega))).symm, a5.trans (its_eq (en 3 (by omega))).symm, a6.trans (its_eq (en 5 (by omega))).symm, a7.trans (en 50 (by omega)).symm, a8.trans (its_eq (en 4 (by omega))).symm, h0, fun j hj => ?_⟩
  · have := en (6 + j) (by omega)
    rw [← Nat.add_assoc] at this
    exact this.symm
  · rw [gN_eq (en 4 (by omega)), hn] at hj
    rw [a10 j hj]
    have := its_eq (en (26 + j) (by omega))
    rw [← Nat.add_assoc] at this
    exact this.symm
/-- a file that begins -/
def oStart (g : Nat → Int64) (f : Nat) (w : Nat → Int64) (sz home un : Int32) : Nat → Int64 := fun k => if 58 + 51 * f ≤ k ∧ k < 58 + 51 * f + 51 then (if k = 58 + 51 * f + 0 then sz.toInt64 else if k = 58 + 51 * f + 1 then home.toInt64 else if k = 58 + 51 * f + 3 then un.toInt64 else if 58 + 51 * f + 6 ≤ k ∧ k < 58 + 51 * f + 14 then w (k - (58 + 51 * f + 6)) else if 58 + 51 * f + 14 ≤ k ∧ k < 58 + 51 * f + 26 then (-1 : Int32).toInt64 else 0) else g k
theorem oStart_n {g : Nat → Int64} {f k : Nat} {w : Nat → Int64} {sz home un : Int32} (h : k < 58 + 51 * f ∨ 58 + 51 * f + 51 ≤ k) : oStart g f w sz home un k = g k := if_neg (by omega)
theorem oStart_0 {g : Nat → Int64} {f : Nat} {w : Nat → Int64} {sz home un : Int32} : its (oStart g f w sz home un) (58 + 51 * f + 0) = sz := by unfold its oStart; rw [if_pos (by omega), if_pos rfl, i64]
theorem oStart_1 {g : Nat → Int64} {f : Nat} {w : Nat → Int64} {sz home un : Int32} : its (oStart g f w sz home un) (58 + 51 * f + 1) = home := by unfold its oStart; rw [if_pos (by omega), if_neg (by omega), if_pos rfl, i64]
theorem oStart_3 {g : Nat → Int64} {f : Nat} {w : Nat → Int64} {sz home un : Int32} : its (oStart g f w sz home un) (58 + 51 * f + 3) = un := by unfold its oStart; rw [if_pos (by omega), if_neg (by omega), if_neg (by omega), if_pos rfl, i64]
theorem oStart_z {g : Nat → Int64} {f k : Nat} {w : Nat → Int64} {sz home un : Int32} (h : k = 2 ∨ k = 4 ∨ k = 5 ∨ (26 ≤ k ∧ k < 51)) : oStart g f w sz home un (58 + 51 * f + k) = 0 := by unfold oStart; rw [if_pos (by omega), if_neg (by omega), if_neg (by omega), if_neg (by omega), if_neg (by omega), if_neg (by omega)]
theorem oStart_s {g : Nat → Int64} {f k : Nat} {w : Nat → Int64} {sz home un : Int32} (h : 14 ≤ k ∧ k < 26) : its (oStart g f w sz home un) (58 + 51 * f + k) = (-1) := by unfold its oStart; rw [if_pos (by omega), if_neg (by omega), if_neg (by omega), if_neg (by omega), if_neg (by omega), if_pos (by omega), i64]
theorem oStart_w {g : Nat → Int64} {f j : Nat} {w : Nat → Int64} {sz home un : Int32} (h : j < 8) : oStart g f w sz home un (58 + 51 * f + 6 + j) = w (0 + j) := by unfold oStart; rw [if_pos (by omega), if_neg (by omega), if_neg (by omega), if_neg (by omega), if_pos (by omega)]; congr 1; omega
theorem its0 {g : Nat → Int64} {k : Nat} (h : g k = 0) : its g k = nI 0 := by unfold its; rw [h]; decide
theorem rFi.start {M : zMem} {a f : Nat} {g w : Nat → Int64} {nm : Int64} {sz home un : Int32} (hw : zpk w 0 8 = nm) : rFi (zM_start M a nm sz home un) a (oStart g f w sz home un) f := by
  have e0 : zI (zM_start M a nm sz home un) a = zw1 (zw1 (zw1 (zw1 (zw1 (zw1 (zI M a) 1 sz) 2 home) 3 (nI 0)) 4 un) 5 (nI 0)) 7 (nI 0) := by
    unfold zM_start
    rw [zI_An _ _ (show a ≠ a + 2 by omega), zI_Ie, zI_J, zI_Ie, zI_Ie, zI_Ie, zI_Ie, zI_Ie, zI_J]
  have e2 : zI (zM_start M a nm sz home un) (a + 2) = zuk (zI M (a + 2)) 12 := by
    unfold zM_start
    rw [zI_A]
    simp only [zI_J, zI_In (show a + 2 ≠ a by omega)]
  have ej : zJ (zM_start M a nm sz home un) a = zwL (zwL (zJ M a) 0 nm) 6 (lN 0) := by
    unfold zM_start
    simp only [zJ_A, zJ_I, zJ_Jw]
  have ec : gN (oStart g f w sz home un) (58 + 51 * f + 4) = 0 := gN_of (its0 (oStart_z (by omega))) (by omega)
  refine ⟨?_, ?_, ?_, ?_, ?_, ?_, ?_, ?_, fun j hj => ?_, fun j hj => ?_⟩
  · rw [ej, zwL_n (by decide), zwL_e, ← hw]
    exact (zpk_sh 8 fun j hj => oStart_w hj).symm
  · rw [e0]; exact oStart_0.symm
  · rw [e0]; exact oStart_1.symm
  · rw [e0]; exact (its0 (oStart_z (k := 2) (by omega))).symm
  · rw [e0]; exact oStart_3.symm
  · rw [e0]; exact (its0 (oStart_z (k := 5) (by omega))).symm
  · rw [ej, zwL_e]; exact (oStart_z (k := 50) (by omega)).symm
  · rw [e0]; exact (its0 (oStart_z (k := 4) (by omega))).symm
  · rw [e2]
    have := oStart_s (g := g) (f := f) (w := w) (sz := sz) (home := home) (un := un) (k := 14 + j) (by omega)
    rw [← Nat.add_assoc] at this
    exact (if_pos hj).trans this.symm
  · rw [ec] at hj
    exact absurd hj (by omega)
theorem zag_start {M : zMem} {a : Nat} {nm : Int64} {sz home un : Int32} : zag M (zM_start M a nm sz home un) (fun b => b < a ∨ a + 3 ≤ b) := by
  refine ⟨rfl, fun b hb => ⟨?_, ?_, rfl⟩⟩
  · unfold zM_start
    rw [zI_An _ _ (show b ≠ a + 2 by omega)]
    simp only [zI_J, zI_In (show b ≠ a by omega)]
  · unfold zM_start
    simp only [zJ_A, zJ_I, zJ_Jn (show b ≠ a by omega)]
/-- a file's row as another -/
theorem rFi.copy {M : zMem} {a b f : Nat} {g g' : Nat → Int64} (h : rFi M b g f) (hk : gN g (58 + 51 * f + 4) ≤ 24) (eg : ∀ k, k < 51 → g' (58 + 51 * f + k) = g (58 + 51 * f + k)) : rFi (zM_copy M a b) a g' f := by
  obtain ⟨a1, a2, a3, a4, a5, a6, a7, a8, a9, a10⟩ := h
  have e0 : zI (zM_copy M a b) a = zw1 (zw1 (zw1 (zw1 (zw1 (zw1 (zI M a) 1 (zI M b 1)) 2 (zI M b 2)) 3 (zI M b 3)) 4 (zI M b 4)) 5 (zI M b 5)) 7 (zI M b 7) := by
    unfold zM_copy
    rw [zI_An _ _ (show a ≠ a + 2 by omega), zI_An _ _ (show a ≠ a + 1 by omega), zI_Ie, zI_J, zI_Ie, zI_Ie, zI_Ie, zI_Ie, zI_Ie, zI_J]
  have e2 : zI (zM_copy M a b) (a + 2) = va_cpy (zI M (b + 2)) (zI M (a + 2)) 0 0 12 := by
    unfold zM_copy
    rw [zI_A]
  have e1 : zI (zM_copy M a b) (a + 1) = va_cpy (zI M (b + 1)) (zI M (a + 1)) 0 0 24 := by
    unfold zM_copy
    rw [zI_An _ _ (show a + 1 ≠ a + 2 by omega), zI_A]
  have ej : zJ (zM_copy M a b) a = zwL (zwL (zJ M a) 0 (zJ M b 0)) 6 (zJ M b 6) := by
    unfold zM_copy
    simp only [zJ_A, zJ_I, zJ_Jw]
  have ei := fun k hk => its_eq (eg k hk)
  refine ⟨?_, ?_, ?_, ?_, ?_, ?_, ?_, ?_, fun j hj => ?_, fun j hj => ?_⟩
  · rw [ej, zwL_n (by decide), zwL_e, a1]
    refine zpk_eq 8 fun j hj => ?_
    have := eg (6 + j) (by omega)
    rw [← Nat.add_assoc] at this
    exact this.symm
  · rw [e0]; exact a2.trans (ei 0 (by omega)).symm
  · rw [e0]; exact a3.trans (ei 1 (by omega)).symm
  · rw [e0]; exact a4.trans (ei 2 (by omega)).symm
  · rw [e0]; exact a5.trans (ei 3 (by omega)).symm
  · rw [e0]; exact a6.trans (ei 5 (by omega)).symm
  · rw [ej, zwL_e]; exact a7.trans (eg 50 (by omega)).symm
  · rw [e0]; exact a8.trans (ei 4 (by omega)).symm
  · rw [e2]
    have q : va_cpy (zI M (b + 2)) (zI M (a + 2)) 0 0 12 j = zI M (b + 2) (0 + (j - 0)) := if_pos (by omega)
    rw [q, show 0 + (j - 0) = j by omega, a9 j hj]
    have := ei (14 + j) (by omega)
    rw [← Nat.add_assoc] at this
    exact this.symm
  · rw [gN_eq (eg 4 (by omega))] at hj
    rw [e1]
    have q : va_cpy (zI M (b + 1)) (zI M (a + 1)) 0 0 24 j = zI M (b + 1) (0 + (j - 0)) := if_pos (by omega)
    rw [q, show 0 + (j - 0) = j by omega, a10 j hj]
    have := ei (26 + j) (by omega)
    rw [← Nat.add_assoc] at this
    exact this.symm
theorem zag_copy {M : zMem} {a b : Nat} : zag M (zM_copy M a b) (fun c => c < a ∨ a + 3 ≤ c) := by
  refine ⟨rfl, fun c hc => ⟨?_, ?_, rfl⟩⟩
  · unfold zM_copy
    rw [zI_An _ _ (show c ≠ a + 2 by omega), zI_An _ _ (show c ≠ a + 1 by omega)]
    simp only [zI_J, zI_In (show c ≠ a by omega)]
  · unfold zM_copy
    simp only [zJ_A, zJ_I, zJ_Jn (show c ≠ a by omega)]
theorem zag_keep1 {M : zMem} {a n : Nat} : zag M (zM_keep M a n) (fun c => c < a ∨ a + 3 ≤ c) := by
  refine ⟨rfl, fun c hc => ⟨?_, rfl, rfl⟩⟩
  unfold zM_keep
  rw [zI_In (show c ≠ a by omega), zI_In (show c ≠ a by omega), zI_In (show c ≠ a + 1 by omega)]
theorem zag_keep24 {M : zMem} {a : Nat} : zag M (zM_keep (zsI (zsA M (a + 1) (va_cpy (zI M (a + 1)) (zI M (a + 1)) 1 0 23)) a 7 (nI 23)) a 23) (fun c => c < a ∨ a + 3 ≤ c) := by
  refine zag.trans ?_ zag_keep1
  exact ((zag_A _ _ _).mono (fun c hc => by omega)).trans ((zag_I _ _ _ _).mono (fun c hc => by omega))
/-! tiers -/
theorem rTi.copy {M : zMem} {a b t : Nat} {g g' : Nat → Int64} (h : rTi M b g t) (hab : b + 3 ≤ a ∨ a + 3 ≤ b) (eg : ∀ k, k < 13 → g' (6 + 13 * t + k) = g (6 + 13 * t + k)) (ep : ∀ k, k < 3 → g' (1378 + 3 * t + k) = g (1378 + 3 * t + k)) : rTi (zM_tcopy M a b) a g' t := by
  obtain ⟨a1, a2, a3⟩ := h
  refine ⟨?_, fun k hk => ?_, fun k hk => ?_⟩
  · unfold zM_tcopy
    rw [zJ_Ln (show a ≠ a + 2 by omega), zJ_A, zJ_Jw, zwL_e, a1]
    refine zpk_eq 8 fun j hj => ?_
    have := eg (5 + j) (by omega)
    rw [← Nat.add_assoc] at this
    exact this.symm
  · unfold zM_tcopy
    rw [zI_L, zI_A]
    exact (if_pos hk).trans ((a2 k hk).trans (its_eq (eg k (by omega))).symm)
  · unfold zM_tcopy
    rw [zJ_Le]
    exact (if_pos hk).trans ((a3 k hk).trans (ep k hk).symm)
theorem zag_tcopy {M : zMem} {a b : Nat} : zag M (zM_tcopy M a b) (fun c => c < a ∨ a + 3 ≤ c) := by
  refine ⟨rfl, fun c hc => ⟨?_, ?_, rfl⟩⟩
  · unfold zM_tcopy
    rw [zI_L, zI_An _ _ (show c ≠ a + 1 by omega), zI_J]
  · unfold zM_tcopy
    rw [zJ_Ln (show c ≠ a + 2 by omega), zJ_A, zJ_Jn (show c ≠ a by omega)]
/-- a tier that begins: its numbers as they were in the row -/
def oTier (g : Nat → Int64) (t : Nat) (w : Nat → Int64) (num : Nat → Int32) : Nat → Int64 := fun k => if 6 + 13 * t ≤ k ∧ k < 6 + 13 * t + 5 then (num (k - (6 + 13 * t))).toInt64 else if 6 + 13 * t + 5 ≤ k ∧ k < 6 + 13 * t + 13 then w (k - (6 + 13 * t + 5)) else if 1378 + 3 * t ≤ k ∧ k < 1378 + 3 * t + 3 then 0 else g k
theorem oTier_n {g : Nat → Int64} {t k : Nat} {w : Nat → Int64} {num : Nat → Int32} (h : k < 6 + 13 * t ∨ 6 + 13 * t + 13 ≤ k) (h2 : k < 1378 + 3 * t ∨ 1378 + 3 * t + 3 ≤ k) : oTier g t w num k = g k := by unfold oTier; rw [if_neg (by omega), if_neg (by omega), if_neg (by omega)]
theorem rTi.start {M : zMem} {a t : Nat} {g w : Nat → Int64} {nm : Int64} (ht : t < 4) (hw : zpk w 0 8 = nm) : rTi (zsL (zsJ M a 0 nm) (a + 2) (zcn (fun _ => lN 0) (zJ M (a + 2)) 3)) a (oTier g t w (zI M (a + 1))) t := by
  refine ⟨?_, fun k hk => ?_, fun k hk => ?_⟩
  · rw [zJ_Ln (show a ≠ a + 2 by omega), zJ_Jw, zwL_e, ← hw]
    refine (zpk_sh 8 fun j hj => ?_).symm
    unfold oTier
    rw [if_neg (by omega), if_pos (by omega)]
    congr 1
    omega
  · rw [zI_L, zI_J]
    unfold gt its oTier
    rw [if_pos (by omega), i64, show 6 + 13 * t + k - (6 + 13 * t) = k by omega]
  · rw [zJ_Le]
    unfold gp oTier
    rw [if_neg (by omega), if_neg (by omega), if_pos (by omega)]
    exact if_pos hk
theorem zag_tstart {M : zMem} {a : Nat} {nm : Int64} {z : Nat → Int64} : zag M (zsL (zsJ M a 0 nm) (a + 2) z) (fun c => c < a ∨ a + 3 ≤ c) :=
  ⟨rfl, fun c hc => ⟨rfl, by rw [zJ_Ln (show c ≠ a + 2 by omega), zJ_Jn (show c ≠ a by omega)], rfl⟩⟩
theorem rTi.num {M : zMem} {a t k : Nat} {g : Nat → Int64} {v : Int32} (h : rTi M a g t) (ht : t < 4) (hk : k < 5) : rTi (zsI M (a + 1) k v) a (zwL g (6 + 13 * t + k) v.toInt64) t := by
  obtain ⟨a1, a2, a3⟩ := h
  refine ⟨a1.trans (zpk_eq 8 fun j hj => (zwL_n (by omega)).symm), fun i hi => ?_, fun i hi => ?_⟩
  · rw [zI_Ie]
    by_cases q : i = k
    · rw [q, zw1_e]; exact (its_e.trans (i64 v)).symm
    · rw [zw1_n q, a2 i hi]; exact (its_n (by omega)).symm
  · rw [zJ_I, a3 i hi]; exact (zwL_n (j := 1378 + 3 * t + i) (by omega)).symm
theorem rTi.paid {M : zMem} {a t k : Nat} {g : Nat → Int64} {v : Int64} (h : rTi M a g t) (ht : t < 4) (hk : k < 3) : rTi (zsJ M (a + 2) k v) a (zwL g (1378 + 3 * t + k) v) t := by
  obtain ⟨a1, a2, a3⟩ := h
  refine ⟨?_, fun i hi => ?_, fun i hi => ?_⟩
  · rw [zJ_Jn (by omega)]
    exact a1.trans (zpk_eq 8 fun j hj => (zwL_n (by omega)).symm)
  · rw [zI_J, a2 i hi]; exact (its_n (by omega)).symm
  · rw [zJ_Jw]
    by_cases q : i = k
    · rw [q, zwL_e]; exact (zwL_e (g := g) (k := 1378 + 3 * t + k)).symm
    · rw [zwL_n q, a3 i hi]; exact (zwL_n (j := 1378 + 3 * t + i) (by omega)).symm
