/-! ===== what a change of a row does to the state ===== -/
theorem zwL_n {g : Nat → Int64} {k j : Nat} {v : Int64} (h : j ≠ k) : zwL g k v j = g j := if_neg h
theorem zwL_e {g : Nat → Int64} {k : Nat} {v : Int64} : zwL g k v k = v := if_pos rfl
theorem its_n {g : Nat → Int64} {k j : Nat} {v : Int64} (h : j ≠ k) : its (zwL g k v) j = its g j := congrArg Int64.toInt32 (if_neg h)
theorem its_e {g : Nat → Int64} {k : Nat} {v : Int64} : its (zwL g k v) k = v.toInt32 := congrArg Int64.toInt32 (if_pos rfl)
theorem i64 (x : Int32) : x.toInt64.toInt32 = x := by simp
theorem gN_n {g : Nat → Int64} {k j : Nat} {v : Int64} (h : j ≠ k) : gN (zwL g k v) j = gN g j := congrArg Int32.toNatClampNeg (its_n h)
theorem gN_e {g : Nat → Int64} {k n : Nat} (h : n < 100000) : gN (zwL g k (nI n).toInt64) k = n := by unfold gN; rw [its_e, i64]; exact nI_clamp (by omega)
theorem gN_of {g : Nat → Int64} {k n : Nat} (h : its g k = nI n) (hn : n < 100000) : gN g k = n := by unfold gN; rw [h]; exact nI_clamp (by omega)
/-- of the bounds: one file's numbers change -/
theorem gBd.file {g g' : Nat → Int64} {f : Nat} (h : gBd g) (hf : f < 20) (eg : ∀ k, k < 58 + 51 * f ∨ 58 + 51 * f + 51 ≤ k → g' k = g k) (h1 : f < gN g 3 → (gf g' f 1 = nI (gN g' (58 + 51 * f + 1)) ∧ gN g' (58 + 51 * f + 1) < gN g 2) ∧ (gf g' f 4 = nI (gN g' (58 + 51 * f + 4)) ∧ gN g' (58 + 51 * f + 4) ≤ 24)) : gBd g' := by
  obtain ⟨a0, a2, a3, a4, a5, af, aw⟩ := h
  have ei := fun k hk => its_eq (eg k hk)
  have en := fun k hk => gN_eq (eg k hk)
  have c2 := en 2 (by omega)
  have c3 := en 3 (by omega)
  have c5 := en 5 (by omega)
  refine ⟨?_, ?_, ?_, ?_, ?_, ?_, ?_⟩
  · rw [ei 0 (by omega), en 0 (by omega)]; exact a0
  · rw [ei 2 (by omega), c2]; exact a2
  · rw [ei 3 (by omega), c3]; exact a3
  · rw [ei 4 (by omega), en 4 (by omega)]; exact a4
  · rw [ei 5 (by omega), c5]; exact a5
  · intro f' hf'
    rw [c3] at hf'
    rw [c2]
    by_cases q : f' = f
    · rw [q]; exact h1 (q ▸ hf')
    · unfold gf
      rw [ei (58 + 51 * f' + 1) (by omega), ei (58 + 51 * f' + 4) (by omega), en (58 + 51 * f' + 1) (by omega), en (58 + 51 * f' + 4) (by omega)]
      exact af f' hf'
  · intro w hw
    rw [c5] at hw
    rw [c2, c3]
    unfold gm
    rw [ei (1078 + 5 * w + 0) (by omega), ei (1078 + 5 * w + 1) (by omega), ei (1078 + 5 * w + 2) (by omega), en (1078 + 5 * w + 0) (by omega), en (1078 + 5 * w + 1) (by omega), en (1078 + 5 * w + 2) (by omega)]
    exact aw w hw
/-- .. a tier's -/
theorem gBd.tier {g g' : Nat → Int64} (h : gBd g) (eg : ∀ k, (k < 6 ∨ 58 ≤ k) → k < 1378 → g' k = g k) : gBd g' := by
  obtain ⟨a0, a2, a3, a4, a5, af, aw⟩ := h
  have ei := fun k hk hk2 => its_eq (eg k hk hk2)
  have en := fun k hk hk2 => gN_eq (eg k hk hk2)
  have c2 := en 2 (by omega) (by omega)
  have c3 := en 3 (by omega) (by omega)
  have c5 := en 5 (by omega) (by omega)
  refine ⟨?_, ?_, ?_, ?_, ?_, ?_, ?_⟩
  · rw [ei 0 (by omega) (by omega), en 0 (by omega) (by omega)]; exact a0
  · rw [ei 2 (by omega) (by omega), c2]; exact a2
  · rw [ei 3 (by omega) (by omega), c3]; exact a3
  · rw [ei 4 (by omega) (by omega), en 4 (by omega) (by omega)]; exact a4
  · rw [ei 5 (by omega) (by omega), c5]; exact a5
  · intro f' hf'
    rw [c3] at hf'
    rw [c2]
    unfold gf
    rw [ei (58 + 51 * f' + 1) (by omega) (by omega), ei (58 + 51 * f' + 4) (by omega) (by omega), en (58 + 51 * f' + 1) (by omega) (by omega), en (58 + 51 * f' + 4) (by omega) (by omega)]
    exact af f' hf'
  · intro w hw
    rw [c5] at hw
    rw [c2, c3]
    unfold gm
    rw [ei (1078 + 5 * w + 0) (by omega) (by omega), ei (1078 + 5 * w + 1) (by omega) (by omega), ei (1078 + 5 * w + 2) (by omega) (by omega), en (1078 + 5 * w + 0) (by omega) (by omega), en (1078 + 5 * w + 1) (by omega) (by omega), en (1078 + 5 * w + 2) (by omega) (by omega)]
    exact aw w hw
theorem rFi.n2 {M : zMem} {a f : Nat} {g : Nat → Int64} {v : Int32} (h : rFi M a g f) : rFi (zsI M a 2 v) a (zwL g (58 + 51 * f + 1) v.toInt64) f := by
  obtain ⟨a1, a2, a3, a4, a5, a6, a7, a8, a9, a10⟩ := h
  have e2 : zI (zsI M a 2 v) (a + 2) = zI M (a + 2) := zI_In (by omega)
  have e1 : zI (zsI M a 2 v) (a + 1) = zI M (a + 1) := zI_In (by omega)
  have ec : gN (zwL g (58 + 51 * f + 1) v.toInt64) (58 + 51 * f + 4) = gN g (58 + 51 * f + 4) := gN_n (by omega)
  refine ⟨a1.trans (zpk_eq 8 fun j hj => (zwL_n (by omega)).symm), (congrFun zI_Ie _).trans ((zw1_n (by decide)).trans (a2.trans (its_n (by omega)).symm)), (congrFun zI_Ie _).trans (zw1_e.trans ((its_e.trans (i64 v)).symm)), (congrFun zI_Ie _).trans ((zw1_n (by decide)).trans (a4.trans (its_n (by omega)).symm)), (congrFun zI_Ie _).trans ((zw1_n (by decide)).trans (a5.trans (its_n (by omega)).symm)), (congrFun zI_Ie _).trans ((zw1_n (by decide)).trans (a6.trans (its_n (by omega)).symm)), a7.trans (zwL_n (j := 58 + 51 * f + 50) (by omega)).symm, (congrFun zI_Ie _).trans ((zw1_n (by decide)).trans (a8.trans (its_n (by omega)).symm)), fun j hj => ?_, fun j hj => ?_⟩
  · rw [e2, a9 j hj]; exact (its_n (by omega)).symm
  · rw [ec] at hj
    rw [e1, a10 j hj]; exact (its_n (by omega)).symm
theorem rFi.n3 {M : zMem} {a f : Nat} {g : Nat → Int64} {v : Int32} (h : rFi M a g f) : rFi (zsI M a 3 v) a (zwL g (58 + 51 * f + 2) v.toInt64) f := by
  obtain ⟨a1, a2, a3, a4, a5, a6, a7, a8, a9, a10⟩ := h
  have e2 : zI (zsI M a 3 v) (a + 2) = zI M (a + 2) := zI_In (by omega)
  have e1 : zI (zsI M a 3 v) (a + 1) = zI M (a + 1) := zI_In (by omega)
  have ec : gN (zwL g (58 + 51 * f + 2) v.toInt64) (58 + 51 * f + 4) = gN g (58 + 51 * f + 4) := gN_n (by omega)
  refine ⟨a1.trans (zpk_eq 8 fun j hj => (zwL_n (by omega)).symm), (congrFun zI_Ie _).trans ((zw1_n (by decide)).trans (a2.trans (its_n (by omega)).symm)), (congrFun zI_Ie _).trans ((zw1_n (by decide)).trans (a3.trans (its_n (by omega)).symm)), (congrFun zI_Ie _).trans (zw1_e.trans ((its_e.trans (i64 v)).symm)), (congrFun zI_Ie _).trans ((zw1_n (by decide)).trans (a5.trans (its_n (by omega)).symm)), (congrFun zI_Ie _).trans ((zw1_n (by decide)).trans (a6.trans (its_n (by omega)).symm)), a7.trans (zwL_n (j := 58 + 51 * f + 50) (by omega)).symm, (congrFun zI_Ie _).trans ((zw1_n (by decide)).trans (a8.trans (its_n (by omega)).symm)), fun j hj => ?_, fun j hj => ?_⟩
  · rw [e2, a9 j hj]; exact (its_n (by omega)).symm
  · rw [ec] at hj
    rw [e1, a10 j hj]; exact (its_n (by omega)).symm
theorem rFi.n4 {M : zMem} {a f : Nat} {g : Nat → Int64} {v : Int32} (h : rFi M a g f) : rFi (zsI M a 4 v) a (zwL g (58 + 51 * f + 3) v.toInt64) f := by
  obtain ⟨a1, a2, a3, a4, a5, a6, a7, a8, a9, a10⟩ := h
  have e2 : zI (zsI M a 4 v) (a + 2) = zI M (a + 2) := zI_In (by omega)
  have e1 : zI (zsI M a 4 v) (a + 1) = zI M (a + 1) := zI_In (by omega)
  have ec : gN (zwL g (58 + 51 * f + 3) v.toInt64) (58 + 51 * f + 4) = gN g (58 + 51 * f + 4) := gN_n (by omega)
  refine ⟨a1.trans (zpk_eq 8 fun j hj => (zwL_n (by omega)).symm), (congrFun zI_Ie _).trans ((zw1_n (by decide)).trans (a2.trans (its_n (by omega)).symm)), (congrFun zI_Ie _).trans ((zw1_n (by decide)).trans (a3.trans (its_n (by omega)).symm)), (congrFun zI_Ie _).trans ((zw1_n (by decide)).trans (a4.trans (its_n (by omega)).symm)), (congrFun zI_Ie _).trans (zw1_e.trans ((its_e.trans (i64 v)).symm)), (congrFun zI_Ie _).trans ((zw1_n (by decide)).trans (a6.trans (its_n (by omega)).symm)), a7.trans (zwL_n (j := 58 + 51 * f + 50) (by omega)).symm, (congrFun zI_Ie _).trans ((zw1_n (by decide)).trans (a8.trans (its_n (by omega)).symm)), fun j hj => ?_, fun j hj => ?_⟩
  · rw [e2, a9 j hj]; exact (its_n (by omega)).symm
  · rw [ec] at hj
    rw [e1, a10 j hj]; exact (its_n (by omega)).symm
theorem zJ_Jw {M : zMem} {a k : Nat} {v : Int64} : zJ (zsJ M a k v) a = zwL (zJ M a) k v := if_pos rfl
/-! ops of one file -/
def oScore (g : Nat → Int64) (f : Nat) : Nat → Int64 := if 0 < zkn (gs g f) 12 then zwL (zwL g (58 + 51 * f + 50) (go g f + (zab (nI 16 * gf g f 2 - zfc (gs g f) (zph g 0))).toInt64)) (58 + 51 * f + 5) (gf g f 5 + nI 1).toInt64 else g
def oLearn (g : Nat → Int64) (f ph : Nat) (u : Int32) : Nat → Int64 := zwL g (58 + 51 * f + 14 + ph) (zlv (gs g f ph) u (its g 1)).toInt64
def oShift (g : Nat → Int64) (b : Nat) : Nat → Int64 := fun k => if b ≤ k ∧ k < b + 23 then (its g (k + 1)).toInt64 else g k
def oKeep1 (g : Nat → Int64) (f n : Nat) : Nat → Int64 := zwL (zwL (zwL g (58 + 51 * f + 26 + n) (gf g f 2).toInt64) (58 + 51 * f + 4) (nI (n + 1)).toInt64) (58 + 51 * f + 2) (nI 0).toInt64
def oKeep (g : Nat → Int64) (f : Nat) : Nat → Int64 := if gN g (58 + 51 * f + 4) = 24 then oKeep1 (oShift g (58 + 51 * f + 26)) f 23 else oKeep1 g f (gN g (58 + 51 * f + 4))
def oForget (g : Nat → Int64) (f : Nat) : Nat → Int64 := fun k => if 58 + 51 * f + 14 ≤ k ∧ k < 58 + 51 * f + 26 then (-1 : Int32).toInt64 else g k
def oRe (g : Nat → Int64) (f n : Nat) : Nat → Nat → Int64
  | 0 => oForget g f
  | i + 1 => oLearn (oRe g f n i) f ((gN g 4 - n + i) % gN g 0) (gu g f i)
theorem oScore_n {g : Nat → Int64} {f k : Nat} (h : k < 58 + 51 * f ∨ 58 + 51 * f + 51 ≤ k) : oScore g f k = g k := by
  unfold oScore
  split
  · rw [zwL_n (by omega), zwL_n (by omega)]
  · rfl
theorem oLearn_n {g : Nat → Int64} {f ph k : Nat} {u : Int32} (hp : ph < 12) (h : k < 58 + 51 * f ∨ 58 + 51 * f + 51 ≤ k) : oLearn g f ph u k = g k := by
  unfold oLearn
  rw [zwL_n (by omega)]
theorem oKeep1_n {g : Nat → Int64} {f n k : Nat} (hn : n < 24) (h : k < 58 + 51 * f ∨ 58 + 51 * f + 51 ≤ k) : oKeep1 g f n k = g k := by
  unfold oKeep1
  rw [zwL_n (by omega), zwL_n (by omega), zwL_n (by omega)]
theorem oKeep_n {g : Nat → Int64} {f k : Nat} (hn : gN g (58 + 51 * f + 4) ≤ 24) (h : k < 58 + 51 * f ∨ 58 + 51 * f + 51 ≤ k) : oKeep g f k = g k := by
  unfold oKeep
  split
  · rw [oKeep1_n (by omega) h]
    exact if_neg (by omega)
  · exact oKeep1_n (by omega) h
theorem oForget_n {g : Nat → Int64} {f k : Nat} (h : k < 58 + 51 * f + 14 ∨ 58 + 51 * f + 26 ≤ k) : oForget g f k = g k := if_neg (by omega)
theorem oRe_n {g : Nat → Int64} {f n k : Nat} (h : k < 58 + 51 * f + 14 ∨ 58 + 51 * f + 26 ≤ k) (hc : 0 < gN g 0 ∧ gN g 0 ≤ 12) : ∀ i, oRe g f n i k = g k
  | 0 => oForget_n h
  | i + 1 => by
    have := Nat.mod_lt (gN g 4 - n + i) hc.1
    unfold oRe oLearn
    rw [zwL_n (by omega), oRe_n h hc i]
/-- seasons and kept uses as functions: what a change of others leaves -/
theorem gs_eq {g g' : Nat → Int64} {f : Nat} (e : ∀ j, j < 12 → g' (58 + 51 * f + 14 + j) = g (58 + 51 * f + 14 + j)) : ∀ j, j < 12 → gs g' f j = gs g f j := fun j hj => its_eq (e j hj)
theorem rFi.score {M : zMem} {a f : Nat} {g : Nat → Int64} (hp : zph g 0 < 12) (hk : gN g (58 + 51 * f + 4) ≤ 24) (h : rFi M a g f) : rFi (if 0 < zkn (zI M (a + 2)) 12 then zsI (zsJ M a 6 (zJ M a 6 + (zab (nI 16 * zI M a 3 - zfc (zI M (a + 2)) (zph g 0))).toInt64)) a 5 (zI M a 5 + nI 1) else M) a (oScore g f) f := by
  obtain ⟨a1, a2, a3, a4, a5, a6, a7, a8, a9, a10⟩ := h
  unfold oScore
  rw [zkn_eq 12 a9, zfc_eq hp a9, a4, a6, a7]
  split
  · have e2 : ∀ (x : Int64) (y : Int32), zI (zsI (zsJ M a 6 x) a 5 y) (a + 2) = zI M (a + 2) := fun x y => zI_In (by omega)
    have e1 : ∀ (x : Int64) (y : Int32), zI (zsI (zsJ M a 6 x) a 5 y) (a + 1) = zI M (a + 1) := fun x y => zI_In (by omega)
    refine ⟨?_, ?_, ?_, ?_, ?_, ?_, ?_, ?_, fun j hj => ?_, fun j hj => ?_⟩
    · rw [zJ_I, zJ_Jw, zwL_n (by decide), a1]
      exact zpk_eq 8 fun j hj => ((zwL_n (by omega)).trans (zwL_n (by omega))).symm
    · rw [zI_Ie, zw1_n (by decide), zI_J, a2]; exact ((its_n (by omega)).trans (its_n (by omega))).symm
    · rw [zI_Ie, zw1_n (by decide), zI_J, a3]; exact ((its_n (by omega)).trans (its_n (by omega))).symm
    · rw [zI_Ie, zw1_n (by decide), zI_J, a4]; exact ((its_n (by omega)).trans (its_n (by omega))).symm
    · rw [zI_Ie, zw1_n (by decide), zI_J, a5]; exact ((its_n (by omega)).trans (its_n (by omega))).symm
    · rw [zI_Ie, zw1_e]; exact (its_e.trans (i64 _)).symm
    · rw [zJ_I, zJ_Jw, zwL_e]; exact ((zwL_n (j := 58 + 51 * f + 50) (by omega)).trans zwL_e).symm
    · rw [zI_Ie, zw1_n (by decide), zI_J, a8]; exact ((its_n (by omega)).trans (its_n (by omega))).symm
    · rw [e2, a9 j hj]; exact ((its_n (by omega)).trans (its_n (by omega))).symm
    · rw [gN_n (by omega), gN_n (by omega)] at hj
      rw [e1, a10 j hj]; exact ((its_n (by omega)).trans (its_n (by omega))).symm
  · exact ⟨a1, a2, a3, a4, a5, a6, a7, a8, a9, a10⟩
theorem rFi.learn {M : zMem} {a f ph : Nat} {g : Nat → Int64} {u : Int32} (hp : ph < 12) (h : rFi M a g f) : rFi (zsI M (a + 2) ph (zlv (gs g f ph) u (its g 1))) a (oLearn g f ph u) f := by
  obtain ⟨a1, a2, a3, a4, a5, a6, a7, a8, a9, a10⟩ := h
  have e0 : zI (zsI M (a + 2) ph (zlv (gs g f ph) u (its g 1))) a = zI M a := zI_In (by omega)
  have e1 : zI (zsI M (a + 2) ph (zlv (gs g f ph) u (its g 1))) (a + 1) = zI M (a + 1) := zI_In (by omega)
  unfold rFi oLearn gf
  rw [e0, e1, zI_Ie, zJ_I]
  refine ⟨a1.trans (zpk_eq 8 fun j hj => (zwL_n (by omega)).symm), a2.trans (its_n (by omega)).symm, a3.trans (its_n (by omega)).symm, a4.trans (its_n (by omega)).symm, a5.trans (its_n (by omega)).symm, a6.trans (its_n (by omega)).symm, a7.trans (zwL_n (j := 58 + 51 * f + 50) (by omega)).symm, a8.trans (its_n (by omega)).symm, fun j hj => ?_, fun j hj => ?_⟩
  · by_cases q : j = ph
    · rw [q, zw1_e]; exact (its_e.trans (i64 _)).symm
    · rw [zw1_n q, a9 j hj]; exact (its_n (by omega)).symm
  · rw [gN_n (by omega)] at hj
    rw [a10 j hj]; exact (its_n (by omega)).symm
theorem rFi.keep1 {M : zMem} {a f n : Nat} {g : Nat → Int64} (hn : n < 24) (a1 : zJ M a 0 = zpk g (58 + 51 * f + 6) 8) (a2 : zI M a 1 = gf g f 0) (a3 : zI M a 2 = gf g f 1) (a4 : zI M a 3 = gf g f 2) (a5 : zI M a 4 = gf g f 3) (a6 : zI M a 5 = gf g f 5) (a7 : zJ M a 6 = go g f) (a9 : ∀ j, j < 12 → zI M (a + 2) j = gs g f j) (a10 : ∀ j, j < n → zI M (a + 1) j = gu g f j) : rFi (zM_keep M a n) a (oKeep1 g f n) f := by
  have e0 : zI (zM_keep M a n) a = zw1 (zw1 (zI M a) 7 (nI (n + 1))) 3 (nI 0) := by
    unfold zM_keep
    rw [zI_Ie, zI_Ie, zI_In (show a ≠ a + 1 by omega)]
  have e1 : zI (zM_keep M a n) (a + 1) = zw1 (zI M (a + 1)) n (gf g f 2) := by
    unfold zM_keep
    rw [zI_In (show a + 1 ≠ a by omega), zI_In (show a + 1 ≠ a by omega), zI_Ie, a4]
  have e2 : zI (zM_keep M a n) (a + 2) = zI M (a + 2) := by
    unfold zM_keep
    rw [zI_In (show a + 2 ≠ a by omega), zI_In (show a + 2 ≠ a by omega), zI_In (show a + 2 ≠ a + 1 by omega)]
  have ec : gN (oKeep1 g f n) (58 + 51 * f + 4) = n + 1 := by
    unfold oKeep1
    rw [gN_n (by omega), gN_e (by omega)]
  have en : ∀ k, k ≠ 2 → k ≠ 4 → k ≠ 26 + n → oKeep1 g f n (58 + 51 * f + k) = g (58 + 51 * f + k) := by
    intro k h1 h2 h3
    unfold oKeep1
    rw [zwL_n (by omega), zwL_n (by omega), zwL_n (by omega)]
  refine ⟨?_, ?_, ?_, ?_, ?_, ?_, ?_, ?_, fun j hj => ?_, fun j hj => ?_⟩
  · refine a1.trans (zpk_eq 8 fun j hj => ?_)
    have := en (6 + j) (by omega) (by omega) (by omega)
    rw [← Nat.add_assoc] at this
    exact this.symm
  · rw [e0, zw1_n (by decide), zw1_n (by decide), a2]; exact (its_eq (en 0 (by omega) (by omega) (by omega))).symm
  · rw [e0, zw1_n (by decide), zw1_n (by decide), a3]; exact (its_eq (en 1 (by omega) (by omega) (by omega))).symm
  · rw [e0, zw1_e]; exact (its_e.trans (i64 _)).symm
  · rw [e0, zw1_n (by decide), zw1_n (by decide), a5]; exact (its_eq (en 3 (by omega) (by omega) (by omega))).symm
  · rw [e0, zw1_n (by decide), zw1_n (by decide), a6]; exact (its_eq (en 5 (by omega) (by omega) (by omega))).symm
  · exact a7.trans (en 50 (by omega) (by omega) (by omega)).symm
  · rw [e0, zw1_n (by decide), zw1_e]
    exact ((its_n (by omega)).trans (its_e.trans (i64 _))).symm
  · rw [e2, a9 j hj]
    have := its_eq (en (14 + j) (by omega) (by omega) (by omega))
    rw [← Nat.add_assoc] at this
    exact this.symm
  · rw [ec] at hj
    rw [e1]
    by_cases q : j = n
    · rw [q, zw1_e]
      exact ((its_n (by omega)).trans ((its_n (by omega)).trans (its_e.trans (i64 _)))).symm
    · rw [zw1_n q, a10 j (by omega)]
      have := its_eq (en (26 + j) (by omega) (by omega) (by omega))
      rw [← Nat.add_assoc] at this
      exact this.symm
theorem rFi.keepL {M : zMem} {a f : Nat} {g : Nat → Int64} (h : rFi M a g f) (hn : gN g (58 + 51 * f + 4) < 24) : rFi (zM_keep M a (gN g (58 + 51 * f + 4))) a (oKeep g f) f := by
  obtain ⟨a1, a2, a3, a4, a5, a6, a7, a8, a9, a10⟩ := h
  unfold oKeep
  rw [if_neg (by omega)]
  exact rFi.keep1 hn a1 a2 a3 a4 a5 a6 a7 a9 a10
theorem rFi.keep24 {M : zMem} {a f : Nat} {g : Nat → Int64} (h : rFi M a g f) (hn : gN g (58 + 51 * f + 4) = 24) : rFi (zM_keep (zsI (zsA M (a + 1) (va_cpy (zI M (a + 1)) (zI M (a + 1)) 1 0 23)) a 7 (nI 23)) a 23) a (oKeep g f) f := by
  obtain ⟨a1, a2, a3, a4, a5, a6, a7, a8, a9, a10⟩ := h
  unfold oKeep
  rw [if_pos hn]
  have e0 : zI (zsI (zsA M (a + 1) (va_cpy (zI M (a + 1)) (zI M (a + 1)) 1 0 23)) a 7 (nI 23)) a = zw1 (zI M a) 7 (nI 23) := by
    rw [zI_Ie, zI_An _ _ (show a ≠ a + 1 by omega)]
  have e1 : zI (zsI (zsA M (a + 1) (va_cpy (zI M (a + 1)) (zI M (a + 1)) 1 0 23)) a 7 (nI 23)) (a + 1) = va_cpy (zI M (a + 1)) (zI M (a + 1)) 1 0 23 := by
    rw [zI_In (show a + 1 ≠ a by omega), zI_A]
  have e2 : zI (zsI (zsA M (a + 1) (va_cpy (zI M (a + 1)) (zI M (a + 1)) 1 0 23)) a 7 (nI 23)) (a + 2) = zI M (a + 2) := by
    rw [zI_In (show a + 2 ≠ a by omega), zI_An _ _ (show a + 2 ≠ a + 1 by omega)]
  have en : ∀ k, k < 26 ∨ 49 ≤ k → oShift g (58 + 51 * f + 26) (58 + 51 * f + k) = g (58 + 51 * f + k) := fun k hk => if_neg (by omega)
  refine rFi.keep1 (by decide) ?_ ?_ ?_ ?_ ?_ ?_ ?_ (fun j hj => ?_) (fun j hj => ?_)
  · refine a1.trans (zpk_eq 8 fun j hj => ?_)
    have := en (6 + j) (by omega)
    rw [← Nat.add_assoc] at this
    exact this.symm
  · rw [e0, zw1_n (by decide), a2]; exact (its_eq (en 0 (by omega))).symm
  · rw [e0, zw1_n (by decide), a3]; exact (its_eq (en 1 (by omega))).symm
  · rw [e0, zw1_n (by decide), a4]; exact (its_eq (en 2 (by omega))).symm
  · rw [e0, zw1_n (by decide), a5]; exact (its_eq (en 3 (by omega))).symm
  · rw [e0, zw1_n (by decide), a6]; exact (its_eq (en 5 (by omega))).symm
  · exact a7.trans (en 50 (by omega)).symm
  · rw [e2, a9 j hj]
    have := its_eq (en (14 + j) (by omega))
    rw [← Nat.add_assoc] at this
    exact this.symm
  · rw [e1]
    have q : va_cpy (zI M (a + 1)) (zI M (a + 1)) 1 0 23 j = zI M (a + 1) (1 + (j - 0)) := if_pos (by omega)
    rw [q, a10 _ (by omega)]
    have : its (oShift g (58 + 51 * f + 26)) (58 + 51 * f + 26 + j) = its g (58 + 51 * f + 26 + j + 1) := (congrArg Int64.toInt32 (if_pos (by omega))).trans (i64 _)
    refine Eq.trans ?_ this.symm
    unfold gu
    rw [show 58 + 51 * f + 26 + (1 + (j - 0)) = 58 + 51 * f + 26 + j + 1 by omega]
