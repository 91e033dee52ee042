/-! ===== both sides' answers over one row: plans ===== -/
theorem zgr_at {r gl : Nat → Int64} {f t : Nat} : ∀ T, t < T → zgr r gl f T (f * 4 + t) = gl t
  | 0, h => by omega
  | T + 1, h => by
    show zwL (zgr r gl f T) (f * 4 + T) (gl T) _ = _
    by_cases q : t = T
    · rw [q, zwL_e]
    · rw [zwL_n (by omega)]
      exact zgr_at T (by omega)
theorem zgA_at {g r : Nat → Int64} {n f t : Nat} (h4 : gN g 2 ≤ 4) (ht : t < gN g 2) : ∀ F, f < F → zgA g n r F (f * 4 + t) = oGn g f n t
  | 0, h => by omega
  | F + 1, h => by
    show zgr (zgA g n r F) (oGn g F n) F (gN g 2) _ = _
    by_cases q : f = F
    · rw [q]; exact zgr_at _ ht
    · rw [zgr_n _ h4 (by omega)]
      exact zgA_at h4 ht F (by omega)
theorem rLayT_n {g r : Nat → Int64} {n f k : Nat} : ∀ T, T ≤ 4 → (k < 4 * f ∨ 4 * f + 4 ≤ k) → rLayT g n f r T k = r k
  | 0, _, _ => rfl
  | T + 1, hT, h => by
    show zwL (rLayT g n f r T) (4 * f + T) _ k = _
    rw [zwL_n (by omega)]
    exact rLayT_n T (by omega) h
theorem rLayT_at {g r : Nat → Int64} {n f t : Nat} : ∀ T, t < T → rLayT g n f r T (4 * f + t) = rCo g f t n
  | 0, h => by omega
  | T + 1, h => by
    show zwL (rLayT g n f r T) (4 * f + T) (rCo g f T n) _ = _
    by_cases q : t = T
    · rw [q, zwL_e]
    · rw [zwL_n (by omega)]
      exact rLayT_at T (by omega)
theorem rLay_at {g r : Nat → Int64} {n f t : Nat} (h4 : gN g 2 ≤ 4) (ht : t < gN g 2) : ∀ F, f < F → rLay g n r F (4 * f + t) = rCo g f t n
  | 0, h => by omega
  | F + 1, h => by
    show rLayT g n F (rLay g n r F) (gN g 2) _ = _
    by_cases q : f = F
    · rw [q]; exact rLayT_at _ ht
    · rw [rLayT_n _ h4 (by omega)]
      exact rLay_at h4 ht F (by omega)
theorem zmc_64 {g : Nat → Int64} {f a b : Nat} (h0 : nLe (gf g f 0) 1 999) (h1 : nLe (gt g a 4) 0 99) (h2 : nLe (gt g b 3) 0 99) : (zmc g f a b).toInt64 = (gf g f 0).toInt64 * (gt g a 4 + gt g b 3).toInt64 := by
  unfold zmc
  obtain ⟨x, ex, -, hx⟩ := h0
  obtain ⟨y, ey, -, hy⟩ := h1
  obtain ⟨z, ez, -, hz⟩ := h2
  have m : x * (y + z) ≤ 999 * 198 := Nat.mul_le_mul hx (by omega)
  rw [ex, ey, ez, nI_add, pk_mul, nI_l (by omega), nI_l (by omega), nI_l (by omega), lN_mul]
theorem oGn_r {g r : Nat → Int64} {n f t : Nat} (hb : gBd g) (hr : gRg g) (hf : f < gN g 3) (ht : t < gN g 2) (hs : sOk (gs g f) (gN g 0)) : oGn g f n t = if t = gN g (58 + 51 * f + 1) then lN 0 else rSv g (rLay g n r (gN g 3)) f (gN g (58 + 51 * f + 1)) t := by
  have h4 := hb.2.1.2
  have on := hb.onL hf
  unfold oGn rSv
  rw [rLay_at h4 on _ hf, rLay_at h4 ht _ hf]
  unfold rCo
  rw [zfsR_c hs hb.1.2.2, zmc_64 (hr.2.2 f hf).1 ((hr.2.1 _ on).2 4 (by omega) (by omega)) ((hr.2.1 _ ht).2 3 (by omega) (by omega))]
theorem pGn_ok {g r r' : Nat → Int64} {n : Nat} (hb : gBd g) (hr : gRg g) (hs : ∀ f, f < gN g 3 → sOk (gs g f) (gN g 0)) : pGn g (rLay g n r (gN g 3)) (zgA g n r' (gN g 3)) := by
  intro f hf t ht
  rw [zgA_at hb.2.1.2 ht _ hf]
  exact oGn_r hb hr hf ht (hs f hf)
theorem zbt_cg {u v : Nat → Int64} {h : Int32} : ∀ T, (∀ t, t < T → u t = v t) → zbt u h T = zbt v h T
  | 0, _ => rfl
  | T + 1, e => by
    unfold zbt
    rw [zbt_cg T (fun t ht => e t (by omega)), e T (by omega)]
theorem wish_eq {g r : Nat → Int64} {n f : Nat} (hb : gBd g) (hr : gRg g) (hf : f < gN g 3) (hs : sOk (gs g f) (gN g 0)) : zbt (rWg g (rLay g n r (gN g 3)) f) (nI (gN g (58 + 51 * f + 1))) (gN g 2) = zbt (oGn g f n) (nI (gN g (58 + 51 * f + 1))) (gN g 2) :=
  zbt_cg _ (fun t ht => (oGn_r hb hr hf ht hs).symm)
theorem oOp_iff {g : Nat → Int64} {f : Nat} : ¬ nI (gN g 4) < gf g f 3 ↔ ¬ oOp g f = 0 := by
  unfold oOp
  by_cases q : nI (gN g 4) < gf g f 3
  · rw [if_pos q]
    exact ⟨fun z => absurd q z, fun z => absurd (by decide) z⟩
  · rw [if_neg q]
    exact ⟨fun _ => by decide, fun _ => q⟩
theorem pS_ok {M : zMem} {a t : Nat} {g : Nat → Int64} {x : Int32} (hT : gN g 2 ≤ 4) : pS g (nI t) x (zQ0 M a g t x) ∨ ¬ t < gN g 2 := by
  by_cases q : t < gN g 2
  · refine Or.inl ⟨rfl, rfl, fun f hf => ?_, fun j hj => ?_⟩
    · show _ ↔ ¬ zcn (oOp g) (zI M (a + 5)) (gN g 3) f = 0
      rw [show zcn (oOp g) (zI M (a + 5)) (gN g 3) f = oOp g f from if_pos hf]
      exact oOp_iff
    · show pFe g (nI t) x j = zSp g (zI M (a + 6)) t x j
      unfold pFe zSp
      have e : ∀ j, j < gN g 2 → zcn (oSp g) (zI M (a + 6)) (gN g 2) j = oSp g j := fun j hj => if_pos hj
      by_cases z : j = t
      · rw [z, zw1_e, if_pos rfl, e t q]
      · rw [zw1_n z, if_neg (fun y => z ((nI_eq (by omega) (by omega)).mp y)), e j hj, nI_a0]
  · exact Or.inr q
theorem pS_0 {M : zMem} {a : Nat} {g : Nat → Int64} (hT : gN g 2 ≤ 4) (h0 : 0 < gN g 2) : pS g (-1) (nI 0) (zQ0 M a g 0 (nI 0)) := by
  rcases pS_ok (M := M) (a := a) (t := 0) (g := g) (x := nI 0) hT with h | h
  · refine ⟨h.1, h.2.1, h.2.2.1, fun j hj => ?_⟩
    rw [← h.2.2.2 j hj]
    unfold pFe
    rw [if_neg (nI_ne1 (by omega))]
    split <;> rfl
  · exact absurd h0 h
/-- what a row's invariant says of its seasons and uses -/
theorem gInv.s {g : Nat → Int64} (h : gInv g) (f : Nat) (hf : f < gN g 3) : sOk (gs g f) (gN g 0) := (h.2.2.2.2.1.2.2 f hf).2.2.2.2.1
theorem gInv.u {g : Nat → Int64} (h : gInv g) (f : Nat) (hf : f < gN g 3) : uOk (gu g f) (gN g (58 + 51 * f + 4)) := (h.2.2.2.2.1.2.2 f hf).2.2.2.2.2
theorem gInv.k {g : Nat → Int64} (h : gInv g) (f : Nat) (hf : f < gN g 3) : gN g (58 + 51 * f + 4) ≤ gN g 4 := (h.2.2.2.2.1.2.2 f hf).2.2.2.1
