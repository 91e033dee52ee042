/-! ===== the text, the sheet, the rest ===== -/
theorem vn_f2d {x : UInt32} (h : vf_n32 x) : vf_n64 (FP.f2d x) := by
  unfold vf_n32 at h
  rw [UInt32.le_iff_toNat_le, UInt32.toNat_and] at h
  have e1 : (0x7fffffff : UInt32).toNat = 2 ^ 31 - 1 := by decide
  have e2 : (0x7f800000 : UInt32).toNat = 2139095040 := by decide
  rw [e1, e2, Nat.and_two_pow_sub_one_eq_mod] at h
  have h1 : FP.Core.fIsNaN x = false := by
    rw [← Bool.not_eq_true, FP.Core.isNaN_bits32]
    omega
  have h2 : FP.Core.dIsNaN (FP.Core.f2d x) = false := by
    rw [FP.Core.f2d_nan]
    exact h1
  rw [FP.f2d_core (show FP.fIsNaN x = false from h1)]
  refine vn64 (r := FP.Core.f2d x) ?_
  rw [← Bool.not_eq_true, FP.Core.isNaN_bits] at h2
  omega
theorem f2d_ok {a m : Int64} : vf_n64 (FP.f2d (zmS a m)) := by
  refine vn_f2d ?_
  unfold zmS
  by_cases q : a = lN 0
  · rw [if_pos q]
    exact vn32 (r := FP.fconst0) (by decide)
  · rw [if_neg q]
    exact fv_ok q
def put1 (w : zWr) (v : Int32) : zWr := if v = 0 then w else (w.1 + 1, zw1 w.2 w.1 v)
def pb (v : Int32) : Nat → zWr → zWr
  | 0, w => w
  | k + 1, w => pb v k (put1 w (zby v k))
theorem zbd_add {v : Int32} : ∀ k n, zbd v k n = n + zbd v k 0
  | 0, n => rfl
  | k + 1, n => by
    show zbd v k (if zby v k = 0 then n else n + 1) = n + zbd v k (if zby v k = 0 then 0 else 0 + 1)
    rw [zbd_add k (if zby v k = 0 then n else n + 1), zbd_add k (if zby v k = 0 then 0 else 0 + 1)]
    split <;> omega
theorem pb_n {v : Int32} : ∀ k (w : zWr), (pb v k w).1 = w.1 + zbd v k 0
  | 0, w => rfl
  | k + 1, w => by
    show (pb v k (put1 w (zby v k))).1 = w.1 + zbd v k (if zby v k = 0 then 0 else 0 + 1)
    rw [pb_n k, zbd_add k (if zby v k = 0 then 0 else 0 + 1)]
    unfold put1
    split
    · omega
    · show w.1 + 1 + _ = _; omega
theorem tPb_pb {v : Int32} : ∀ k (w : zWr), w.1 + zbd v k 0 ≤ 600 → tPb v k w = pb v k w
  | 0, w, _ => rfl
  | k + 1, w, h => by
    have h' : w.1 + zbd v k (if zby v k = 0 then 0 else 0 + 1) ≤ 600 := h
    rw [zbd_add k (if zby v k = 0 then 0 else 0 + 1)] at h'
    have e : tPut w (zby v k) = put1 w (zby v k) := by
      unfold tPut put1
      by_cases q : zby v k = 0
      · rw [if_pos q, if_pos q]
      · rw [if_neg q, if_neg q]
        rw [if_neg q] at h'
        rw [if_pos (show w.1 < 600 by omega)]
    show tPb v k (tPut w (zby v k)) = pb v k (put1 w (zby v k))
    rw [e]
    refine tPb_pb k _ ?_
    unfold put1
    by_cases q : zby v k = 0
    · rw [if_pos q] at h' ⊢
      omega
    · rw [if_neg q] at h' ⊢
      show w.1 + 1 + _ ≤ 600
      omega
theorem pb_4 (x : Int32) (w : zWr) : pb x 4 w = put1 (put1 (put1 (put1 w (zby x 3)) (zby x 2)) (zby x 1)) (zby x 0) := rfl
theorem rAp_s (a b c d e : Int32) (w : zWr) (k : Nat) : rAp a b c d e w (k + 1) = put1 (rAp a b c d e w k) (rzb a b c d e k) := rfl
theorem rAp_pb (a b c d e : Int32) (w : zWr) : rAp a b c d e w 20 = pb e 4 (pb d 4 (pb c 4 (pb b 4 (pb a 4 w)))) := by
  have e0 : rAp a b c d e w 4 = pb a 4 (rAp a b c d e w 0) := by
    rw [pb_4, show rAp a b c d e w 4 = put1 (rAp a b c d e w 3) (rzb a b c d e 3) from rfl, show rAp a b c d e w 3 = put1 (rAp a b c d e w 2) (rzb a b c d e 2) from rfl, show rAp a b c d e w 2 = put1 (rAp a b c d e w 1) (rzb a b c d e 1) from rfl, show rAp a b c d e w 1 = put1 (rAp a b c d e w 0) (rzb a b c d e 0) from rfl, show rzb a b c d e 0 = zby a 3 from rfl, show rzb a b c d e 1 = zby a 2 from rfl, show rzb a b c d e 2 = zby a 1 from rfl, show rzb a b c d e 3 = zby a 0 from rfl]
  have e1 : rAp a b c d e w 8 = pb b 4 (rAp a b c d e w 4) := by
    rw [pb_4, show rAp a b c d e w 8 = put1 (rAp a b c d e w 7) (rzb a b c d e 7) from rfl, show rAp a b c d e w 7 = put1 (rAp a b c d e w 6) (rzb a b c d e 6) from rfl, show rAp a b c d e w 6 = put1 (rAp a b c d e w 5) (rzb a b c d e 5) from rfl, show rAp a b c d e w 5 = put1 (rAp a b c d e w 4) (rzb a b c d e 4) from rfl, show rzb a b c d e 4 = zby b 3 from rfl, show rzb a b c d e 5 = zby b 2 from rfl, show rzb a b c d e 6 = zby b 1 from rfl, show rzb a b c d e 7 = zby b 0 from rfl]
  have e2 : rAp a b c d e w 12 = pb c 4 (rAp a b c d e w 8) := by
    rw [pb_4, show rAp a b c d e w 12 = put1 (rAp a b c d e w 11) (rzb a b c d e 11) from rfl, show rAp a b c d e w 11 = put1 (rAp a b c d e w 10) (rzb a b c d e 10) from rfl, show rAp a b c d e w 10 = put1 (rAp a b c d e w 9) (rzb a b c d e 9) from rfl, show rAp a b c d e w 9 = put1 (rAp a b c d e w 8) (rzb a b c d e 8) from rfl, show rzb a b c d e 8 = zby c 3 from rfl, show rzb a b c d e 9 = zby c 2 from rfl, show rzb a b c d e 10 = zby c 1 from rfl, show rzb a b c d e 11 = zby c 0 from rfl]
  have e3 : rAp a b c d e w 16 = pb d 4 (rAp a b c d e w 12) := by
    rw [pb_4, show rAp a b c d e w 16 = put1 (rAp a b c d e w 15) (rzb a b c d e 15) from rfl, show rAp a b c d e w 15 = put1 (rAp a b c d e w 14) (rzb a b c d e 14) from rfl, show rAp a b c d e w 14 = put1 (rAp a b c d e w 13) (rzb a b c d e 13) from rfl, show rAp a b c d e w 13 = put1 (rAp a b c d e w 12) (rzb a b c d e 12) from rfl, show rzb a b c d e 12 = zby d 3 from rfl, show rzb a b c d e 13 = zby d 2 from rfl, show rzb a b c d e 14 = zby d 1 from rfl, show rzb a b c d e 15 = zby d 0 from rfl]
  have e4 : rAp a b c d e w 20 = pb e 4 (rAp a b c d e w 16) := by
    rw [pb_4, show rAp a b c d e w 20 = put1 (rAp a b c d e w 19) (rzb a b c d e 19) from rfl, show rAp a b c d e w 19 = put1 (rAp a b c d e w 18) (rzb a b c d e 18) from rfl, show rAp a b c d e w 18 = put1 (rAp a b c d e w 17) (rzb a b c d e 17) from rfl, show rAp a b c d e w 17 = put1 (rAp a b c d e w 16) (rzb a b c d e 16) from rfl, show rzb a b c d e 16 = zby e 3 from rfl, show rzb a b c d e 17 = zby e 2 from rfl, show rzb a b c d e 18 = zby e 1 from rfl, show rzb a b c d e 19 = zby e 0 from rfl]
  rw [e4, e3, e2, e1, e0]
  rfl
theorem rNb_pb (a b c d e : Int32) : rNb a b c d e 20 = zbd a 4 0 + zbd b 4 0 + zbd c 4 0 + zbd d 4 0 + zbd e 4 0 := by
  have h := rAp_n a b c d e (0, fun _ => 0) 20
  rw [rAp_pb, pb_n, pb_n, pb_n, pb_n, pb_n] at h
  have h0 : ((0, fun _ => 0) : zWr).1 = 0 := rfl
  omega
def wOk (w : zWr) : Prop := ∀ j, j < w.1 → ¬ w.2 j = -1
theorem zby_1 (v : Int32) (k : Nat) : ¬ zby v k = -1 := by
  unfold zby
  generalize v >>> (nI (8 * k) &&& 31) = x
  intro h
  have h1 : (x &&& nI 255).toBitVec = (-1 : Int32).toBitVec := congrArg Int32.toBitVec h
  have h2 : x.toBitVec &&& BitVec.ofNat 32 255 = BitVec.allOnes 32 := by
    rw [Int32.toBitVec_and] at h1
    exact h1
  have h3 := congrArg (fun q => q.getLsbD 31) h2
  simp at h3
theorem wOk_put {w : zWr} {v : Int32} (h : wOk w) (hv : ¬ v = -1) : wOk (put1 w v) := by
  unfold put1
  split
  · exact h
  · intro j hj
    have hj' : j < w.1 + 1 := hj
    show ¬ zw1 w.2 w.1 v j = -1
    unfold zw1
    by_cases q : j = w.1
    · rw [if_pos q]; exact hv
    · rw [if_neg q]; exact h j (by omega)
theorem wOk_pb {v : Int32} : ∀ k (w : zWr), wOk w → wOk (pb v k w)
  | 0, _, h => h
  | k + 1, w, h => wOk_pb k _ (wOk_put h (zby_1 v k))
theorem tPb_all {a b c d e : Int32} {n : Nat} {u : Nat → Int32} (h : n + (zbd a 4 0 + zbd b 4 0 + zbd c 4 0 + zbd d 4 0 + zbd e 4 0) ≤ 600) : tPb e 4 (tPb d 4 (tPb c 4 (tPb b 4 (tPb a 4 (n, u))))) = rAp a b c d e (n, u) 20 := by
  have p : ((n, u) : zWr).1 = n := rfl
  rw [rAp_pb, tPb_pb (v := a) 4 _ (by omega), tPb_pb (v := b) 4 _ (by rw [pb_n]; omega), tPb_pb (v := c) 4 _ (by rw [pb_n, pb_n]; omega), tPb_pb (v := d) 4 _ (by rw [pb_n, pb_n, pb_n]; omega), tPb_pb (v := e) 4 _ (by rw [pb_n, pb_n, pb_n, pb_n]; omega)]
section
variable {l : Launch} {G : zG} {M : zMem}
theorem op_append (hl : l.stackTraces = false) (hI : INV M) (a b b2 b3 b4 : Int32) : opI l G mL_append mX9_append [.int a, .int b, .int b2, .int b3, .int b4] M := by
  obtain ⟨S, c, d, n, u, w, v, e, sl, hI⟩ := hI
  have hg := hI.g
  have hf20 := hg.f20
  have ht4 := hg.t4
  obtain ⟨p, hs⟩ := hI.W 630 zst_now
  obtain ⟨ho, hc, hf, hO⟩ := hI
  have hI : IV M S c d n u w v e sl := ⟨ho, hc, hf, hO⟩
  have hn := hc.2.2.2.2.1
  have hu := hc.2.2.2.2.2.1
  have hn6 := ho.2.2.1
  by_cases hr : n + (zbd a 4 0 + zbd b 4 0 + zbd b2 4 0 + zbd b3 4 0 + zbd b4 4 0) ≤ 600
  · have h8 := c_X8_append (G := G) hl hI.x hI.F hn hn6 a b b2 b3 b4 hr
    rw [hu, tPb_all hr] at h8
    have hrn : n + rNb a b b2 b3 b4 20 ≤ 600 := by rw [rNb_pb]; exact hr
    have hW1 : (rAp a b b2 b3 b4 (n, u) 20).1 ≤ 600 := by rw [rAp_n]; exact hrn
    have hWo : wOk (rAp a b b2 b3 b4 (n, u) 20) := by
      rw [rAp_pb]
      exact wOk_pb 4 _ (wOk_pb 4 _ (wOk_pb 4 _ (wOk_pb 4 _ (wOk_pb 4 _ (fun j hj => ho.2.2.2.1 j hj)))))
    obtain ⟨W, hW⟩ : ∃ W, rAp a b b2 b3 b4 (n, u) 20 = W := ⟨_, rfl⟩
    rw [hW] at h8 hW1 hWo
    refine opI_u (r := nI W.1) (e' := e) (v' := v) (fr := 1) (lo := 40) hI (fun Q1 h hw => c_L_append hl hI.K _ _ _ _ _ h hw) h8 (fun v0 M1 q => ?_) (c' := c) (d' := d) (n' := W.1) (u' := W.2) (w' := w) (sl' := sl) ⟨ho.1, ho.2.1, hW1, hWo, ho.2.2.2.2⟩ (by decide) (fun M1 hf1 => ?_)
    · obtain ⟨q1, rfl⟩ := q
      exact ⟨q1, hc.apnd⟩
    · have := c_X9_append (G := G) (g := S 630) hl hf1.m a b b2 b3 b4 hf1.2.2.2.2.2.1 hn6 hrn
      rw [hf1.id, hf1.2.2.2.2.2.2.1, hW] at this
      refine this.imp fun v0 M2 q => ?_
      obtain ⟨q1, rfl⟩ := q
      obtain ⟨k1, k2, k3, k4, k5, k6, k7, k8⟩ := hf1
      have hf2 : RFs (zWb (zsI M1 941 6 (nI 0)) W) S c d W.1 W.2 w v e sl := ⟨k1.keep rfl rfl, k2, k3, k4, k5, rfl, rfl, k8⟩
      rw [hf2.id]
      exact ⟨⟨q1, hf2, rfl, fun b hb => ⟨(if_neg (by omega)).trans ((if_neg (by omega)).trans (if_neg (by omega))), rfl, rfl⟩⟩, rfl⟩
  · have hr' : 600 < n + (zbd a 4 0 + zbd b 4 0 + zbd b2 4 0 + zbd b3 4 0 + zbd b4 4 0) := by omega
    exact opI_x hI (fun Q1 h hw => c_L_append hl hI.K _ _ _ _ _ h hw) (c_X8_append_x hl hI.x hI.F hn hn6 a b b2 b3 b4 hr') (by decide) (by decide) (by decide) (fun hm => c_X9_append_x hl hm a b b2 b3 b4 hf.2.2.2.2.2.1 hn6 (by rw [rNb_pb]; exact hr'))
theorem op_writeTiers (hl : l.stackTraces = false) (hI : INV M) : opD l G cI mX8_writeTiers mX9_writeTiers M := by
  obtain ⟨S, c, d, n, u, w, v, e, sl, hI⟩ := hI
  have hg := hI.g
  have hf20 := hg.f20
  have ht4 := hg.t4
  obtain ⟨p, hs⟩ := hI.W 630 zst_now
  obtain ⟨ho, hc, hf, hO⟩ := hI
  have hI : IV M S c d n u w v e sl := ⟨ho, hc, hf, hO⟩
  obtain ⟨W, hW⟩ : ∃ W, zwt (S 630) (zI M 4) (gN (S 630) 2) = W := ⟨_, rfl⟩
  have h8 := c_X8_writeTiers (G := G) hl hI.x hs
  rw [hW] at h8
  have hcT := cntT_le (g := S 630) ht4 (gN (S 630) 3)
  have hq : ∀ r, wq W (rwt (S 630) (0, r) (gN (S 630) 2)) 220 := fun r => by
    rw [← hW]
    exact (wt_q hg.1 hg.2.2.1 hg.2.2.2.1 _ (Nat.le_refl _)).mono (by omega)
  refine opD_u ⟨_, rfl⟩ (r := some (.int (nI W.1))) (e' := e) (v' := W.2) (fr := 2) (lo := 52) hI (by decide) h8 (fun v0 M1 q => ?_) (c' := c) (d' := d) (n' := n) (u' := u) (w' := W.1) (sl' := sl) ⟨ho.1, ho.2.1, ho.2.2.1, ho.2.2.2.1, by have := (hq (fun _ => 0)).2.1; omega, ho.2.2.2.2.2⟩ (by decide) (fun M1 hf1 => ?_)
  · obtain ⟨q1, rfl⟩ := q
    exact ⟨Sum.inl.inj q1, hc.wr (fun _ _ => rfl)⟩
  · have := c_X9_writeTiers (G := G) hl hf1.m hg.1 (rWb_ok (u := fun _ => 0) hg.1 hg.2.2.1 hg.2.2.2.1)
    have hq1 := hq (zI M1 955)
    obtain ⟨V, hV⟩ : ∃ V, rwt (S 630) (0, zI M1 955) (gN (S 630) 2) = V := ⟨_, rfl⟩
    rw [hV] at this hq1
    rw [hf1.id] at this
    refine this.imp fun v0 M2 q => ?_
    obtain ⟨q1, rfl⟩ := q
    obtain ⟨k1, k2, k3, k4, k5, k6, k7, k8, k9, k10⟩ := hf1
    have hf2 : RFs (zWx (zsI M1 941 6 (nI 0)) V) S c d n u W.1 W.2 e sl := ⟨k1.keep rfl rfl, k2, k3, k4, k5, k6, k7, by rw [hq1.1]; rfl, fun j hj => (hq1.2.2 j hj).symm, k10⟩
    rw [hf2.id]
    exact ⟨by rw [hq1.1]; exact q1, hf2, rfl, fun b hb => ⟨(if_neg (by omega)).trans ((if_neg (by omega)).trans (if_neg (by omega))), rfl, rfl⟩⟩
theorem op_writtenByte (hl : l.stackTraces = false) (hI : INV M) (a : Int32) : opI l G mL_writtenByte mX9_writtenByte [.int a] M := by
  obtain ⟨S, c, d, n, u, w, v, e, sl, hI⟩ := hI
  have hg := hI.g
  have hf20 := hg.f20
  have ht4 := hg.t4
  obtain ⟨p, hs⟩ := hI.W 630 zst_now
  obtain ⟨ho, hc, hf, hO⟩ := hI
  have hI : IV M S c d n u w v e sl := ⟨ho, hc, hf, hO⟩
  have hw3 := hc.2.2.2.2.2.2.1
  have hw5 := ho.2.2.2.2.1
  have h8 := c_X8_writtenByte (G := G) hl hI.x hs hI.F hw3 hw5 a
  by_cases hx : inN a w
  · obtain ⟨k, rfl, k9⟩ := inN_nat hx (by omega)
    rw [nI_cl k9 (by omega), show eo (inN (nI k) w) 2 none = none by simp only [eo, if_pos hx]] at h8
    refine opI_u (r := v k) (e' := e) (v' := v) (fr := 1) (lo := 30) hI (fun Q1 h hw => c_L_writtenByte hl hI.K _ h hw) h8 (fun v0 M1 q => ?_) ho (by decide) (fun M1 hf1 => ?_)
    · obtain ⟨q1, rfl⟩ := q
      exact ⟨q1.trans (by rw [hc.2.2.2.2.2.2.2.1 k k9]), hc, zag.refl _ _⟩
    · have := c_X9_writtenByte (G := G) (g := S 630) hl hf1.m hf1.2.2.2.2.2.2.2.1 (by omega) (nI k)
      rw [hf1.id, nI_cl k9 (by omega), hf1.2.2.2.2.2.2.2.2.1 k k9] at this
      refine this.imp fun v0 M2 q => ?_
      obtain ⟨q1, rfl⟩ := q
      rw [show t1 (inN (nI k) w) 1 = 0 by simp only [t1, if_pos hx]]
      have e1 : zsL (zsI M1 941 6 (nI 0)) 942 (S 630) = zsI M1 941 6 (nI 0) := (hf1.th (t := nI 0)).id
      rw [e1]
      exact ⟨⟨q1.trans (by simp only [v1, if_pos hx]), hf1.th, zag_th⟩, zI_thr⟩
  · rw [show eo (inN a w) 2 none = some 2 by simp only [eo, if_neg hx]] at h8
    refine opI_x (r := nI 0) (fr := 1) (lo := 30) hI (fun Q1 h hw => c_L_writtenByte hl hI.K _ h hw) h8 (by decide) (by decide) (by decide) (fun hm => ?_)
    have := c_X9_writtenByte (G := G) (g := S 630) hl hm hf.2.2.2.2.2.2.2.1 (by omega) a
    rw [show t1 (inN a w) 1 = 1 by simp only [t1, if_neg hx], show v1 (inN a w) (zI M 955 a.toNatClampNeg) (nI 0) = nI 0 by simp only [v1, if_neg hx]] at this
    exact this
theorem op_commonCycle (hl : l.stackTraces = false) (hI : INV M) : opD l G cI mX8_commonCycle mX9_commonCycle M := by
  obtain ⟨S, c, d, n, u, w, v, e, sl, hI⟩ := hI
  have hg := hI.g
  have hf20 := hg.f20
  have ht4 := hg.t4
  obtain ⟨p, hs⟩ := hI.W 630 zst_now
  obtain ⟨ho, hc, hf, hO⟩ := hI
  have hI : IV M S c d n u w v e sl := ⟨ho, hc, hf, hO⟩
  have h8 := c_X8_commonCycle (G := G) hl hI.x hs
  have hown : ∀ f, f < gN (S 630) 3 → rOwn (S 630) f = vOwn (S 630) f := fun f hf => own_eq (hg.u f hf) (hg.1.2.2.2.2.2.1 f hf).2.2
  rw [zBc_m (g := S 630) 11 (fun c h2 h13 => zCf_c (by omega) _ hown (by unfold zZr; rw [if_pos (by omega)]))] at h8
  refine opD_u ⟨_, rfl⟩ (r := some (.int (rCm (S 630) 11).1)) (e' := e) (v' := v) (fr := 4) (lo := 100) hI (by decide) h8 (fun v0 M1 q => ?_) ho (by decide) (fun M1 hf1 => ?_)
  · obtain ⟨q1, rfl⟩ := q
    exact ⟨Sum.inl.inj q1, hc.cc⟩
  · have := c_X9_commonCycle (G := G) hl hf1.m hg.1
    rw [hf1.id] at this
    refine this.imp fun v0 M2 q => ?_
    obtain ⟨q1, rfl⟩ := q
    have e1 : zsL (zsI M1 941 6 (nI 0)) 942 (S 630) = zsI M1 941 6 (nI 0) := (hf1.th (t := nI 0)).id
    rw [e1]
    exact ⟨q1, hf1.th, zag_th⟩
theorem op_errorPosition (hl : l.stackTraces = false) (hI : INV M) : opD l G cI mX8_errorPosition mX9_errorPosition M := by
  obtain ⟨S, c, d, n, u, w, v, e, sl, hI⟩ := hI
  have hg := hI.g
  have hf20 := hg.f20
  have ht4 := hg.t4
  obtain ⟨p, hs⟩ := hI.W 630 zst_now
  obtain ⟨ho, hc, hf, hO⟩ := hI
  have hI : IV M S c d n u w v e sl := ⟨ho, hc, hf, hO⟩
  have h8 := c_X8_errorPosition (G := G) hl hI.x
  rw [hc.2.2.2.2.2.2.2.2.1] at h8
  refine opD_u ⟨_, rfl⟩ (r := some (.int e)) (e' := e) (v' := v) (fr := 0) (lo := 0) hI (by decide) h8 (fun v0 M1 q => ?_) ho (by decide) (fun M1 hf1 => ?_)
  · obtain ⟨q1, rfl⟩ := q
    exact ⟨Sum.inl.inj q1, hc, zag.refl _ _⟩
  · have := c_X9_errorPosition (G := G) (g := S 630) hl hf1.m
    rw [hf1.id, hf1.2.2.2.2.2.2.2.2.2] at this
    refine this.imp fun v0 M2 q => ?_
    obtain ⟨q1, rfl⟩ := q
    have e1 : zsL (zsI M1 941 6 (nI 0)) 942 (S 630) = zsI M1 941 6 (nI 0) := (hf1.th (t := nI 0)).id
    rw [e1]
    exact ⟨q1, hf1.th, zag_th⟩
theorem op_meanOff (hl : l.stackTraces = false) (hI : INV M) : opD l G cD mX8_meanOff mX9_meanOff M := by
  obtain ⟨S, c, d, n, u, w, v, e, sl, hI⟩ := hI
  have hg := hI.g
  have hf20 := hg.f20
  have ht4 := hg.t4
  obtain ⟨p, hs⟩ := hI.W 630 zst_now
  obtain ⟨ho, hc, hf, hO⟩ := hI
  have hI : IV M S c d n u w v e sl := ⟨ho, hc, hf, hO⟩
  have h8 := c_X8_meanOff (G := G) hl hI.x hs
  refine opD_u ⟨_, rfl⟩ (r := some (.double (zmO (S 630)))) (e' := e) (v' := v) (fr := 2) (lo := 60) hI (by decide) h8 (fun v0 M1 q => ?_) ho (by decide) (fun M1 hf1 => ?_)
  · obtain ⟨q1, rfl⟩ := q
    exact ⟨Sum.inl.inj q1, hc, zag.refl _ _⟩
  · have := c_X9_meanOff (G := G) hl hf1.m hg.1
    rw [hf1.id] at this
    refine this.imp fun v0 M2 q => ?_
    obtain ⟨q1, rfl⟩ := q
    have e1 : zsL (zsI M1 941 6 (nI 0)) 942 (S 630) = zsI M1 941 6 (nI 0) := (hf1.th (t := nI 0)).id
    rw [e1]
    exact ⟨q1, hf1.th, zag_th⟩
theorem op_movingShare (hl : l.stackTraces = false) (hI : INV M) : opD l G cF mX8_movingShare mX9_movingShare M := by
  obtain ⟨S, c, d, n, u, w, v, e, sl, hI⟩ := hI
  have hg := hI.g
  have hf20 := hg.f20
  have ht4 := hg.t4
  obtain ⟨p, hs⟩ := hI.W 630 zst_now
  obtain ⟨ho, hc, hf, hO⟩ := hI
  have hI : IV M S c d n u w v e sl := ⟨ho, hc, hf, hO⟩
  have h8 := c_X8_movingShare (G := G) hl hI.x hs
  refine opD_u ⟨_, rfl, f2d_ok⟩ (r := some (.float (zmS (zpa (S 630) 3 (gN (S 630) 2)) (zpa (S 630) 2 (gN (S 630) 2))))) (e' := e) (v' := v) (fr := 3) (lo := 90) hI (by decide) h8 (fun v0 M1 q => ?_) ho (by decide) (fun M1 hf1 => ?_)
  · obtain ⟨q1, rfl⟩ := q
    exact ⟨Sum.inl.inj q1, hc, zag.refl _ _⟩
  · have := c_X9_movingShare (G := G) hl hf1.m hg.1
    rw [hf1.id, rSum_all (by omega), rSum_all (by omega)] at this
    refine this.imp fun v0 M2 q => ?_
    obtain ⟨q1, rfl⟩ := q
    have e1 : zsL (zsI M1 941 6 (nI 0)) 942 (S 630) = zsI M1 941 6 (nI 0) := (hf1.th (t := nI 0)).id
    rw [e1]
    exact ⟨q1, hf1.th, zag_th⟩
end
