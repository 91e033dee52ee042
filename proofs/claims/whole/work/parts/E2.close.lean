/-! ===== both sides' answers over one row: a period's end ===== -/
theorem rScore_o {g : Nat → Int64} {f : Nat} (h : sOk (gs g f) (gN g 0)) (hc : gN g 0 ≤ 12) : rScore g f = oScore g f := by
  unfold rScore oScore
  rw [zkn_12 h hc, zfR_c h hc]
  by_cases q : zkn (gs g f) (gN g 0) ≤ 0
  · rw [if_pos q, if_neg (Int32.not_lt.mpr q)]
  · rw [if_neg q, if_pos (Int32.not_le.mp q)]
theorem oPay_zwL {g : Nat → Int64} {f j : Nat} {v : Int64} (hj : j < 1378) (h58 : 58 ≤ j) (h0 : j ≠ 58 + 51 * f + 0) (h1 : j ≠ 58 + 51 * f + 1) (h2 : j ≠ 58 + 51 * f + 2) (ht : gN g (58 + 51 * f + 1) < 4) : oPay (zwL g j v) f = zwL (oPay g f) j v := by
  have e1 : gN (zwL g j v) (58 + 51 * f + 1) = gN g (58 + 51 * f + 1) := gN_eq (zwL_n (Ne.symm h1))
  have k1 : oKp (zwL g j v) f = oKp g f := by
    unfold oKp
    rw [e1, show gf (zwL g j v) f 0 = gf g f 0 from its_eq (zwL_n (Ne.symm h0)), show gt (zwL g j v) (gN g (58 + 51 * f + 1)) 1 = gt g (gN g (58 + 51 * f + 1)) 1 from its_eq (zwL_n (by omega))]
  have k2 : oRd (zwL g j v) f = oRd g f := by
    unfold oRd
    rw [e1, show gf (zwL g j v) f 0 = gf g f 0 from its_eq (zwL_n (Ne.symm h0)), show gf (zwL g j v) f 2 = gf g f 2 from its_eq (zwL_n (Ne.symm h2)), show gt (zwL g j v) (gN g (58 + 51 * f + 1)) 2 = gt g (gN g (58 + 51 * f + 1)) 2 from its_eq (zwL_n (by omega))]
  unfold oPay
  rw [e1, k1, k2, oPays_zwL (by omega), oPays_zwL (by omega)]
theorem score_pay {g : Nat → Int64} {f : Nat} (hf : f < 20) (ht : gN g (58 + 51 * f + 1) < 4) (c : 0 < gN g 0 ∧ gN g 0 ≤ 12) : oPay (oScore g f) f = oScore (oPay g f) f := by
  have e1 : ∀ j, j < 12 → gs (oPay g f) f j = gs g f j := fun j hj => its_eq (oPay_n (by omega))
  have e2 : zkn (gs (oPay g f) f) 12 = zkn (gs g f) 12 := zkn_eq 12 e1
  have e0 : ∀ k, k < 1378 → gN (oPay g f) k = gN g k := fun k hk => gN_eq (oPay_n hk)
  unfold oScore
  rw [e2]
  by_cases q : 0 < zkn (gs g f) 12
  · rw [if_pos q, if_pos q, oPay_zwL (by omega) (by omega) (by omega) (by omega) (by omega) (by rw [gN_eq (zwL_n (by omega))]; exact ht), oPay_zwL (by omega) (by omega) (by omega) (by omega) (by omega) ht]
    have a1 : go (oPay g f) f = go g f := oPay_n (by omega)
    have a2 : gf (oPay g f) f 2 = gf g f 2 := its_eq (oPay_n (by omega))
    have a5 : gf (oPay g f) f 5 = gf g f 5 := its_eq (oPay_n (by omega))
    have az : zph (oPay g f) 0 = zph g 0 := by
      unfold zph
      rw [e0 4 (by omega), e0 0 (by omega)]
    have hp : zph g 0 < 12 := by
      unfold zph
      have := Nat.mod_lt (gN g 4 + 0) c.1
      omega
    have ac : zfc (gs (oPay g f) f) (zph g 0) = zfc (gs g f) (zph g 0) := by
      unfold zfc
      rw [e1 _ hp, zmn_eq e1]
    rw [a1, a2, a5, az, ac]
  · rw [if_neg q, if_neg q]
/-- one file, both ways -/
theorem rCl1_o {g : Nat → Int64} {f : Nat} (hf : f < 20) (ht : gN g (58 + 51 * f + 1) < 4) (c : 0 < gN g 0 ∧ gN g 0 ≤ 12) (h : sOk (gs g f) (gN g 0)) : rCl1 g f = oKeep (oLearn (oScore (oPay g f) f) f (zph g 0) (gf (oScore (oPay g f) f) f 2)) f := by
  have a : gf (oScore g f) f 2 = gf (oScore (oPay g f) f) f 2 := by
    rw [← score_pay hf ht c]
    exact (its_eq (oPay_n (by omega))).symm
  unfold rCl1
  rw [rScore_o h c.2, score_pay hf ht c, a]
  rfl
/-- the class's steps leave the head and other files' rows -/
theorem oCl1_n {g : Nat → Int64} {f k : Nat} {u : Int32} {ph : Nat} (hf : f < 20) (hp : ph < 12) (hk : gN g (58 + 51 * f + 4) ≤ 24) (h : k < 58 + 51 * f ∨ 58 + 51 * f + 51 ≤ k) (h2 : k < 1378) : oKeep (oLearn (oScore (oPay g f) f) f ph u) f k = g k := by
  have e4 : gN (oLearn (oScore (oPay g f) f) f ph u) (58 + 51 * f + 4) = gN g (58 + 51 * f + 4) := by
    refine gN_eq ?_
    unfold oLearn
    rw [zwL_n (by omega)]
    unfold oScore
    split
    · rw [zwL_n (by omega), zwL_n (by omega), oPay_n (by omega)]
    · exact oPay_n (by omega)
  rw [oKeep_n (by rw [e4]; exact hk) h, oLearn_n hp h, oScore_n h, oPay_n h2]
theorem oCl_n {g : Nat → Int64} (hb : gBd g) : ∀ i, i ≤ gN g 3 → ∀ k, k < 1378 → (k < 58 ∨ 58 + 51 * i ≤ k) → oCl g i k = g k
  | 0, _, _, _, _ => rfl
  | i + 1, hi, k, hk, h => by
    have h20 := hb.2.2.1.2
    have hp : zph g 0 < 12 := by
      unfold zph
      have := Nat.mod_lt (gN g 4 + 0) (show 0 < gN g 0 by have := hb.1.2.1; omega)
      have := hb.1.2.2
      omega
    have ih := oCl_n hb i (by omega)
    have e4 : gN (oCl g i) (58 + 51 * i + 4) = gN g (58 + 51 * i + 4) := gN_eq (ih _ (by omega) (by omega))
    show oKeep (oLearn (oScore (oPay (oCl g i) i) i) i (zph g 0) _) i k = g k
    rw [oCl1_n (by omega) hp (by rw [e4]; exact hb.keL (by omega)) (by omega) hk]
    exact ih k hk (by omega)
theorem rCl_o {g : Nat → Int64} (hb : gBd g) (hs : ∀ f, f < gN g 3 → sOk (gs g f) (gN g 0)) : ∀ i, i ≤ gN g 3 → rCl g i = oCl g i
  | 0, _ => rfl
  | i + 1, hi => by
    have h20 := hb.2.2.1.2
    have h4 := hb.2.1.2
    have hc : 0 < gN g 0 ∧ gN g 0 ≤ 12 := ⟨by have := hb.1.2.1; omega, hb.1.2.2⟩
    have en := oCl_n hb i (by omega)
    have e0 : gN (oCl g i) 0 = gN g 0 := gN_eq (en 0 (by omega) (by omega))
    have eP : zph (oCl g i) 0 = zph g 0 := by
      unfold zph
      rw [e0, gN_eq (en 4 (by omega) (by omega))]
    have e1 : gN (oCl g i) (58 + 51 * i + 1) = gN g (58 + 51 * i + 1) := gN_eq (en _ (by omega) (by omega))
    have on := hb.onL (f := i) (by omega)
    show rCl1 (rCl g i) i = oKeep (oLearn (oScore (oPay (oCl g i) i) i) i (zph g 0) _) i
    rw [rCl_o hb hs i (by omega), rCl1_o (by omega) (by rw [e1]; omega) (by rw [e0]; exact hc) (fun j hj => by
      rw [show gs (oCl g i) i j = gs g i j from its_eq (en _ (by omega) (by omega)), e0]
      exact hs i (by omega) j hj), eP]
theorem rEnd_o {g : Nat → Int64} (hb : gBd g) (hs : ∀ f, f < gN g 3 → sOk (gs g f) (gN g 0)) : rEnd g = oEnd g := by
  unfold rEnd oEnd
  rw [rCl_o hb hs _ (Nat.le_refl _)]
/-! what a period cost -/
theorem i64_alc (a b c : Int64) : a + (b + c) = b + (a + c) := by rw [← Int64.add_assoc, Int64.add_comm a b, Int64.add_assoc]
theorem zpa_cg {g h : Nat → Int64} {w : Nat} (hw : w ≤ 3) : ∀ T, T ≤ 4 → (∀ k, 1378 ≤ k → k < 1390 → g k = h k) → zpa g w T = zpa h w T
  | 0, _, _ => rfl
  | T + 1, hT, e => by
    unfold zpa
    rw [zpa_cg hw T (by omega) e, zpd_eq (u := gp g T) (v := gp h T) hw (fun j hj => e (1378 + 3 * T + j) (by omega) (by omega))]
theorem zpa_pays {g : Nat → Int64} {t k : Nat} {x : Int64} (hk : k < 3) : ∀ T, zpa (oPays g t k x) 3 T = if t < T then zpa g 3 T + x else zpa g 3 T
  | 0 => (if_neg (by omega)).symm
  | T + 1 => by
    unfold zpa
    rw [zpa_pays hk T]
    unfold zpd
    rw [if_pos rfl, if_pos rfl]
    by_cases q : t = T
    · subst q
      rw [if_neg (by omega), if_pos (by omega)]
      have e : ∀ j, gp (oPays g t k x) t j = if j = k then gp g t k + x else gp g t j := fun j => by
        show zwL g (1378 + 3 * t + k) _ (1378 + 3 * t + j) = _
        by_cases z : j = k
        · rw [z, if_pos rfl, zwL_e]
        · rw [if_neg z, zwL_n (by omega)]
          rfl
      rw [e 0, e 1, e 2]
      match k, hk with
      | 0, _ => rw [if_pos rfl, if_neg (by omega), if_neg (by omega)]; simp only [Int64.add_assoc, Int64.add_comm, i64_alc]
      | 1, _ => rw [if_neg (by omega), if_pos rfl, if_neg (by omega)]; simp only [Int64.add_assoc, Int64.add_comm, i64_alc]
      | 2, _ => rw [if_neg (by omega), if_neg (by omega), if_pos rfl]; simp only [Int64.add_assoc, Int64.add_comm, i64_alc]
    · have e : ∀ j, j < 3 → gp (oPays g t k x) T j = gp g T j := fun j hj => oPays_n (by omega)
      rw [e 0 (by omega), e 1 (by omega), e 2 (by omega)]
      by_cases q2 : t < T
      · rw [if_pos q2, if_pos (by omega)]
        simp only [Int64.add_assoc, Int64.add_comm, i64_alc]
      · rw [if_neg q2, if_neg (by omega)]
theorem zpa_pay {g : Nat → Int64} {f T : Nat} (h : gN g (58 + 51 * f + 1) < T) : zpa (oPay g f) 3 T = zpa g 3 T + (oKp g f + oRd g f) := by
  unfold oPay
  rw [zpa_pays (by omega), if_pos h, zpa_pays (by omega), if_pos h, Int64.add_assoc]
theorem zpa_cl {g : Nat → Int64} (hb : gBd g) : ∀ i, i ≤ gN g 3 → zpa (oCl g i) 3 (gN g 2) = zpa g 3 (gN g 2) + oClS g i
  | 0, _ => (lN_a0 _).symm
  | i + 1, hi => by
    have h20 := hb.2.2.1.2
    have h4 := hb.2.1.2
    have en := oCl_n hb i (by omega)
    have e1 : gN (oCl g i) (58 + 51 * i + 1) = gN g (58 + 51 * i + 1) := gN_eq (en _ (by omega) (by omega))
    have hp : zph g 0 < 12 := by
      unfold zph
      have := Nat.mod_lt (gN g 4 + 0) (show 0 < gN g 0 by have := hb.1.2.1; omega)
      have := hb.1.2.2
      omega
    have e4 : gN (oCl g i) (58 + 51 * i + 4) = gN g (58 + 51 * i + 4) := gN_eq (en _ (by omega) (by omega))
    show zpa (oKeep (oLearn (oScore (oPay (oCl g i) i) i) i (zph g 0) _) i) 3 (gN g 2) = _
    rw [zpa_cg (h := oPay (oCl g i) i) (by omega) _ h4 (fun k h1 h2 => ?_), zpa_pay (by rw [e1]; exact hb.onL (by omega)), zpa_cl hb i (by omega), Int64.add_assoc]
    · rfl
    · have e5 : gN (oLearn (oScore (oPay (oCl g i) i) i) i (zph g 0) (gf (oScore (oPay (oCl g i) i) i) i 2)) (58 + 51 * i + 4) = gN (oCl g i) (58 + 51 * i + 4) := by
        refine gN_eq ?_
        unfold oLearn
        rw [zwL_n (by omega)]
        unfold oScore
        split
        · rw [zwL_n (by omega), zwL_n (by omega), oPay_n (by omega)]
        · exact oPay_n (by omega)
      rw [oKeep_n (by rw [e5, e4]; exact hb.keL (by omega)) (by omega), oLearn_n hp (by omega), oScore_n (by omega)]
theorem rEndV_o {g : Nat → Int64} (hb : gBd g) (hs : ∀ f, f < gN g 3 → sOk (gs g f) (gN g 0)) : rEndV g = oClS g (gN g 3) := by
  have h4 := hb.2.1.2
  unfold rEndV
  rw [rSum_all (by omega), rSum_all (by omega), rEnd_o hb hs, zpa_cg (g := oEnd g) (h := oCl g (gN g 3)) (by omega) _ h4 (fun k h1 h2 => by
    unfold oEnd
    rw [zwL_n (by omega), zwL_n (by omega)]), zpa_cl hb _ (Nat.le_refl _)]
  rw [Int64.add_comm, Int64.add_sub_cancel]
