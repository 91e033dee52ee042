/-! ===== the plans, on both sides ===== -/
section
variable {l : Launch} {G : zG} {y1 y2 y8 : zMD} {as : List Value} {M M1 X : zMem} {S S' : Nat → Nat → Int64} {c d n w c' d' n' w' fr lo : Nat} {u v u' v' : Nat → Int32} {e e' t : Int32} {sl sl' : Nat → Int32} {cd : Nat → Nat} {xs : List Nat} {P : Option Value → zMem → Prop}
theorem zag_pf {g : Nat → Int64} (hp : pFr M X) (q : zag M1 M (fun b => b < 941 ∨ b = 956)) : zag M1 (zsL X 942 g) (fun b => b < 941 ∨ b = 956) := by
  refine q.trans ⟨hp.1, fun b hb => ?_⟩
  have := hp.2.1 b (by omega) (by omega)
  exact ⟨this.1, (if_neg (by omega)).trans (this.2 (by omega)), hp.2.2.1 b⟩
theorem RFs.pf (h : RFs M S c d n u w v e sl) (hp : pFr M X) : RFs (zsL X 942 (S 630)) S c d n u w v e sl := by
  obtain ⟨h1, h2, h3, h4, h5, h6, h7, h8, h9, h10⟩ := h
  obtain ⟨p1, p2, p3, p4⟩ := hp
  refine ⟨(h1.keep p1 (p3 941)).keep rfl rfl, rfl, (p4 5 (by omega)).trans h3, fun i hi k hk => ?_, fun s hs => ?_, (p4 8 (by omega)).trans h6, ((p2 947 (by omega) (by omega)).1).trans h7, (p4 31 (by omega)).trans h8, fun j hj => ?_, (p4 15 (by omega)).trans h10⟩
  · rw [show zJ (zsL X 942 (S 630)) 944 = zJ M 944 from (p2 944 (by omega) (by omega)).2 (by omega)]
    exact h4 i hi k hk
  · rw [show zJ (zsL X 942 (S 630)) 945 = zJ M 945 from (p2 945 (by omega) (by omega)).2 (by omega), show zI (zsL X 942 (S 630)) 946 = zI M 946 from (p2 946 (by omega) (by omega)).1]
    exact h5 s hs
  · rw [show zI (zsL X 942 (S 630)) 955 = zI M 955 from (p2 955 (by omega) (by omega)).1]
    exact h9 j hj
theorem rPq_E {r : Value} {th : Nat} {o : zOut} {M2 : zMem} (h : RFs M1 S c d n u w v e sl) (q : rPq M1 (S 630) th r o M2) : rE M1 S c d n u w v e sl (some r) o M2 ∧ zI M2 941 6 = nI th := by
  obtain ⟨q1, X, rfl, hp⟩ := q
  exact ⟨⟨q1, h.th.pf hp, zag_pf hp zag_th⟩, (hp.2.2.2 6 (by omega)).trans zI_thr⟩
theorem opI_l {r : Int32} (hI : IV M S c d n u w v e sl) (hL : ∀ Q1, zCx2 l G y8 10 400 5 30 (.ref 0 :: as) M Q1 → wI Q1 xs → zCh l G y1 11 430 5 30 (.ref 0 :: (as ++ [.ref 956])) M (wQ Q1 cd)) (h8 : zCx2 l G y8 10 400 5 30 (.ref 0 :: as) M (zXr none M (plP M (some (.int r))))) (hr : fr ≤ 7 ∧ lo ≤ 240) (h9 : ∀ M1, mSh M1 → zCm l G y2 fr lo 0 0 (.ref 941 :: as) (zsL M1 942 (S 630)) (rPq M1 (S 630) 0 (.int r))) : opI l G y1 y2 as M := by
  refine opI_u (r := r) (e' := e) (v' := v) hI hL h8 (fun v0 M1 q => ?_) hI.1 hr fun M1 hf => ?_
  · have := hI.2.1.pl q.2
    exact ⟨q.1, this.1, this.2⟩
  · have := h9 M1 hf.m
    rw [hf.id] at this
    exact this.imp fun v0 M2 q => rPq_E hf q
theorem opJ_l {r : Int64} (hI : IV M S c d n u w v e sl) (hL : ∀ Q1, zCx2 l G y8 10 400 5 30 (.ref 0 :: as) M Q1 → wJ Q1 xs → zCh l G y1 11 430 5 30 (.ref 0 :: (as ++ [.ref 956])) M (wQJ Q1 cd)) (h8 : zCx2 l G y8 10 400 5 30 (.ref 0 :: as) M (zXr none M (plP M (some (.long r))))) (hr : fr ≤ 7 ∧ lo ≤ 240) (h9 : ∀ M1, mSh M1 → zCm l G y2 fr lo 0 0 (.ref 941 :: as) (zsL M1 942 (S 630)) (rPq M1 (S 630) 0 (.long r))) : opJ l G y1 y2 as M := by
  refine opJ_u (r := r) (e' := e) (v' := v) hI hL h8 (fun v0 M1 q => ?_) hI.1 hr fun M1 hf => ?_
  · have := hI.2.1.pl q.2
    exact ⟨q.1, this.1, this.2⟩
  · have := h9 M1 hf.m
    rw [hf.id] at this
    exact this.imp fun v0 M2 q => rPq_E hf q
/-- .. where the answer is known only behind the class's part -/
theorem opJ_w (hI : IV M S c d n u w v e sl) (hL : ∀ Q1, zCx2 l G y8 10 400 5 30 (.ref 0 :: as) M Q1 → wJ Q1 xs → zCh l G y1 11 430 5 30 (.ref 0 :: (as ++ [.ref 956])) M (wQJ Q1 cd)) (h8 : zCx2 l G y8 10 400 5 30 (.ref 0 :: as) M (zXr none M P)) (hr : fr ≤ 7 ∧ lo ≤ 240) (hP : ∀ v0 M1, P v0 M1 → ∃ r : Int64, plP M (some (.long r)) v0 M1 ∧ ∀ M1, mSh M1 → zCm l G y2 fr lo 0 0 (.ref 941 :: as) (zsL M1 942 (S 630)) (rPq M1 (S 630) 0 (.long r))) : opJ l G y1 y2 as M := by
  obtain ⟨ho, hc, hf, hO⟩ := hI
  refine (hL _ h8 ⟨fun v0 M' q => ?_, fun x M' q => by cases q.1⟩).imp fun v0 M1 q => ?_
  · obtain ⟨r, q1, -⟩ := hP _ _ q.2
    have := hO.keep q1.2.1.1
    exact ⟨⟨r, q1.1⟩, this⟩
  · rcases q with ⟨x, M2, ⟨-, q1⟩, q2, rfl⟩ | ⟨x, ⟨q1, -⟩, -⟩
    · obtain ⟨r, z1, z4⟩ := hP _ _ q1
      obtain ⟨z2, z3⟩ := hc.pl z1.2
      have z0 := z1.1
      cases z0
      have f1 := (hf.bel z3).out (x := x)
      have h9 := z4 _ f1.m
      rw [f1.id] at h9
      exact ⟨_, q2, opR_th (r := some (.long x)) (th := nI 0) f1.m hr (h9.imp fun v0 M2 q => rPq_E f1 q) ho z2.out ((hO.keep z3.1).keep rfl) fun M3 y1 y2 y3 => ⟨x, rfl, y1, fun _ => by rw [y2]; exact zJ_out, y3⟩⟩
    · cases q1
end
theorem gInv_co {g : Nat → Int64} {q : zPs} {F : Nat → Nat} {O : Nat → Option Nat} {T : Nat → Nat} (h : gInv g) (hp : pOk g q F O T) : ∀ i, i ≤ q.1 → gInv (zCo g F O T i)
  | 0, _ => h
  | i + 1, hi => by
    have d := zCo_d h.1 (h.i 5 (by omega)) hp i (by omega)
    have z := gInv_co h hp i (by omega)
    obtain ⟨⟨a1, a2⟩, ⟨b1, b2⟩, c1, c2⟩ := hp i (by omega)
    have ho := d.1.onL (f := F i) (by rw [d.2.2.1]; exact a2)
    have z1 : gInv (oGo (zCo g F O T i) (F i) (T i)) := gInv_go z (by rw [d.2.2.1]; exact a2) (by rw [d.2.2.2]; exact c2)
    have d1 := d.go a2 c2
    cases hoi : O i with
    | none => rw [(zCo_s.1 hoi).1]; exact z1
    | some j =>
      rw [(zCo_s.2 j hoi).1]
      refine gInv_go z1 (by rw [d1.2.2.1]; exact b2 j hoi) ?_
      rw [d1.2.2.2, ← d.2.2.2]
      exact ho
theorem hx11 {A B : Prop} [Decidable A] [Decidable B] (h : ¬ (A ∧ B)) : ∃ x, eo A 1 (eo B 1 none) = some x ∧ x ∈ [1, 2] ∧ 1 = (fun x : Nat => if x = 1 then 1 else 2) x ∧ ¬ nI ((fun x : Nat => if x = 1 then 1 else 2) x) = nI 0 := by
  by_cases a : A
  · exact ⟨1, by simp [eo, a, show ¬ B from fun b => h ⟨a, b⟩], by simp, by simp, by show ¬ nI 1 = nI 0; decide⟩
  · exact ⟨1, by simp [eo, a], by simp, by simp, by show ¬ nI 1 = nI 0; decide⟩
section
variable {l : Launch} {G : zG} {M : zMem}
theorem op_steps (hl : l.stackTraces = false) (hI : INV M) (a : Int32) : opI l G mL_steps mX9_steps [.int a] M := by
  obtain ⟨S, c, d, n, u, w, v, e, sl, hI⟩ := hI
  have hg := hI.g
  have hf20 := hg.f20
  have ht4 := hg.t4
  obtain ⟨p, hs⟩ := hI.W 630 zst_now
  by_cases hx : nI 1 ≤ a ∧ a ≤ nI 24
  · obtain ⟨k, rfl, k1, k24⟩ := nLe_of (lo := 1) (hi := 24) hx.1 hx.2 (by decide) (by decide)
    have hG : ∀ r, pGn (S 630) (rLay (S 630) k r (gN (S 630) 3)) (zgA (S 630) k (zJ M (5 + 4)) (gN (S 630) 3)) := fun r => pGn_ok hg.1 hg.2.2.2.2.1 hg.s
    have hS : pS (S 630) (-1) (nI 0) (zQ0 M 5 (S 630) 0 (nI 0)) := pS_0 hg.t4 hg.2.2.2.2.2
    obtain ⟨q, hqe⟩ : ∃ q, plQ M (S 630) k = q := ⟨_, rfl⟩
    have hqe' : zPln (S 630) (zgA (S 630) k (zJ M (5 + 4)) (gN (S 630) 3)) 20 (zQ0 M 5 (S 630) 0 (nI 0)) = q := hqe
    have i4 := hg.i 4 (by omega)
    exact opI_l hI (fun Q1 h hw => c_L_steps hl hI.K _ h hw) (c_X8_steps hl hI.x hs hI.F hg.2.2.2.2.2 k1 k24 hqe) (by decide) (fun M1 hm => c_X9_steps hl hm hg.1 i4 k1 k24 hG hS hqe')
  · exact opI_y hI (fun Q1 h hw => c_L_steps hl hI.K _ h hw) (c_X8_steps_x hl hI.x hs hI.F hg.2.2.2.2.2 a hx) (by decide) (fun M1 hm => c_X9_steps_x hl hm hg.1 a hx) (hx1 hx)
theorem op_saving (hl : l.stackTraces = false) (hI : INV M) (a : Int32) : opJ l G mL_saving mX9_saving [.int a] M := by
  obtain ⟨S, c, d, n, u, w, v, e, sl, hI⟩ := hI
  have hg := hI.g
  have hf20 := hg.f20
  have ht4 := hg.t4
  obtain ⟨p, hs⟩ := hI.W 630 zst_now
  by_cases hx : nI 1 ≤ a ∧ a ≤ nI 24
  · obtain ⟨k, rfl, k1, k24⟩ := nLe_of (lo := 1) (hi := 24) hx.1 hx.2 (by decide) (by decide)
    have hG : ∀ r, pGn (S 630) (rLay (S 630) k r (gN (S 630) 3)) (zgA (S 630) k (zJ M (5 + 4)) (gN (S 630) 3)) := fun r => pGn_ok hg.1 hg.2.2.2.2.1 hg.s
    have hS : pS (S 630) (-1) (nI 0) (zQ0 M 5 (S 630) 0 (nI 0)) := pS_0 hg.t4 hg.2.2.2.2.2
    obtain ⟨q, hqe⟩ : ∃ q, plQ M (S 630) k = q := ⟨_, rfl⟩
    have hqe' : zPln (S 630) (zgA (S 630) k (zJ M (5 + 4)) (gN (S 630) 3)) 20 (zQ0 M 5 (S 630) 0 (nI 0)) = q := hqe
    have i4 := hg.i 4 (by omega)
    exact opJ_l hI (fun Q1 h hw => c_L_saving hl hI.K _ h hw) (c_X8_saving hl hI.x hs hI.F hg.2.2.2.2.2 k1 k24 hqe) (by decide) (fun M1 hm => c_X9_saving hl hm hg.1 i4 k1 k24 hG hS hqe')
  · exact opJ_y hI (fun Q1 h hw => c_L_saving hl hI.K _ h hw) (c_X8_saving_x hl hI.x hs hI.F hg.2.2.2.2.2 a hx) (by decide) (fun M1 hm => c_X9_saving_x hl hm hg.1 a hx) (hx1 hx)
theorem op_withRoom (hl : l.stackTraces = false) (hI : INV M) (a b b2 : Int32) : opJ l G mL_withRoom mX9_withRoom [.int a, .int b, .int b2] M := by
  obtain ⟨S, c, d, n, u, w, v, e, sl, hI⟩ := hI
  have hg := hI.g
  have hf20 := hg.f20
  have ht4 := hg.t4
  obtain ⟨p, hs⟩ := hI.W 630 zst_now
  by_cases hx : inN a (gN (S 630) 2) ∧ ((nI 0 ≤ b ∧ b ≤ nI 99999) ∧ (nI 1 ≤ b2 ∧ b2 ≤ nI 24))
  · obtain ⟨h1, h2, h3⟩ := hx
    obtain ⟨t, rfl, t9⟩ := inN_nat h1 (by omega)
    obtain ⟨k, rfl, k1, k24⟩ := nLe_of (lo := 1) (hi := 24) h3.1 h3.2 (by decide) (by decide)
    have hG : ∀ r, pGn (S 630) (rLay (S 630) k r (gN (S 630) 3)) (zgA (S 630) k (zJ M (5 + 4)) (gN (S 630) 3)) := fun r => pGn_ok hg.1 hg.2.2.2.2.1 hg.s
    have hS : pS (S 630) (-1) (nI 0) (zQ0 M 5 (S 630) 0 (nI 0)) := pS_0 hg.t4 hg.2.2.2.2.2
    obtain ⟨q, hqe⟩ : ∃ q, plQ M (S 630) k = q := ⟨_, rfl⟩
    have hqe' : zPln (S 630) (zgA (S 630) k (zJ M (5 + 4)) (gN (S 630) 3)) 20 (zQ0 M 5 (S 630) 0 (nI 0)) = q := hqe
    have i4 := hg.i 4 (by omega)
    refine opJ_w (fr := 7) (lo := 220) hI (fun Q1 h hw => c_L_withRoom hl hI.K _ _ _ h hw) (c_X8_withRoom hl hI.x hs hI.F hg.2.2.2.2.2 t9 h2 k1 k24 hqe) (by decide) (fun v0 M1 q1 => ?_)
    obtain ⟨M2, q7, e7, p7⟩ := q1
    exact ⟨_, p7, fun M1 hm => c_X9_withRoom hl hm hg.1 i4 k1 k24 hG hS hqe' t9 h2 ((pS_ok hg.t4).resolve_right (fun z => z t9)) e7⟩
  · exact opJ_y hI (fun Q1 h hw => c_L_withRoom hl hI.K _ _ _ h hw) (c_X8_withRoom_x hl hI.x hs hI.F hg.2.2.2.2.2 a b b2 hx) (by decide) (fun M1 hm => c_X9_withRoom_x hl hm hg.1 a b b2 hx) (hx2x hx)
theorem op_wish (hl : l.stackTraces = false) (hI : INV M) (a b : Int32) : opI l G mL_wish mX9_wish [.int a, .int b] M := by
  obtain ⟨S, c, d, n, u, w, v, e, sl, hI⟩ := hI
  have hg := hI.g
  have hf20 := hg.f20
  have ht4 := hg.t4
  obtain ⟨p, hs⟩ := hI.W 630 zst_now
  by_cases hx : inN a (gN (S 630) 3) ∧ (nI 1 ≤ b ∧ b ≤ nI 24)
  · obtain ⟨h1, h3⟩ := hx
    obtain ⟨f, rfl, f9⟩ := inN_nat h1 (by omega)
    obtain ⟨k, rfl, k1, k24⟩ := nLe_of (lo := 1) (hi := 24) h3.1 h3.2 (by decide) (by decide)
    have hG : ∀ r, pGn (S 630) (rLay (S 630) k r (gN (S 630) 3)) (zgA (S 630) k (zJ M (5 + 4)) (gN (S 630) 3)) := fun r => pGn_ok hg.1 hg.2.2.2.2.1 hg.s
    have hS : pS (S 630) (-1) (nI 0) (zQ0 M 5 (S 630) 0 (nI 0)) := pS_0 hg.t4 hg.2.2.2.2.2
    obtain ⟨q, hqe⟩ : ∃ q, plQ M (S 630) k = q := ⟨_, rfl⟩
    have hqe' : zPln (S 630) (zgA (S 630) k (zJ M (5 + 4)) (gN (S 630) 3)) 20 (zQ0 M 5 (S 630) 0 (nI 0)) = q := hqe
    have i4 := hg.i 4 (by omega)
    refine opI_u (r := (zbt (oGn (S 630) f k) (nI (gN (S 630) (58 + 51 * f + 1))) (gN (S 630) 2)).1) (e' := e) (v' := v) (fr := 6) (lo := 170) hI (fun Q1 h hw => c_L_wish hl hI.K _ _ h hw) (c_X8_wish hl hI.x hs hI.F hg.2.2.2.2.2 f9 k1 k24 hqe) (fun v0 M1 q => ?_) hI.1 (by decide) (fun M1 hf => ?_)
    · have := hI.2.1.pl q.2
      exact ⟨q.1, this.1, this.2⟩
    · have := c_X9_wish (G := G) hl hf.m hg.1 f9 k1 k24
      rw [hf.id, wish_eq hg.1 hg.2.2.2.2.1 f9 (hg.s f f9)] at this
      refine this.imp fun v0 M2 q => ?_
      obtain ⟨q1, rfl⟩ := q
      have hf2 : RFs (zsL (zsI M1 941 6 (nI 0)) 954 (rLay (S 630) k (zJ M1 954) (gN (S 630) 3))) S c d n u w v e sl := ⟨hf.m.keep rfl rfl, hf.2⟩
      rw [hf2.id]
      exact ⟨⟨q1, hf2, rfl, fun b hb => ⟨if_neg (by omega), if_neg (by omega), rfl⟩⟩, zI_thr (M := M1)⟩
  · exact opI_y hI (fun Q1 h hw => c_L_wish hl hI.K _ _ h hw) (c_X8_wish_x hl hI.x hs hI.F hg.2.2.2.2.2 a b hx) (by decide) (fun M1 hm => c_X9_wish_x hl hm hg.1 a b hx) (hx21 hx)
theorem op_step (hl : l.stackTraces = false) (hI : INV M) (a b b2 : Int32) : opI l G mL_step mX9_step [.int a, .int b, .int b2] M := by
  obtain ⟨S, c, d, n, u, w, v, e, sl, hI⟩ := hI
  have hg := hI.g
  have hf20 := hg.f20
  have ht4 := hg.t4
  obtain ⟨p, hs⟩ := hI.W 630 zst_now
  by_cases hx : (nI 1 ≤ a ∧ a ≤ nI 24) ∧ (nI 0 ≤ b2 ∧ b2 ≤ nI 2)
  · obtain ⟨h1, h3⟩ := hx
    obtain ⟨k, rfl, k1, k24⟩ := nLe_of (lo := 1) (hi := 24) h1.1 h1.2 (by decide) (by decide)
    have hG : ∀ r, pGn (S 630) (rLay (S 630) k r (gN (S 630) 3)) (zgA (S 630) k (zJ M (5 + 4)) (gN (S 630) 3)) := fun r => pGn_ok hg.1 hg.2.2.2.2.1 hg.s
    have hS : pS (S 630) (-1) (nI 0) (zQ0 M 5 (S 630) 0 (nI 0)) := pS_0 hg.t4 hg.2.2.2.2.2
    obtain ⟨q, hqe⟩ : ∃ q, plQ M (S 630) k = q := ⟨_, rfl⟩
    have hqe' : zPln (S 630) (zgA (S 630) k (zJ M (5 + 4)) (gN (S 630) 3)) 20 (zQ0 M 5 (S 630) 0 (nI 0)) = q := hqe
    have i4 := hg.i 4 (by omega)
    obtain ⟨j, rfl, j0, j2⟩ := nLe_of (lo := 0) (hi := 2) h3.1 h3.2 (by decide) (by decide)
    have q20 : q.1 ≤ 20 := by
      have := zPln_le (g := S 630) (gn := zgA (S 630) k (zJ M (5 + 4)) (gN (S 630) 3)) 20 (zQ0 M 5 (S 630) 0 (nI 0))
      rw [hqe'] at this
      have e0 : (zQ0 M 5 (S 630) 0 (nI 0)).1 = 0 := rfl
      omega
    by_cases hs1 : inN b q.1
    · obtain ⟨s, rfl, s9⟩ := inN_nat hs1 (by omega)
      exact opI_l hI (fun Q1 h hw => c_L_step hl hI.K _ _ _ h hw) (c_X8_step hl hI.x hs hI.F hg.2.2.2.2.2 k1 k24 hqe (show j < 3 by omega) s9 q20) (by decide) (fun M1 hm => c_X9_step hl hm hg.1 i4 k1 k24 hG hS hqe' (show j < 3 by omega) s9)
    · obtain ⟨ho, hc, hf, hO⟩ := hI
      have hI : IV M S c d n u w v e sl := ⟨ho, hc, hf, hO⟩
      refine (c_L_step hl hI.K _ _ _ (c_X8_step_o hl hI.x hs hI.F hg.2.2.2.2.2 k1 k24 hqe (show j < 3 by omega) b hs1) ⟨fun v0 M' q => (by cases q.1), fun x M' q => ?_⟩).imp fun v0 M1 q => ?_
      · obtain ⟨q1, q2⟩ := q
        cases q1
        exact ⟨by decide, (zsh_F q2.1.1).trans hO.2.2⟩
      · rcases q with ⟨x, M2, q1, -⟩ | ⟨x, ⟨q1, q3⟩, q2⟩
        · cases q1.1
        · cases q1
          obtain ⟨z2, z3⟩ := hc.pl q3
          have f1 := hf.bel z3
          have h9 := c_X9_step_o (G := G) hl f1.m hg.1 i4 k1 k24 hG hS hqe' b h3 hs1
          rw [f1.id] at h9
          exact ⟨_, q2, opR_th (r := some (.int (nI 0))) (th := nI 2) f1.m (by decide) (h9.imp fun v0 M2 q => rPq_E f1 q) ho z2 (hO.keep z3.1) fun M3 y1 y2 y3 => ⟨nI 0, rfl, y1, fun z => absurd z (by decide), y3⟩⟩
  · exact opI_y hI (fun Q1 h hw => c_L_step hl hI.K _ _ _ h hw) (c_X8_step_x hl hI.x hs hI.F hg.2.2.2.2.2 a b b2 hx) (by decide) (fun M1 hm => c_X9_step_x hl hm hg.1 a b b2 hx) (hx11 hx)
theorem op_act (hl : l.stackTraces = false) (hI : INV M) (a : Int32) : opI l G mL_act mX9_act [.int a] M := by
  obtain ⟨S, c, d, n, u, w, v, e, sl, hI⟩ := hI
  have hg := hI.g
  have hf20 := hg.f20
  have ht4 := hg.t4
  obtain ⟨p, hs⟩ := hI.W 630 zst_now
  by_cases hx : nI 1 ≤ a ∧ a ≤ nI 24
  · obtain ⟨k, rfl, k1, k24⟩ := nLe_of (lo := 1) (hi := 24) hx.1 hx.2 (by decide) (by decide)
    have hG : ∀ r, pGn (S 630) (rLay (S 630) k r (gN (S 630) 3)) (zgA (S 630) k (zJ M (5 + 4)) (gN (S 630) 3)) := fun r => pGn_ok hg.1 hg.2.2.2.2.1 hg.s
    have hS : pS (S 630) (-1) (nI 0) (zQ0 M 5 (S 630) 0 (nI 0)) := pS_0 hg.t4 hg.2.2.2.2.2
    obtain ⟨q, hqe⟩ : ∃ q, plQ M (S 630) k = q := ⟨_, rfl⟩
    have hqe' : zPln (S 630) (zgA (S 630) k (zJ M (5 + 4)) (gN (S 630) 3)) 20 (zQ0 M 5 (S 630) 0 (nI 0)) = q := hqe
    have i4 := hg.i 4 (by omega)
    have q20 : q.1 ≤ 20 := by
      have := zPln_le (g := S 630) (gn := zgA (S 630) k (zJ M (5 + 4)) (gN (S 630) 3)) 20 (zQ0 M 5 (S 630) 0 (nI 0))
      rw [hqe'] at this
      have e0 : (zQ0 M 5 (S 630) 0 (nI 0)).1 = 0 := rfl
      omega
    obtain ⟨F, O, T, hp⟩ := zPln_ok0 hg.1 (show (zQ0 M 5 (S 630) 0 (nI 0)).1 = 0 from rfl) hqe'
    have hco := gInv_co hg hp q.1 (by omega)
    refine opI_u (r := nI (zMv O q.1)) (e' := e) (v' := v) (fr := 7) (lo := 220) hI (fun Q1 h hw => c_L_act hl hI.K _ h hw) (c_X8_act hl hI.x hI.W hs hI.F hI.hc hI.c8 hI.hd hI.d8 hg.2.2.2.2.2 k1 k24 hqe q20 hp) (fun v0 M1 q1 => ?_) (hI.1.up hco) (by decide) (fun M1 hf => ?_)
    · have := hI.2.1.ap q1
      refine ⟨?_, this.1, this.2⟩
      obtain ⟨M2, -, q2⟩ := q1
      exact q2.1
    · have := c_X9_act (G := G) hl hf.m hg.1 i4 k1 k24 hG hS hqe' hf.c5 hI.c8 (hg.i 5 (by omega)) hp
      rw [hf.id] at this
      refine this.imp fun v0 M2 q2 => ?_
      obtain ⟨z1, X, rfl, hpf⟩ := q2
      have hk := hf.kp (g' := zCo (S 630) F O T q.1) hI.1
      have hpf2 : pFr (zsL (KP M1 c (S 630)) 942 (zCo (S 630) F O T q.1)) (zsL X 942 (zCo (S 630) F O T q.1)) := ⟨hpf.1, fun b q1 q2 => ⟨(hpf.2.1 b q1 q2).1, fun z => (if_neg z).trans (((hpf.2.1 b q1 q2).2 z).trans (if_neg z).symm)⟩, hpf.2.2.1, hpf.2.2.2⟩
      have hk2 := hk.pf hpf2
      rw [zup_e, zsL_zsL] at hk2
      refine ⟨⟨z1, hk2, ?_⟩, hpf.2.2.2 6 (by omega)⟩
      exact zag_pf hpf ⟨rfl, fun b hb => ⟨(if_neg (by omega)).trans (if_neg (by omega)), if_neg (by omega), rfl⟩⟩
  · exact opI_y hI (fun Q1 h hw => c_L_act hl hI.K _ h hw) (c_X8_act_x hl hI.x hs hI.F hg.2.2.2.2.2 a hx) (by decide) (fun M1 hm => c_X9_act_x hl hm hg.1 a hx) (hx1 hx)
end
