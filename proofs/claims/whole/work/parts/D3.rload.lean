/-! ===== the reference's load ===== -/
theorem rTR_b {u : Nat → Int32} {n : Nat} {g g' : Nat → Int64} {r r' : rRd} (h : rTR u n (gN g 2) g r g' r') (hb : r.2.2.2.2.1 = 0 → gBd g) (h2 : its g 2 = nI (gN g 2)) (h4 : gN g 2 ≤ 4) (h0 : gN g 3 = 0) (h5 : gN g 5 = 0) : (∀ k, k < 6 → k ≠ 2 → g' k = g k) ∧ (r'.2.2.2.2.1 = 0 → gBd g') := by
  have f := rTR_fc h h2 h4
  exact ⟨fun k hk hk2 => f.2.2.2.2.1 k (Or.inl ⟨hk, hk2⟩), fun w => rTR_gB h (hb (f.2.2.2.1 w).1) h0 h5⟩
theorem rTs_b {u : Nat → Int32} {n : Nat} {g' : Nat → Int64} {r' : rRd} : ∀ k (g : Nat → Int64) (r : rRd), rTs u n k g r g' r' → (r.2.2.2.2.1 = 0 → gBd g) → its g 2 = nI (gN g 2) → gN g 2 ≤ 4 → gN g 3 = 0 → gN g 5 = 0 → (∀ k, k < 6 → k ≠ 2 → g' k = g k) ∧ (r'.2.2.2.2.1 = 0 → gBd g')
  | 0, g, r, h, hb, _, _, _, _ => by
    obtain ⟨-, rfl, rfl⟩ := h
    exact ⟨fun _ _ _ => rfl, hb⟩
  | k + 1, g, r, h, hb, h2, h4, h0, h5 => by
    obtain ⟨-, g1, r1, t1, t2⟩ := h
    have f := rTR_fc t1 h2 h4
    have b := rTR_b t1 hb h2 h4 h0 h5
    have i := rTs_b k g1 r1 t2 b.2 f.2.1 f.2.2.1 ((gN_eq (b.1 3 (by omega) (by omega))).trans h0) ((gN_eq (b.1 5 (by omega) (by omega))).trans h5)
    exact ⟨fun j h1 h3 => (i.1 j h1 h3).trans (b.1 j h1 h3), i.2⟩
/-- behind the reference's load -/
def lQ (M : zMem) (u : Nat → Int32) (n c : Nat) (g : Nat → Int64) : zOut → zMem → Prop := fun o M' => ∃ w0 ge re, (zI M 941 14 = w0 ∧ rLd u n (oBeg g) (rTk u n (zsk u n (n - 0) 0) (0, w0)) ge re) ∧ ((¬ re.2.2.2.2.1 = 0 ∧ o = .inl (some (.int re.2.2.2.2.1)) ∧ M' = zsL (zsI (zsI (rdM (ldA M g) re) 941 15 re.2.2.2.2.2) 941 8 (nI 0)) 942 (va_cpy (zJ (ldA M g) 943) ge 0 0 1390)) ∨ (re.2.2.2.2.1 = 0 ∧ o = .inl (some (.int (nI (gN ge 3)))) ∧ M' = zsL (zsL (zsI (zsI (zsI (rdM (ldA M g) re) 941 15 (-1)) 941 8 (nI 0)) 941 5 (nI (min 8 (c + 1)))) 944 (kQ c (zJ (ldA M g) 944) (zJ (ldA M g) 943))) 942 ge))
theorem lQ.sh {M M' : zMem} {u : Nat → Int32} {n c : Nat} {g : Nat → Int64} {o : zOut} (h : lQ M u n c g o M') : zsh (zsL M 942 g) M' := by
  obtain ⟨w0, ge, re, -, z | z⟩ := h
  · rw [z.2.2]; rfl
  · rw [z.2.2]; rfl
section
variable {l : Launch} {G : zG}
theorem c_X9_load (hl : l.stackTraces = false) {M : zMem} (hm : mSh M) {g : Nat → Int64} {u : Nat → Int32} (hu : zI M 947 = u) {n : Nat} (hn : zI M 941 8 = nI n) (hn6 : n ≤ 600) {c : Nat} (hc : zI M 941 5 = nI c) (hc8 : c ≤ 8) : zCm l G mX9_load 7 240 0 0 [.ref 941] (zsL M 942 g) (lQ M u n c g) := by
  refine zCm.of0 (ls0 := [some (.ref 941)]) (by decide +kernel) rfl hl rfl (Nat.le_of_ble_eq_true rfl) (fun v' M' q => q.sh) (fun x M' q => by obtain ⟨w0, ge, re, -, z | z⟩ := q <;> exact absurd z.2.1 (by simp)) ?_
  refine w_X9_load_0 hl hm hu hn hn6 (fun w0 hw0 => ?_)
  have hmA : mSh (ldA M g) := ldA_sh hm
  have huA : zI (ldA M g) 947 = u := (ldA_n (by decide)).trans hu
  have hnA : zI (ldA M g) 941 8 = nI n := (ldA_8 (by decide)).trans hn
  have hcA : zI (ldA M g) 941 5 = nI c := (ldA_8 (by decide)).trans hc
  obtain ⟨r0, hr0⟩ : ∃ r0, rTk u n (zsk u n (n - 0) 0) (0, w0) = r0 := ⟨_, rfl⟩
  have ho0 : rOk n r0 := by
    have hz := zsk_in (u := u) (n := n) (n - 0) 0
    rw [← hr0]
    exact rTk_ok (by omega)
  obtain ⟨v1, hv1⟩ : ∃ v1, rIw u 0 r0 = v1 := ⟨_, rfl⟩
  obtain ⟨r1, h1⟩ : ∃ r1, rMu u n v1 r0 = r1 := ⟨_, rfl⟩
  have ho1 : rOk n r1 := by rw [← h1]; exact rMu_ok ho0
  obtain ⟨x, hx⟩ : ∃ x, rTa u n (nI 2) (nI 12) r1 = x := ⟨_, rfl⟩
  have ho2 : rOk n x.2 := by rw [← hx]; exact rTa_ok ho1
  obtain ⟨v3, hv3⟩ : ∃ v3, rIw u 1 x.2 = v3 := ⟨_, rfl⟩
  obtain ⟨y, hy⟩ : ∃ y, (if v3 = 0 then (zwL (oBeg g) 0 x.1.toInt64, x.2) else (zwL (zwL (oBeg g) 0 x.1.toInt64) 1 (rTa u n (nI 1) (nI 8) (rNx u n x.2)).1.toInt64, (rTa u n (nI 1) (nI 8) (rNx u n x.2)).2)) = y := ⟨_, rfl⟩
  have hoy : rOk n y.2 := by
    rw [← hy]
    split
    · exact ho2
    · exact rTa_ok (rNx_ok ho2)
  have yk : ∀ k, k < 1390 → k ≠ 0 → k ≠ 1 → y.1 k = 0 := fun k q1 q2 q3 => by
    rw [← hy]
    split
    · exact (zwL_n q2).trans (oBeg_k q1 q3)
    · exact (zwL_n q3).trans ((zwL_n q2).trans (oBeg_k q1 q3))
  have yi : ∀ k, k < 1390 → k ≠ 0 → k ≠ 1 → its y.1 k = nI 0 ∧ gN y.1 k = 0 := fun k q1 q2 q3 => by
    have e : its y.1 k = nI 0 := by unfold its; rw [yk k q1 q2 q3]; decide
    exact ⟨e, by unfold gN; rw [e]; decide⟩
  have hoE : rOk n (rEn u n y.2) := rEn_ok hoy
  have hH : rHR u n (oBeg g) r0 y.1 (rEn u n y.2) := ⟨v1, r1, x, v3, y, hv1, h1, hx, hv3, hy, rfl, rfl, hoE⟩
  have hHb : (rEn u n y.2).2.2.2.2.1 = 0 → gBd y.1 := fun w => (head_RI hH w).1.1
  rw [hr0]
  refine w_X9_load_36 hl hmA huA hnA hn6 ho0 hv1 h1 hx hv3 hy ho1 ho2 ?_
  refine w_X9_load_87 hl hmA huA hnA hn6 hoy ?_
  have y2 := yi 2 (by omega) (by omega) (by omega)
  have y3 := yi 3 (by omega) (by omega) (by omega)
  have y5 := yi 5 (by omega) (by omega) (by omega)
  refine w_X9_load_91 hl hmA huA hnA hn6 hoE (by rw [y2.1, y2.2]) (by omega) (fun g2 r2 t2 => ?_)
  have f2 := rTR_fc t2 (by rw [y2.1, y2.2]) (by omega)
  have b2 := rTR_b t2 hHb (by rw [y2.1, y2.2]) (by omega) y3.2 y5.2
  have z3 : gN g2 3 = 0 := (gN_eq (b2.1 3 (by omega) (by omega))).trans y3.2
  have z5 : gN g2 5 = 0 := (gN_eq (b2.1 5 (by omega) (by omega))).trans y5.2
  refine w_X9_load_95 hl hmA huA hnA hn6 f2.1 f2.2.1 f2.2.2.1 (fun g3 r3 t3 => ?_)
  have f3 := rTR_fc t3 f2.2.1 f2.2.2.1
  have b3 := rTR_b t3 b2.2 f2.2.1 f2.2.2.1 z3 z5
  have e3 : gN g3 3 = 0 := (gN_eq (b3.1 3 (by omega) (by omega))).trans z3
  have e5 : gN g3 5 = 0 := (gN_eq (b3.1 5 (by omega) (by omega))).trans z5
  refine w_X9_load_99 hl hmA huA hnA hn6 100 g3 r3 f3.1 f3.2.1 f3.2.2.1 (by split <;> omega) (fun k9 g4 r4 t4 o4 p4 p8 => ?_)
  have b4 := rTs_b k9 g3 r3 t4 b3.2 f3.2.1 f3.2.2.1 e3 e5
  have q3 : g4 3 = y.1 3 := (b4.1 3 (by omega) (by omega)).trans ((b3.1 3 (by omega) (by omega)).trans (b2.1 3 (by omega) (by omega)))
  refine w_X9_load_115 hl hmA huA hnA hn6 100 g4 r4 o4 p4 p8 (by rw [its_eq q3, gN_eq q3, y3.1, y3.2]) (by rw [gN_eq q3]; omega) b4.2 (by split <;> omega) (fun k2 g5 r5 t5 o5 p5 p9 => ?_)
  obtain ⟨re, hre⟩ : ∃ re, (if r5.2.2.2.2.1 = 0 ∧ ¬ r5.2.2.1 = 3 then rFl r5 (-2) else r5) = re := ⟨_, rfl⟩
  have hL : rLd u n (oBeg g) (rTk u n (zsk u n (n - 0) 0) (0, w0)) g5 re := ⟨y.1, _, k9, g4, r4, k2, r5, by rw [hr0]; exact hH, ⟨g2, r2, t2, g3, r3, t3, t4⟩, t5, hre⟩
  refine w_X9_load_131 hl hmA huA hnA hn6 o5 hre ?_
  by_cases w : re.2.2.2.2.1 = 0
  · refine w_X9_load_152 hl hmA (e := -1) (if_pos w) ?_
    refine zS.mono (w_X9_load_171o hl hmA w hcA hc8 p5) (fun o M9 q9 => ?_)
    obtain ⟨rfl, rfl⟩ := q9
    exact ⟨w0, g5, re, ⟨hw0, hL⟩, Or.inr ⟨w, rfl, rfl⟩⟩
  · refine w_X9_load_152 hl hmA (e := re.2.2.2.2.2) (if_neg w) ?_
    refine zS.mono (w_X9_load_171w hl hmA w) (fun o M9 q9 => ?_)
    obtain ⟨rfl, rfl⟩ := q9
    exact ⟨w0, g5, re, ⟨hw0, hL⟩, Or.inl ⟨w, rfl, rfl⟩⟩
end
