/-! ===== constructors: the history, the class ===== -/
theorem rSt.cells {M M' : zMem} {s : Nat} {g : Nat → Int64} {p : Nat → Nat} (h : rSt M s g p) (e : ∀ b, s ≤ b → b < s + 77 → zK M' b = zK M b ∧ zN M' b = zN M b ∧ zI M' b = zI M b ∧ zJ M' b = zJ M b ∧ zR M' b = zR M b) : rSt M' s g p := by
  obtain ⟨⟨⟨a1, a2, a3, a4⟩, ⟨b1, b2⟩, ⟨c1, c2⟩, hv, ht, hq, hf, hj⟩, h2, h3, h4, h5, h6⟩ := h
  have kk := fun b q1 q2 => (e b q1 q2).1
  have nn := fun b q1 q2 => (e b q1 q2).2.1
  have ii := fun b q1 q2 => (e b q1 q2).2.2.1
  have jj := fun b q1 q2 => (e b q1 q2).2.2.2.1
  have rr := fun b q1 q2 => (e b q1 q2).2.2.2.2
  refine ⟨⟨⟨?_, ?_, ?_, ?_⟩, ⟨?_, ?_⟩, ⟨?_, ?_⟩, ?_, ?_, ?_, ?_, hj⟩, ?_, ?_, ?_, ?_, h6⟩
  · rw [kk s (by omega) (by omega)]; exact a1
  · rw [rr s (by omega) (by omega)]; exact a2
  · rw [rr s (by omega) (by omega)]; exact a3
  · rw [rr s (by omega) (by omega)]; exact a4
  · rw [kk (s + 1) (by omega) (by omega)]; exact b1
  · rw [nn (s + 1) (by omega) (by omega)]; exact b2
  · rw [kk (s + 2) (by omega) (by omega)]; exact c1
  · rw [nn (s + 2) (by omega) (by omega)]; exact c2
  · unfold vSh at *
    rw [kk (s + 3) (by omega) (by omega), kk (s + 3 + 1) (by omega) (by omega), nn (s + 3 + 1) (by omega) (by omega), rr (s + 3) (by omega) (by omega)]
    exact hv
  · intro t q
    have := ht t q
    unfold tSh at *
    rw [kk (s + 5 + 3 * t) (by omega) (by omega), kk (s + 5 + 3 * t + 1) (by omega) (by omega), kk (s + 5 + 3 * t + 2) (by omega) (by omega), nn (s + 5 + 3 * t + 1) (by omega) (by omega), nn (s + 5 + 3 * t + 2) (by omega) (by omega), rr (s + 1) (by omega) (by omega), rr (s + 5 + 3 * t) (by omega) (by omega)]
    exact this
  · intro t q
    have := hq t q
    unfold rSh at *
    rw [kk (s + 17 + 3 * t) (by omega) (by omega), kk (s + 17 + 3 * t + 1) (by omega) (by omega), kk (s + 17 + 3 * t + 2) (by omega) (by omega), nn (s + 17 + 3 * t + 1) (by omega) (by omega), nn (s + 17 + 3 * t + 2) (by omega) (by omega), rr (s + 17 + 3 * t) (by omega) (by omega)]
    exact this
  · intro f q
    rw [rr (s + 2) (by omega) (by omega)]
    exact hf f q
  · unfold rHd at *
    rw [ii s (by omega) (by omega)]
    exact h2
  · unfold rMv at *
    rw [ii (s + 3) (by omega) (by omega), ii (s + 3 + 1) (by omega) (by omega)]
    exact h3
  · intro t q
    have hb := h6.2.1.2
    exact (h4 t q).keep (fun b q1 q2 => ⟨ii b (by omega) (by omega), jj b (by omega) (by omega)⟩) (fun _ _ => rfl) (fun _ _ => rfl)
  · intro f q
    have hb := h6.2.2.1.2
    have hp := (hf f (by omega)).2
    exact (h5 f q).keep (h6.2.2.2.2.2.1 f q).2.2 (fun b q1 q2 => ⟨ii b (by omega) (by omega), jj b (by omega) (by omega)⟩) (fun _ _ => rfl)
/-- a history that is being made: i stores of its ring stand -/
def hB (M0 M' : zMem) (i : Nat) : Prop := zT M' = 14 + 77 * i ∧ zF M' = 0 ∧ zEq M0 M' 12 ∧ zK M' 12 = 2 ∧ zR M' 12 2 = some 13 ∧ zK M' 13 = 14 + 1 ∧ zN M' 13 = 8 ∧ zI M' 12 0 = nI 0 ∧ zI M' 12 1 = nI 0 ∧ (∀ j, j < i → zR M' 13 j = some (14 + 77 * j) ∧ rSt M' (14 + 77 * j) gI0 (fun q => q))
theorem hB.next {M0 M M2 : zMem} {i : Nat} (h : hB M0 M i) (T2 : zT M2 = 14 + 77 * i + 77) (F2 : zF M2 = 0) (E2 : zEq (znw M 6 0) M2 (14 + 77 * i)) (P2 : rSt M2 (14 + 77 * i) gI0 (fun q => q)) : hB M0 (zsR M2 13 i (some (14 + 77 * i))) (i + 1) := by
  obtain ⟨h1, h2, h3, h4, h5, h6, h7, h8, h9, h10⟩ := h
  have S := stepR (k := i) (n := 0) (show zT M = 14 + 77 * i by omega) E2 (show 13 < 14 + 77 * i by omega)
  refine ⟨by show zT M2 = _; omega, F2, fun b hb => ?_, ?_, ?_, ?_, ?_, ?_, ?_, fun j q => ?_⟩
  · obtain ⟨q1, q2, q3, q4, -, q6⟩ := S b (by omega)
    obtain ⟨r1, r2, r3, r4, r5⟩ := h3 b hb
    exact ⟨q1.trans r1, q2.trans r2, q3.trans r3, q6.trans r4, (q4 (by omega)).trans r5⟩
  · exact (S 12 (by omega)).1.trans h4
  · rw [(S 12 (by omega)).2.2.2.1 (by omega)]; exact h5
  · exact (S 13 (by omega)).1.trans h6
  · exact (S 13 (by omega)).2.1.trans h7
  · rw [(S 12 (by omega)).2.2.1]; exact h8
  · rw [(S 12 (by omega)).2.2.1]; exact h9
  · by_cases q2 : j = i
    · subst q2
      refine ⟨by rw [sr_R, if_pos rfl, if_pos rfl], P2.cells fun b q1 q2 => ⟨rfl, rfl, rfl, rfl, if_neg (by omega)⟩⟩
    · obtain ⟨q3, q4⟩ := h10 j (by omega)
      refine ⟨by rw [(S 13 (by omega)).2.2.2.2.1 j q2]; exact q3, q4.cells fun b q1 q2 => ?_⟩
      obtain ⟨z1, z2, z3, z4, -, z6⟩ := S b (by omega)
      exact ⟨z1, z2, z3, z6, z4 (by omega)⟩
section
variable {l : Launch} {G : zG}
theorem w_X1_init_25 (hl : l.stackTraces = false) {M0 : zMem} : ∀ (k i : Nat) (M : zMem), hB M0 M i → i ≤ 8 → 8 - i < k → zS l G mX1_init 5 130 (77 * (8 - i)) (1298 * (8 - i)) 25 [some (.ref 12), some (.int (nI i))] [] M (zNq M0 12 618 (fun M' => hB M0 M' 8)) := by
  intro k
  induction k with
  | zero => intros; omega
  | succ k ih =>
    intro i M hB1 hi hk
    refine s_iload_n (zdk hX1_init 14 rfl) rfl ?_
    refine s_bipushv (v := nI 8) (zdk hX1_init 15 rfl) zc_bipush_8 ?_
    refine s_icmp_ge 50 (zdk hX1_init 16 rfl) (by decide) (fun c => ?_) (fun c => ?_)
    · have n1 : 8 ≤ i := nle c (by omega) (by omega)
      obtain rfl : i = 8 := by omega
      refine s_return (zdk hX1_init 26 rfl) rfl ?_
      exact ⟨rfl, hB1.1, hB1.2.1, hB1.2.2.1, hB1⟩
    · have n1 : i < 8 := nlt c (by omega) (by omega)
      have hT9 := hB1.1
      refine s_aload_n (zdk hX1_init 17 rfl) rfl ?_
      refine s_getR (zdk hX1_init 18 rfl) fw_X1_20 rfl hB1.2.2.2.1 (show _ = some 13 from hB1.2.2.2.2.1) ?_
      refine s_iload_n (zdk hX1_init 19 rfl) rfl ?_
      refine zS.le (fr' := 0) (lo' := 0) (bc' := 77 * (8 - (i + 1)) + 76 + 1) (bs' := 1298 * (8 - (i + 1)) + 1290 + 8) (by omega) (by omega) ?_
      refine s_new (bc := 77 * (8 - (i + 1)) + 76) (bs := 1298 * (8 - (i + 1)) + 1290) (ci := 5) (zdk hX1_init 20 rfl) nk_X1_18 hB1.2.1 (by omega) ?_
      refine s_topr (b := 14 + 77 * i) (by omega) ?_
      refine s_dupr (zdk hX1_init 21 rfl) ?_
      refine s_callIb (bc := 77 * (8 - (i + 1))) (bs := 1298 * (8 - (i + 1))) (mc := 76) (ms := 1290) [] (zdk hX1_init 22 rfl) cw_X1_24 rfl (Nat.le_of_ble_eq_true rfl) (by decide) (c_X5_init hl (M := znw M 6 0) (s := 14 + 77 * i) (if_pos (by omega)) (by show zT M + 1 = _; omega) hB1.2.1 (by omega)) (fun v M2 q2 => ?_)
      obtain ⟨q3, T2, F2, E2, P2⟩ := q2
      cases q3
      have eO := E2 13 (by omega)
      have eN := zEq_n (M := M) (kd := 6) (n := 0) (a := 14 + 77 * i) (by omega) 13 (by omega)
      refine s_aastoreN (N := 8) (j := i) (q := 1) (ci := 5) (zdk hX1_init 23 rfl) ((eO.1.trans eN.1).trans hB1.2.2.2.2.2.1) P2.K (by decide) rfl (fun _ => rfl) ((eO.2.1.trans eN.2.1).trans hB1.2.2.2.2.2.2.1) n1 (by decide) ?_
      refine s_iinc (r := nI (i + 1)) (zdk hX1_init 24 rfl) (Nat.le_of_ble_eq_true rfl) rfl (nI_1 _) ?_
      refine s_ls (ls' := [some (.ref 12), some (.int (nI (i + 1)))]) rfl ?_
      refine s_goto 25 (zdk hX1_init 25 rfl) (by decide) ?_
      exact ih (i + 1) _ (hB1.next T2 F2 E2 P2) (by omega) (by omega)
theorem c_X1_init (hl : l.stackTraces = false) {M : zMem} (hK : zK M 12 = 2) (hT : zT M = 13) (hF : zF M = 0) : zCm l G mX1_init 5 130 617 10392 [.ref 12] M (zNq M 12 618 (fun M' => hB M M' 8)) := by
  refine zNq.of (ls0 := [some (.ref 12), none]) (by decide +kernel) rfl hl rfl (Nat.le_of_ble_eq_true rfl) hT hF rfl ?_
  refine s_aload_n (zdk hX1_init 0 rfl) rfl ?_
  refine s_objInit (zdk hX1_init 1 rfl) ow_X1_3 ow_ins ow_code (by decide) (by decide) ?_
  refine s_aload_n (zdk hX1_init 2 rfl) rfl ?_
  refine s_iconstv (v := nI 0) (zdk hX1_init 3 rfl) zc_iconst_0 ?_
  refine s_putI (zdk hX1_init 4 rfl) fw_X1_9 rfl pw_1_0 hK ?_
  refine s_aload_n (zdk hX1_init 5 rfl) rfl ?_
  refine s_iconstv (v := nI 0) (zdk hX1_init 6 rfl) zc_iconst_0 ?_
  refine s_putI (zdk hX1_init 7 rfl) fw_X1_15 rfl pw_1_1 hK ?_
  refine s_aload_n (zdk hX1_init 8 rfl) rfl ?_
  refine s_bipushv (v := nI 8) (zdk hX1_init 9 rfl) zc_bipush_8 ?_
  refine s_anew (bc := 616) (bs := 10384) (N := 8) (j := 1) (C := RX5) (zdk hX1_init 10 rfl) clw_X1_18 ao_5 (fun _ => rfl) (by decide) (by decide) (by decide) hF (show zT M < 1000000 from by omega) ?_
  refine s_topr (b := 13) (show zT M = 13 from hT) ?_
  refine s_putRF (zdk hX1_init 11 rfl) fw_X1_20 rfl pw_1_2 rfl rfl (fun _ => rfl) (fun _ => rfl) (by simp +arith [nw_K, nw_N, nw_R, nw_I, nw_T, sr_R, si_I, si_K, si_N, si_T, si_R, sj_K, sj_N, sj_T, sj_R, sj_I, sr_K, sr_N, sr_T, sr_I, hT, hK]) ?_
  refine s_iconstv (v := nI 0) (zdk hX1_init 12 rfl) zc_iconst_0 ?_
  refine s_istore_n (zdk hX1_init 13 rfl) (Nat.le_of_ble_eq_true rfl) ?_
  refine s_ls (ls' := [some (.ref 12), some (.int (nI 0))]) rfl ?_
  refine w_X1_init_25 hl 9 0 _ ⟨by show zT M + 1 = _; omega, hF, ((((zEq.refl _ _).trans (zEq_I (by omega))).trans (zEq_I (by omega))).trans (zEq_n (by simp only [nw_T, si_T, sj_T, sr_T, hT]; omega))).trans (zEq_R (by omega)), ?_, ?_, ?_, ?_, ?_, ?_, fun j q => by omega⟩ (by omega) (by omega)
  all_goals simp +arith [nw_K, nw_N, nw_R, nw_I, nw_T, sr_R, si_I, si_K, si_N, si_T, si_R, sj_K, sj_N, sj_T, sj_R, sj_I, sr_K, sr_N, sr_T, sr_I, hT, hK]
end
