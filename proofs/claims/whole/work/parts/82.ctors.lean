/-! ===== constructors: a store, the history ===== -/
def gI0 : Nat → Int64 := fun k => if k = 0 then (nI 2).toInt64 else if k = 1 then (nI 4).toInt64 else 0
/-- a store that is being made at s: its tiers' rows below i, its files' rows below j -/
def sB (M0 M' : zMem) (s i j : Nat) : Prop := zT M' = s + 5 + 3 * i + 3 * j ∧ zF M' = 0 ∧ zEq M0 M' s ∧ (zK M' s = 6 ∧ zR M' s 5 = some (s + 1) ∧ zR M' s 6 = some (s + 2) ∧ zR M' s 7 = some (s + 3)) ∧ (zK M' (s + 1) = 14 + 2 ∧ zN M' (s + 1) = 4) ∧ (zK M' (s + 2) = 14 + 0 ∧ zN M' (s + 2) = 20) ∧ vSh M' (s + 3)
  ∧ (zI M' s 0 = nI 2 ∧ zI M' s 1 = nI 4 ∧ zI M' s 2 = nI 0 ∧ zI M' s 3 = nI 0 ∧ zI M' s 4 = nI 0 ∧ zI M' (s + 3) 0 = nI 0) ∧ (∀ t, t < i → zR M' (s + 1) t = some (s + 5 + 3 * t) ∧ tSh M' (s + 5 + 3 * t)) ∧ (∀ q, q < j → zR M' (s + 2) q = some (s + 17 + 3 * q) ∧ rSh M' (s + 17 + 3 * q))
/-- a new cell, its constructor, its place in a row -/
theorem stepR {M M2 : zMem} {kd a n c k : Nat} (hT : zT M = a) (e : zEq (znw M kd 0) M2 a) (hc : c < a) (b : Nat) (hb : b < a) :
    zK (zsR M2 c k (some a)) b = zK M b ∧ zN (zsR M2 c k (some a)) b = zN M b ∧ zI (zsR M2 c k (some a)) b = zI M b ∧ (b ≠ c → zR (zsR M2 c k (some a)) b = zR M b) ∧ (∀ j, j ≠ k → zR (zsR M2 c k (some a)) b j = zR M b j) ∧ zJ (zsR M2 c k (some a)) b = zJ M b := by
  obtain ⟨e1, e2, e3, e4, e5⟩ := e b hb
  obtain ⟨f1, f2, f3, f4, f5⟩ := zEq_n (M := M) (kd := kd) (n := 0) (a := a) (by omega) b hb
  refine ⟨e1.trans f1, e2.trans f2, e3.trans f3, fun h => (if_neg h).trans (e5.trans f5), fun j hj => ?_, e4.trans f4⟩
  rw [sr_R]
  by_cases h : b = c
  · subst h
    rw [if_pos rfl, if_neg hj]
    exact congrFun (e5.trans f5) j
  · rw [if_neg h]
    exact congrFun (e5.trans f5) j
theorem sB.tier {M0 M M2 : zMem} {s i : Nat} (h : sB M0 M s i 0) (T2 : zT M2 = s + 5 + 3 * i + 3) (F2 : zF M2 = 0) (E2 : zEq (znw M 7 0) M2 (s + 5 + 3 * i)) (P2 : tSh M2 (s + 5 + 3 * i)) : sB M0 (zsR M2 (s + 1) i (some (s + 5 + 3 * i))) s (i + 1) 0 := by
  obtain ⟨h1, h2, h3, ⟨a1, a2, a3, a4⟩, ⟨b1, b2⟩, ⟨c1, c2⟩, hv, ⟨d1, d2, d3, d4, d5, d6⟩, ht, hq⟩ := h
  have S := stepR (k := i) (n := 0) (show zT M = s + 5 + 3 * i by omega) E2 (show s + 1 < s + 5 + 3 * i by omega)
  refine ⟨by show zT M2 = _; omega, F2, fun b hb => ?_, ⟨?_, ?_, ?_, ?_⟩, ⟨?_, ?_⟩, ⟨?_, ?_⟩, ?_, ⟨?_, ?_, ?_, ?_, ?_, ?_⟩, fun t q => ?_, fun q hq => by omega⟩
  · obtain ⟨q1, q2, q3, q4, -, q6⟩ := S b (by omega)
    obtain ⟨r1, r2, r3, r4, r5⟩ := h3 b hb
    exact ⟨q1.trans r1, q2.trans r2, q3.trans r3, q6.trans r4, (q4 (by omega)).trans r5⟩
  · exact (S s (by omega)).1.trans a1
  · rw [(S s (by omega)).2.2.2.1 (by omega)]; exact a2
  · rw [(S s (by omega)).2.2.2.1 (by omega)]; exact a3
  · rw [(S s (by omega)).2.2.2.1 (by omega)]; exact a4
  · exact (S (s + 1) (by omega)).1.trans b1
  · exact (S (s + 1) (by omega)).2.1.trans b2
  · exact (S (s + 2) (by omega)).1.trans c1
  · exact (S (s + 2) (by omega)).2.1.trans c2
  · unfold vSh at *
    rw [(S (s + 3) (by omega)).1, (S (s + 3 + 1) (by omega)).1, (S (s + 3 + 1) (by omega)).2.1, (S (s + 3) (by omega)).2.2.2.1 (by omega)]
    exact hv
  · rw [(S s (by omega)).2.2.1]; exact d1
  · rw [(S s (by omega)).2.2.1]; exact d2
  · rw [(S s (by omega)).2.2.1]; exact d3
  · rw [(S s (by omega)).2.2.1]; exact d4
  · rw [(S s (by omega)).2.2.1]; exact d5
  · rw [(S (s + 3) (by omega)).2.2.1]; exact d6
  · by_cases q2 : t = i
    · subst q2
      refine ⟨by rw [sr_R, if_pos rfl, if_pos rfl], ?_⟩
      obtain ⟨p1, p2, p3, p4, p5, p6, p7⟩ := P2
      have : s + 5 + 3 * t ≠ s + 1 := by omega
      refine ⟨p1, by rw [sr_R, if_neg this]; exact p2, by rw [sr_R, if_neg this]; exact p3, p4, p5, p6, p7⟩
    · obtain ⟨q3, q4⟩ := ht t (by omega)
      refine ⟨by rw [(S (s + 1) (by omega)).2.2.2.2.1 t q2]; exact q3, ?_⟩
      unfold tSh at *
      rw [(S _ (by omega)).1, (S _ (by omega)).2.2.2.1 (by omega), (S (s + 5 + 3 * t + 1) (by omega)).1, (S (s + 5 + 3 * t + 1) (by omega)).2.1, (S (s + 5 + 3 * t + 2) (by omega)).1, (S (s + 5 + 3 * t + 2) (by omega)).2.1]
      exact q4
theorem sB.file {M0 M M2 : zMem} {s j : Nat} (h : sB M0 M s 4 j) (T2 : zT M2 = s + 17 + 3 * j + 3) (F2 : zF M2 = 0) (E2 : zEq (znw M 1 0) M2 (s + 17 + 3 * j)) (P2 : rSh M2 (s + 17 + 3 * j)) : sB M0 (zsR M2 (s + 2) j (some (s + 17 + 3 * j))) s 4 (j + 1) := by
  obtain ⟨h1, h2, h3, ⟨a1, a2, a3, a4⟩, ⟨b1, b2⟩, ⟨c1, c2⟩, hv, ⟨d1, d2, d3, d4, d5, d6⟩, ht, hq⟩ := h
  have S := stepR (k := j) (n := 0) (show zT M = s + 17 + 3 * j by omega) E2 (show s + 2 < s + 17 + 3 * j by omega)
  refine ⟨by show zT M2 = _; omega, F2, fun b hb => ?_, ⟨?_, ?_, ?_, ?_⟩, ⟨?_, ?_⟩, ⟨?_, ?_⟩, ?_, ⟨?_, ?_, ?_, ?_, ?_, ?_⟩, fun t q => ?_, fun t q => ?_⟩
  · obtain ⟨q1, q2, q3, q4, -, q6⟩ := S b (by omega)
    obtain ⟨r1, r2, r3, r4, r5⟩ := h3 b hb
    exact ⟨q1.trans r1, q2.trans r2, q3.trans r3, q6.trans r4, (q4 (by omega)).trans r5⟩
  · exact (S s (by omega)).1.trans a1
  · rw [(S s (by omega)).2.2.2.1 (by omega)]; exact a2
  · rw [(S s (by omega)).2.2.2.1 (by omega)]; exact a3
  · rw [(S s (by omega)).2.2.2.1 (by omega)]; exact a4
  · exact (S (s + 1) (by omega)).1.trans b1
  · exact (S (s + 1) (by omega)).2.1.trans b2
  · exact (S (s + 2) (by omega)).1.trans c1
  · exact (S (s + 2) (by omega)).2.1.trans c2
  · unfold vSh at *
    rw [(S (s + 3) (by omega)).1, (S (s + 3 + 1) (by omega)).1, (S (s + 3 + 1) (by omega)).2.1, (S (s + 3) (by omega)).2.2.2.1 (by omega)]
    exact hv
  · rw [(S s (by omega)).2.2.1]; exact d1
  · rw [(S s (by omega)).2.2.1]; exact d2
  · rw [(S s (by omega)).2.2.1]; exact d3
  · rw [(S s (by omega)).2.2.1]; exact d4
  · rw [(S s (by omega)).2.2.1]; exact d5
  · rw [(S (s + 3) (by omega)).2.2.1]; exact d6
  · obtain ⟨q3, q4⟩ := ht t q
    refine ⟨by rw [(S (s + 1) (by omega)).2.2.2.1 (by omega)]; exact q3, ?_⟩
    unfold tSh at *
    rw [(S _ (by omega)).1, (S _ (by omega)).2.2.2.1 (by omega), (S (s + 5 + 3 * t + 1) (by omega)).1, (S (s + 5 + 3 * t + 1) (by omega)).2.1, (S (s + 5 + 3 * t + 2) (by omega)).1, (S (s + 5 + 3 * t + 2) (by omega)).2.1]
    exact q4
  · by_cases q2 : t = j
    · subst q2
      refine ⟨by rw [sr_R, if_pos rfl, if_pos rfl], ?_⟩
      obtain ⟨p1, p2, p3, p4, p5, p6, p7⟩ := P2
      have : s + 17 + 3 * t ≠ s + 2 := by omega
      refine ⟨p1, by rw [sr_R, if_neg this]; exact p2, by rw [sr_R, if_neg this]; exact p3, p4, p5, p6, p7⟩
    · obtain ⟨q3, q4⟩ := hq t (by omega)
      refine ⟨by rw [(S (s + 2) (by omega)).2.2.2.2.1 t q2]; exact q3, ?_⟩
      unfold rSh at *
      rw [(S _ (by omega)).1, (S _ (by omega)).2.2.2.1 (by omega), (S (s + 17 + 3 * t + 1) (by omega)).1, (S (s + 17 + 3 * t + 1) (by omega)).2.1, (S (s + 17 + 3 * t + 2) (by omega)).1, (S (s + 17 + 3 * t + 2) (by omega)).2.1]
      exact q4
theorem gI0_b : gBd gI0 := by
  refine ⟨⟨by decide, by decide, by decide⟩, ⟨by decide, by decide⟩, ⟨by decide, by decide⟩, ⟨by decide, by decide⟩, ⟨by decide, by decide⟩, fun f hf => absurd hf (by rw [show gN gI0 3 = 0 by decide]; omega), fun w hw => absurd hw (by rw [show gN gI0 5 = 0 by decide]; omega)⟩
theorem sB.st {M0 M : zMem} {s : Nat} (h : sB M0 M s 4 20) : rSt M s gI0 (fun q => q) := by
  obtain ⟨h1, h2, h3, ⟨a1, a2, a3, a4⟩, ⟨b1, b2⟩, ⟨c1, c2⟩, hv, ⟨d1, d2, d3, d4, d5, d6⟩, ht, hq⟩ := h
  refine ⟨⟨⟨a1, a2, a3, a4⟩, ⟨b1, b2⟩, ⟨c1, c2⟩, hv, ht, fun q hq2 => (hq q hq2).2, fun f hf => ⟨(hq f hf).1, hf⟩, fun f f' _ _ e => e⟩, ⟨d1.trans (by decide), d2.trans (by decide), d3.trans (by decide), d4.trans (by decide), d5.trans (by decide)⟩, ⟨d6.trans (by decide), fun w hw => absurd hw (by rw [show gN gI0 5 = 0 by decide]; omega)⟩, fun t ht => absurd ht (by rw [show gN gI0 2 = 0 by decide]; omega), fun f hf => absurd hf (by rw [show gN gI0 3 = 0 by decide]; omega), gI0_b⟩
section
variable {l : Launch} {G : zG} {y z : zMD} {fr lo fr1 lo1 mc ms bc bs pc i n : Nat} {ls : List (Option Value)} {st : List Value} {as : List Value} {M : zMem} {Q Q1 : zOut → zMem → Prop}
theorem s_callINb {a : Nat} {host : String} (as : List Value) (hd : decode (yC y) pc = .ok (.invokespecial i, 3)) (hw : zciN (yN y).cls i z host n) (hn : as.length = n) (hst : (st.map fun v => v.category).sum ≤ 8) (hrm : fr1 + 1 ≤ fr ∧ 8 + (yL z + 11) + lo1 ≤ lo)
    (hM : zCm l G z fr1 lo1 mc ms (.ref a :: as) M Q1) (kk : ∀ (v : Option Value) (M1 : zMem), Q1 (.inl v) M1 → zS l G y fr lo bc bs (pc + 3) ls (v.toList ++ st) M1 Q) :
    zS l G y fr lo (bc + mc) (bs + ms) pc ls (as.reverse ++ .ref a :: st) M Q := by
  have h := s_callIN (bc := bc) (bs := bs) hd hw hn hst hrm hM kk
  rw [Nat.add_comm mc, Nat.add_comm ms] at h
  exact h
theorem s_callIb {a : Nat} (as : List Value) (hd : decode (yC y) pc = .ok (.invokespecial i, 3)) (hw : zci (yN y).cls i z n) (hn : as.length = n) (hst : (st.map fun v => v.category).sum ≤ 8) (hrm : fr1 + 1 ≤ fr ∧ 8 + (yL z + 11) + lo1 ≤ lo)
    (hM : zCm l G z fr1 lo1 mc ms (.ref a :: as) M Q1) (kk : ∀ (v : Option Value) (M1 : zMem), Q1 (.inl v) M1 → zS l G y fr lo bc bs (pc + 3) ls (v.toList ++ st) M1 Q) :
    zS l G y fr lo (bc + mc) (bs + ms) pc ls (as.reverse ++ .ref a :: st) M Q := by
  have h := s_callI (bc := bc) (bs := bs) hd hw hn hst hrm hM kk
  rw [Nat.add_comm mc, Nat.add_comm ms] at h
  exact h
end
section
variable {l : Launch} {G : zG}
theorem w_X5_init_85 (hl : l.stackTraces = false) {M0 : zMem} {s : Nat} (hs : s < 90000) {Q : zOut → zMem → Prop} (kk : ∀ M, sB M0 M s 4 20 → zS l G mX5_init 4 100 0 0 110 [some (.ref s), some (.int (nI 20))] [] M Q) : ∀ (k i : Nat) (M : zMem), sB M0 M s 4 i → i ≤ 20 → 20 - i < k → zS l G mX5_init 4 100 (3 * (20 - i) + 0) (46 * (20 - i) + 0) 85 [some (.ref s), some (.int (nI i))] [] M Q := by
  intro k
  induction k with
  | zero => intros; omega
  | succ k ih =>
    intro i M hB hi hk
    refine s_iload_n (zdk hX5_init 46 rfl) rfl ?_
    refine s_bipushv (v := nI 20) (zdk hX5_init 47 rfl) zc_bipush_20 ?_
    refine s_icmp_ge 110 (zdk hX5_init 48 rfl) (by decide) (fun c => ?_) (fun c => ?_)
    · have n1 : 20 ≤ i := nle c (by omega) (by omega)
      obtain rfl : i = 20 := by omega
      refine zS.le (fr' := 0) (lo' := 0) (bc' := 0) (bs' := 0) (by omega) (by omega) ?_
      exact kk M hB
    · have n1 : i < 20 := nlt c (by omega) (by omega)
      refine s_aload_n (zdk hX5_init 49 rfl) rfl ?_
      refine s_getR (zdk hX5_init 50 rfl) fw_X5_35 rfl (hB.2.2.2.1.1) (show _ = some (s + 2) from hB.2.2.2.1.2.2.1) ?_
      refine s_iload_n (zdk hX5_init 51 rfl) rfl ?_
      refine zS.le (fr' := 0) (lo' := 0) (bc' := 3 * (20 - (i + 1)) + 0 + 2 + 1) (bs' := 46 * (20 - (i + 1)) + 0 + 36 + 10) (by omega) (by omega) ?_
      refine s_new (bc := 3 * (20 - (i + 1)) + 0 + 2) (bs := 46 * (20 - (i + 1)) + 0 + 36) (ci := 0) (zdk hX5_init 52 rfl) nk_X5_33 hB.2.1 (by have := hB.1; omega) ?_
      refine s_topr (b := s + 17 + 3 * i) (by have := hB.1; omega) ?_
      refine s_dupr (zdk hX5_init 53 rfl) ?_
      refine s_callINb (bc := 3 * (20 - (i + 1)) + 0) (bs := 46 * (20 - (i + 1)) + 0) (mc := 2) (ms := 36) [] (zdk hX5_init 54 rfl) cw_X5_47 rfl (Nat.le_of_ble_eq_true rfl) (by decide) (c_X0_init hl (M := znw M 1 0) (a := s + 17 + 3 * i) (by have := hB.1; exact if_pos (by omega)) (by have := hB.1; show zT M + 1 = _; omega) hB.2.1 (by omega)) (fun v M2 q2 => ?_)
      obtain ⟨q3, T2, F2, E2, P2⟩ := q2
      cases q3
      have eO := E2 (s + 2) (by omega)
      have eN := zEq_n (M := M) (kd := 1) (n := 0) (a := s + 17 + 3 * i) (by have := hB.1; omega) (s + 2) (by omega)
      refine s_aastoreN (N := 20) (j := i) (q := 0) (ci := 0) (zdk hX5_init 55 rfl) ((eO.1.trans eN.1).trans hB.2.2.2.2.2.1.1) P2.1 (by decide) rfl (fun _ => rfl) ((eO.2.1.trans eN.2.1).trans hB.2.2.2.2.2.1.2) n1 (by decide) ?_
      refine s_iinc (r := nI (i + 1)) (zdk hX5_init 56 rfl) (Nat.le_of_ble_eq_true rfl) rfl (nI_1 _) ?_
      refine s_ls (ls' := [some (.ref s), some (.int (nI (i + 1)))]) rfl ?_
      refine s_goto 85 (zdk hX5_init 57 rfl) (by decide) ?_
      exact ih (i + 1) _ (hB.file T2 F2 E2 P2) (by omega) (by omega)
theorem w_X5_init_59 (hl : l.stackTraces = false) {M0 : zMem} {s : Nat} (hs : s < 90000) {Q : zOut → zMem → Prop} (kk : ∀ M, sB M0 M s 4 0 → zS l G mX5_init 4 100 60 920 83 [some (.ref s), some (.int (nI 4))] [] M Q) : ∀ (k i : Nat) (M : zMem), sB M0 M s i 0 → i ≤ 4 → 4 - i < k → zS l G mX5_init 4 100 (3 * (4 - i) + 60) (11 * (4 - i) + 920) 59 [some (.ref s), some (.int (nI i))] [] M Q := by
  intro k
  induction k with
  | zero => intros; omega
  | succ k ih =>
    intro i M hB hi hk
    refine s_iload_n (zdk hX5_init 32 rfl) rfl ?_
    refine s_iconstv (v := nI 4) (zdk hX5_init 33 rfl) zc_iconst_4 ?_
    refine s_icmp_ge 83 (zdk hX5_init 34 rfl) (by decide) (fun c => ?_) (fun c => ?_)
    · have n1 : 4 ≤ i := nle c (by omega) (by omega)
      obtain rfl : i = 4 := by omega
      refine zS.le (fr' := 0) (lo' := 0) (bc' := 60) (bs' := 920) (by omega) (by omega) ?_
      exact kk M hB
    · have n1 : i < 4 := nlt c (by omega) (by omega)
      refine s_aload_n (zdk hX5_init 35 rfl) rfl ?_
      refine s_getR (zdk hX5_init 36 rfl) fw_X5_29 rfl (hB.2.2.2.1.1) (show _ = some (s + 1) from hB.2.2.2.1.2.1) ?_
      refine s_iload_n (zdk hX5_init 37 rfl) rfl ?_
      refine zS.le (fr' := 0) (lo' := 0) (bc' := 3 * (4 - (i + 1)) + 60 + 2 + 1) (bs' := 11 * (4 - (i + 1)) + 920 + 8 + 3) (by omega) (by omega) ?_
      refine s_new (bc := 3 * (4 - (i + 1)) + 60 + 2) (bs := 11 * (4 - (i + 1)) + 920 + 8) (ci := 6) (zdk hX5_init 38 rfl) nk_X5_27 hB.2.1 (by have := hB.1; omega) ?_
      refine s_topr (b := s + 5 + 3 * i) (by have := hB.1; omega) ?_
      refine s_dupr (zdk hX5_init 39 rfl) ?_
      refine s_callINb (bc := 3 * (4 - (i + 1)) + 60) (bs := 11 * (4 - (i + 1)) + 920) (mc := 2) (ms := 8) [] (zdk hX5_init 40 rfl) cw_X5_46 rfl (Nat.le_of_ble_eq_true rfl) (by decide) (c_X6_init hl (M := znw M 7 0) (a := s + 5 + 3 * i) (by have := hB.1; exact if_pos (by omega)) (by have := hB.1; show zT M + 1 = _; omega) hB.2.1 (by omega)) (fun v M2 q2 => ?_)
      obtain ⟨q3, T2, F2, E2, P2⟩ := q2
      cases q3
      have eO := E2 (s + 1) (by omega)
      have eN := zEq_n (M := M) (kd := 7) (n := 0) (a := s + 5 + 3 * i) (by have := hB.1; omega) (s + 1) (by omega)
      refine s_aastoreN (N := 4) (j := i) (q := 2) (ci := 6) (zdk hX5_init 41 rfl) ((eO.1.trans eN.1).trans hB.2.2.2.2.1.1) P2.1 (by decide) rfl (fun _ => rfl) ((eO.2.1.trans eN.2.1).trans hB.2.2.2.2.1.2) n1 (by decide) ?_
      refine s_iinc (r := nI (i + 1)) (zdk hX5_init 42 rfl) (Nat.le_of_ble_eq_true rfl) rfl (nI_1 _) ?_
      refine s_ls (ls' := [some (.ref s), some (.int (nI (i + 1)))]) rfl ?_
      refine s_goto 59 (zdk hX5_init 43 rfl) (by decide) ?_
      exact ih (i + 1) _ (hB.tier T2 F2 E2 P2) (by omega) (by omega)
theorem c_X5_init (hl : l.stackTraces = false) {M : zMem} {s : Nat} (hK : zK M s = 6) (hT : zT M = s + 1) (hF : zF M = 0) (hs : s < 90000) : zCm l G mX5_init 4 100 76 1290 [.ref s] M (zNq M s 77 (fun M' => rSt M' s gI0 (fun q => q))) := by
  refine zNq.of (ls0 := [some (.ref s), none]) (by decide +kernel) rfl hl rfl (Nat.le_of_ble_eq_true rfl) hT hF rfl ?_
  refine s_aload_n (zdk hX5_init 0 rfl) rfl ?_
  refine s_objInit (zdk hX5_init 1 rfl) ow_X5_3 ow_ins ow_code (by decide) (by decide) ?_
  refine s_aload_n (zdk hX5_init 2 rfl) rfl ?_
  refine s_iconstv (v := nI 2) (zdk hX5_init 3 rfl) zc_iconst_2 ?_
  refine s_putI (zdk hX5_init 4 rfl) fw_X5_9 rfl pw_5_0 hK ?_
  refine s_aload_n (zdk hX5_init 5 rfl) rfl ?_
  refine s_iconstv (v := nI 4) (zdk hX5_init 6 rfl) zc_iconst_4 ?_
  refine s_putI (zdk hX5_init 7 rfl) fw_X5_15 rfl pw_5_1 hK ?_
  refine s_aload_n (zdk hX5_init 8 rfl) rfl ?_
  refine s_iconstv (v := nI 0) (zdk hX5_init 9 rfl) zc_iconst_0 ?_
  refine s_putI (zdk hX5_init 10 rfl) fw_X5_18 rfl pw_5_2 hK ?_
  refine s_aload_n (zdk hX5_init 11 rfl) rfl ?_
  refine s_iconstv (v := nI 0) (zdk hX5_init 12 rfl) zc_iconst_0 ?_
  refine s_putI (zdk hX5_init 13 rfl) fw_X5_21 rfl pw_5_3 hK ?_
  refine s_aload_n (zdk hX5_init 14 rfl) rfl ?_
  refine s_iconstv (v := nI 0) (zdk hX5_init 15 rfl) zc_iconst_0 ?_
  refine s_putI (zdk hX5_init 16 rfl) fw_X5_24 rfl pw_5_4 hK ?_
  refine s_aload_n (zdk hX5_init 17 rfl) rfl ?_
  refine s_iconstv (v := nI 4) (zdk hX5_init 18 rfl) zc_iconst_4 ?_
  refine s_anew (N := 4) (j := 2) (C := RX6) (zdk hX5_init 19 rfl) clw_X5_27 ao_6 (fun _ => rfl) (by decide) (by decide) (by decide) hF (show zT M + 0 < 1000000 from by omega) ?_
  refine s_topr (b := (s + 1)) (show zT M + 0 = (s + 1) from by omega) ?_
  refine s_putRF (zdk hX5_init 20 rfl) fw_X5_29 rfl pw_5_5 rfl rfl (fun _ => rfl) (fun _ => rfl) (by simp +arith [nw_K, nw_N, nw_R, nw_I, nw_T, sr_R, si_I, si_K, si_N, si_T, si_R, sj_K, sj_N, sj_T, sj_R, sj_I, sr_K, sr_N, sr_T, sr_I, hT, hK]) ?_
  refine s_aload_n (zdk hX5_init 21 rfl) rfl ?_
  refine s_bipushv (v := nI 20) (zdk hX5_init 22 rfl) zc_bipush_20 ?_
  refine s_anew (N := 20) (j := 0) (C := RX0) (zdk hX5_init 23 rfl) clw_X5_33 ao_0 (fun _ => rfl) (by decide) (by decide) (by decide) hF (show zT M + 1 < 1000000 from by omega) ?_
  refine s_topr (b := (s + 2)) (show zT M + 1 = (s + 2) from by omega) ?_
  refine s_putRF (zdk hX5_init 24 rfl) fw_X5_35 rfl pw_5_6 rfl rfl (fun _ => rfl) (fun _ => rfl) (by simp +arith [nw_K, nw_N, nw_R, nw_I, nw_T, sr_R, si_I, si_K, si_N, si_T, si_R, sj_K, sj_N, sj_T, sj_R, sj_I, sr_K, sr_N, sr_T, sr_I, hT, hK]) ?_
  refine s_aload_n (zdk hX5_init 25 rfl) rfl ?_
  refine s_new (ci := 2) (zdk hX5_init 26 rfl) nk_X5_39 hF (show zT M + 2 < 1000000 from by omega) ?_
  refine s_topr (b := (s + 3)) (show zT M + 2 = (s + 3) from by omega) ?_
  refine s_dupr (zdk hX5_init 27 rfl) ?_
  refine s_callINb (bc := 72) (bs := 964) (mc := 1) (ms := 300) [] (zdk hX5_init 28 rfl) cw_X5_41 rfl (Nat.le_of_ble_eq_true rfl) (by decide) (c_X2_init hl (M := (znw (zsR (znw (zsR (znw (zsI (zsI (zsI (zsI (zsI M s 0 (nI 2)) s 1 (nI 4)) s 2 (nI 0)) s 3 (nI 0)) s 4 (nI 0)) (14 + 2) 4) s 5 (some (s + 1))) (14 + 0) 20) s 6 (some (s + 2))) 3 0)) (a := s + 3) (by simp +arith [nw_K, nw_N, nw_R, nw_I, nw_T, sr_R, si_I, si_K, si_N, si_T, si_R, sj_K, sj_N, sj_T, sj_R, sj_I, sr_K, sr_N, sr_T, sr_I, hT, hK]) (show zT M + 3 = _ by omega) hF (by omega)) (fun v M2 q2 => ?_)
  obtain ⟨q3, T2, F2, E2, P2⟩ := q2
  cases q3
  have eS := E2 s (by omega)
  have eS1 := E2 (s + 1) (by omega)
  have eS2 := E2 (s + 2) (by omega)
  refine s_putRF (zdk hX5_init 29 rfl) fw_X5_42 rfl pw_5_7 rfl rfl (fun _ => rfl) (fun _ => rfl) (eS.1.trans (by simp +arith [nw_K, nw_N, nw_R, nw_I, nw_T, sr_R, si_I, si_K, si_N, si_T, si_R, sj_K, sj_N, sj_T, sj_R, sj_I, sr_K, sr_N, sr_T, sr_I, hT, hK])) ?_
  refine s_iconstv (v := nI 0) (zdk hX5_init 30 rfl) zc_iconst_0 ?_
  refine s_istore_n (zdk hX5_init 31 rfl) (Nat.le_of_ble_eq_true rfl) ?_
  refine s_ls (ls' := [some (.ref s), some (.int (nI 0))]) rfl ?_
  have hB : sB M (zsR M2 s 7 (some (s + 3))) s 0 0 := by
    refine ⟨by show zT M2 = _; omega, F2, fun b hb => ?_, ⟨?_, ?_, ?_, ?_⟩, ⟨?_, ?_⟩, ⟨?_, ?_⟩, ⟨P2.1.1, ?_, P2.1.2.2.1, P2.1.2.2.2⟩, ⟨?_, ?_, ?_, ?_, ?_, P2.2⟩, fun t q => by omega, fun q hq => by omega⟩
    · exact ((((((((((((((zEq.refl _ _).trans (zEq_I (by omega))).trans (zEq_I (by omega))).trans (zEq_I (by omega))).trans (zEq_I (by omega))).trans (zEq_I (by omega))).trans (zEq_n (by simp only [nw_T, si_T, sj_T, sr_T, hT]; omega))).trans (zEq_R (by omega))).trans (zEq_n (by simp only [nw_T, si_T, sj_T, sr_T, hT]; omega))).trans (zEq_R (by omega))).trans (zEq_n (by simp only [nw_T, si_T, sj_T, sr_T, hT]; omega))) : zEq M (znw (zsR (znw (zsR (znw (zsI (zsI (zsI (zsI (zsI M s 0 (nI 2)) s 1 (nI 4)) s 2 (nI 0)) s 3 (nI 0)) s 4 (nI 0)) (14 + 2) 4) s 5 (some (s + 1))) (14 + 0) 20) s 6 (some (s + 2))) 3 0) s).trans (E2.le (by omega))).trans (zEq_R (Nat.le_refl s))) b hb
    · exact eS.1.trans (by simp +arith [nw_K, nw_N, nw_R, nw_I, nw_T, sr_R, si_I, si_K, si_N, si_T, si_R, sj_K, sj_N, sj_T, sj_R, sj_I, sr_K, sr_N, sr_T, sr_I, hT, hK])
    · rw [sr_R, if_pos rfl, if_neg (by decide), eS.2.2.2.2]; simp +arith [nw_K, nw_N, nw_R, nw_I, nw_T, sr_R, si_I, si_K, si_N, si_T, si_R, sj_K, sj_N, sj_T, sj_R, sj_I, sr_K, sr_N, sr_T, sr_I, hT, hK]
    · rw [sr_R, if_pos rfl, if_neg (by decide), eS.2.2.2.2]; simp +arith [nw_K, nw_N, nw_R, nw_I, nw_T, sr_R, si_I, si_K, si_N, si_T, si_R, sj_K, sj_N, sj_T, sj_R, sj_I, sr_K, sr_N, sr_T, sr_I, hT, hK]
    · rw [sr_R, if_pos rfl, if_pos rfl]
    · exact eS1.1.trans (by simp +arith [nw_K, nw_N, nw_R, nw_I, nw_T, sr_R, si_I, si_K, si_N, si_T, si_R, sj_K, sj_N, sj_T, sj_R, sj_I, sr_K, sr_N, sr_T, sr_I, hT, hK])
    · exact eS1.2.1.trans (by simp +arith [nw_K, nw_N, nw_R, nw_I, nw_T, sr_R, si_I, si_K, si_N, si_T, si_R, sj_K, sj_N, sj_T, sj_R, sj_I, sr_K, sr_N, sr_T, sr_I, hT, hK])
    · exact eS2.1.trans (by simp +arith [nw_K, nw_N, nw_R, nw_I, nw_T, sr_R, si_I, si_K, si_N, si_T, si_R, sj_K, sj_N, sj_T, sj_R, sj_I, sr_K, sr_N, sr_T, sr_I, hT, hK])
    · exact eS2.2.1.trans (by simp +arith [nw_K, nw_N, nw_R, nw_I, nw_T, sr_R, si_I, si_K, si_N, si_T, si_R, sj_K, sj_N, sj_T, sj_R, sj_I, sr_K, sr_N, sr_T, sr_I, hT, hK])
    · rw [sr_R, if_neg (by omega)]; exact P2.1.2.1
    · rw [sr_I, eS.2.2.1]; simp +arith [nw_K, nw_N, nw_R, nw_I, nw_T, sr_R, si_I, si_K, si_N, si_T, si_R, sj_K, sj_N, sj_T, sj_R, sj_I, sr_K, sr_N, sr_T, sr_I, hT, hK]
    · rw [sr_I, eS.2.2.1]; simp +arith [nw_K, nw_N, nw_R, nw_I, nw_T, sr_R, si_I, si_K, si_N, si_T, si_R, sj_K, sj_N, sj_T, sj_R, sj_I, sr_K, sr_N, sr_T, sr_I, hT, hK]
    · rw [sr_I, eS.2.2.1]; simp +arith [nw_K, nw_N, nw_R, nw_I, nw_T, sr_R, si_I, si_K, si_N, si_T, si_R, sj_K, sj_N, sj_T, sj_R, sj_I, sr_K, sr_N, sr_T, sr_I, hT, hK]
    · rw [sr_I, eS.2.2.1]; simp +arith [nw_K, nw_N, nw_R, nw_I, nw_T, sr_R, si_I, si_K, si_N, si_T, si_R, sj_K, sj_N, sj_T, sj_R, sj_I, sr_K, sr_N, sr_T, sr_I, hT, hK]
    · rw [sr_I, eS.2.2.1]; simp +arith [nw_K, nw_N, nw_R, nw_I, nw_T, sr_R, si_I, si_K, si_N, si_T, si_R, sj_K, sj_N, sj_T, sj_R, sj_I, sr_K, sr_N, sr_T, sr_I, hT, hK]
  refine w_X5_init_59 hl (by omega) (fun M3 h3 => ?_) 5 0 _ hB (by omega) (by omega)
  refine s_iconstv (v := nI 0) (zdk hX5_init 44 rfl) zc_iconst_0 ?_
  refine s_istore_n (zdk hX5_init 45 rfl) (Nat.le_of_ble_eq_true rfl) ?_
  refine s_ls (ls' := [some (.ref s), some (.int (nI 0))]) rfl ?_
  refine w_X5_init_85 hl (by omega) (fun M4 h4 => ?_) 21 0 _ h3 (by omega) (by omega)
  refine s_return (zdk hX5_init 58 rfl) rfl ?_
  exact ⟨rfl, h4.1, h4.2.1, h4.2.2.1, h4.st⟩
end
