/-! ===== the face: its shape, its checks ===== -/
def xL : List (Nat × Nat) := [(0, 1), (1, 3), (2, 5), (3, 12), (4, 630), (5, 707), (6, 784), (7, 785), (8, 786)]
def xSh (M : zMem) : Prop := (zK M 0 = 9 ∧ ∀ q ∈ xL, zR M 0 q.1 = some q.2) ∧ eSh M 1 ∧ wSh M 3 ∧ nSh M 5 ∧ hSh M ∧ (zK M 784 = 14 + 1 ∧ zN M 784 = 2 ∧ ∀ i, i < 2 → zR M 784 i = some (787 + 77 * i)) ∧ (zK M 785 = 13 ∧ zN M 785 = 2) ∧ zK M 786 = 11 ∧ zN M 786 = 13
section
variable {M : zMem}
theorem xSh.K (h : xSh M) : zK M 0 = 8 + 1 := h.1.1
theorem xSh.r (h : xSh M) {i : Nat} {q : Nat × Nat} (hi : xL[i]? = some q) : zR M 0 q.1 = some q.2 := h.1.2 q (List.mem_of_getElem? hi)
theorem xSh.rd (h : xSh M) : eSh M 1 := h.2.1
theorem xSh.wr (h : xSh M) : wSh M 3 := h.2.2.1
theorem xSh.pl (h : xSh M) : nSh M 5 := h.2.2.2.1
theorem xSh.hi (h : xSh M) : hSh M := h.2.2.2.2.1
theorem xSh.sK (h : xSh M) : zK M 784 = 14 + 1 := h.2.2.2.2.2.1.1
theorem xSh.sN (h : xSh M) : zN M 784 = 2 := h.2.2.2.2.2.1.2.1
theorem xSh.sR (h : xSh M) (i : Nat) (hi : i < 2) : zR M 784 i = some (787 + 77 * i) := h.2.2.2.2.2.1.2.2 i hi
theorem xSh.fK (h : xSh M) : zK M 785 = 13 := h.2.2.2.2.2.2.1.1
theorem xSh.fN (h : xSh M) : zN M 785 = 2 := h.2.2.2.2.2.2.1.2
theorem xSh.cK (h : xSh M) : zK M 786 = 11 := h.2.2.2.2.2.2.2.1
theorem xSh.cN (h : xSh M) : zN M 786 = 13 := h.2.2.2.2.2.2.2.2
end
/-- which exception, if one is due -/
def eo (C : Prop) [Decidable C] (k : Nat) (e : Option Nat) : Option Nat := if C then e else some k
theorem eo_p {C : Prop} [Decidable C] {k : Nat} {e : Option Nat} (h : C) : eo C k e = e := if_pos h
theorem eo_n {C : Prop} [Decidable C] {k : Nat} {e : Option Nat} (h : ¬ C) : eo C k e = some k := if_neg h
theorem eo_x {C : Prop} [Decidable C] {k x : Nat} (h : eo C k none = some x) : ¬ C ∧ x = k := by
  unfold eo at h
  split at h
  · cases h
  · exact ⟨by assumption, (Option.some.inj h).symm⟩
theorem eo_r {C : Prop} [Decidable C] {k : Nat} (h : eo C k none = none) : C := by
  unfold eo at h
  split at h
  · assumption
  · cases h
/-- a call that throws, or returns as P says -/
def zXr (e : Option Nat) (M : zMem) (P : Option Value → zMem → Prop) : zOut → zMem → Prop := fun o M' => match o with | .inl v => e = none ∧ P v M' | .inr x => e = some x ∧ M' = M
def zP1 (v : Option Value) (M1 : zMem) : Option Value → zMem → Prop := fun v' M' => v' = v ∧ M' = M1
section
variable {l : Launch} {G : zG} {y z : zMD} {fr lo fr1 lo1 mc ms bc bs pc i n : Nat} {ls : List (Option Value)} {st : List Value} {as : List Value} {M : zMem} {Q Q1 : zOut → zMem → Prop}
theorem zCxr.of {e : Option Nat} {P : Option Value → zMem → Prop} {ls0 : List (Option Value)} (hpn : plainName (yN y).cls = true) (hH : yH y = []) (hl : l.stackTraces = false) (hen : zen (yL y) as = ls0) (hle : (zea as).length ≤ yL y)
    (hf : zF M = 1) (hP : ∀ v M', P v M' → zF M' = zF M) (h : zS l G y fr lo mc ms 0 ls0 [] M (zXr e M P)) : zCx2 l G y fr lo mc ms as M (zXr e M P) :=
  zCx2.of hpn hH hl hen hle (fun v M' q h0 => absurd h0 (by rw [hP v M' q.2, hf]; decide)) (fun x M' q => by rw [q.2, hf]; decide) h
theorem s_callVXa {ci a : Nat} (as : List Value) (hd : decode (yC y) pc = .ok (.invokevirtual i, 3)) (hw : zcv (yN y).cls i z n) (hK : zK M a = ci + 1) (hci : ci < 10) (hcl : vwCl[ci]? = some (zCl ci)) (hcn : (zCl ci).1 = (yN z).cls) (hn : as.length = n) (hst : (st.map fun v => v.category).sum ≤ 8) (hrm : fr1 + 1 ≤ fr ∧ 8 + (yL z + 11) + lo1 ≤ lo)
    (hM : zCx2 l G z fr1 lo1 1 6 (.ref a :: as) M Q1) (hH : yH y = []) (kx : ∀ (x : Nat) (M1 : zMem), Q1 (.inr x) M1 → Q (.inr x) M1) (kk : ∀ (v : Option Value) (M1 : zMem), Q1 (.inl v) M1 → zS l G y fr lo bc bs (pc + 3) ls (v.toList ++ st) M1 Q) :
    zS l G y fr lo (bc + 1) (bs + 6) pc ls (as.reverse ++ .ref a :: st) M Q := by
  have h := s_callVX (bc := bc) (bs := bs) hd hw hK hci hcl hcn hn hst hrm hM hH kx kk
  rw [Nat.add_comm 1, Nat.add_comm 6] at h
  exact h
theorem s_callSXa (as : List Value) (hd : decode (yC y) pc = .ok (.invokestatic i, 3)) (hw : zcs (yN y).cls i z n) (hn : as.length = n) (hst : (st.map fun v => v.category).sum ≤ 8) (hrm : fr1 + 1 ≤ fr ∧ 8 + (yL z + 11) + lo1 ≤ lo)
    (hM : zCx2 l G z fr1 lo1 1 6 as M Q1) (hH : yH y = []) (kx : ∀ (x : Nat) (M1 : zMem), Q1 (.inr x) M1 → Q (.inr x) M1) (kk : ∀ (v : Option Value) (M1 : zMem), Q1 (.inl v) M1 → zS l G y fr lo bc bs (pc + 3) ls (v.toList ++ st) M1 Q) :
    zS l G y fr lo (bc + 1) (bs + 6) pc ls (as.reverse ++ st) M Q := by
  have h := s_callSX (bc := bc) (bs := bs) hd hw hn hst hrm hM hH kx kk
  rw [Nat.add_comm 1, Nat.add_comm 6] at h
  exact h
end
section
variable {l : Launch} {G : zG}
theorem c_X8_requireTier (hl : l.stackTraces = false) {M : zMem} {g : Nat → Int64} {p : Nat → Nat} (hx : xSh M) (h : rSt M 630 g p) (hf : zF M = 1) (t : Int32) : zCx2 l G mX8_requireTier 7 102 1 6 [.ref 0, .int (t)] M (zXr (eo (inN t (gN g 2)) 2 none) M (zP1 none M)) := by
  refine zCxr.of (ls0 := [some (.ref 0), some (.int (t))]) (by decide +kernel) rfl hl rfl (Nat.le_of_ble_eq_true rfl) hf (fun v9 M9 q9 => by rw [q9.2]) ?_
  refine s_iload_n (zdk hX8_requireTier 0 rfl) rfl ?_
  refine s_if_lt 15 (zdk hX8_requireTier 1 rfl) (by decide) (fun c1 => ?_) (fun c1 => ?_)
  · refine s_throw (x := 2) ⟨184, 186, (zdk hX8_requireTier 7 rfl), (zdk hX8_requireTier 8 rfl), (zdk hX8_requireTier 9 rfl), (zdk hX8_requireTier 10 rfl), clw_X8_184, xi_2, rfl, (by decide), (by decide), (by decide), xw_2⟩ ?_ (by decide)
    rw [zth_id hf]
    exact ⟨eo_n (fun q => by first | exact absurd q.1 (Int32.not_le.mpr c1) | exact c12 q.2), rfl⟩
  · refine s_iload_n (zdk hX8_requireTier 2 rfl) rfl ?_
    refine s_aload_n (zdk hX8_requireTier 3 rfl) rfl ?_
    refine s_getR (zdk hX8_requireTier 4 rfl) fw_X8_40 rfl (hx.K) ((hx.r (i := 4) rfl)) ?_
    refine s_getI (zdk hX8_requireTier 5 rfl) fw_X8_97 rfl (h.K) ?_
    refine s_topi (b := nI (gN g 2)) (h.v3) ?_
    refine s_icmp_lt 23 (zdk hX8_requireTier 6 rfl) (by decide) (fun c12 => ?_) (fun c12 => ?_)
    · refine s_return (zdk hX8_requireTier 11 rfl) rfl ?_
      exact ⟨eo_p ⟨Int32.not_lt.mp c1, c12⟩, rfl, rfl⟩
    · refine s_throw (x := 2) ⟨184, 186, (zdk hX8_requireTier 7 rfl), (zdk hX8_requireTier 8 rfl), (zdk hX8_requireTier 9 rfl), (zdk hX8_requireTier 10 rfl), clw_X8_184, xi_2, rfl, (by decide), (by decide), (by decide), xw_2⟩ ?_ (by decide)
      rw [zth_id hf]
      exact ⟨eo_n (fun q => by first | exact absurd q.1 (Int32.not_le.mpr c1) | exact c12 q.2), rfl⟩
theorem c_X8_requireFile (hl : l.stackTraces = false) {M : zMem} {g : Nat → Int64} {p : Nat → Nat} (hx : xSh M) (h : rSt M 630 g p) (hf : zF M = 1) (t : Int32) : zCx2 l G mX8_requireFile 7 102 1 6 [.ref 0, .int (t)] M (zXr (eo (inN t (gN g 3)) 2 none) M (zP1 none M)) := by
  refine zCxr.of (ls0 := [some (.ref 0), some (.int (t))]) (by decide +kernel) rfl hl rfl (Nat.le_of_ble_eq_true rfl) hf (fun v9 M9 q9 => by rw [q9.2]) ?_
  refine s_iload_n (zdk hX8_requireFile 0 rfl) rfl ?_
  refine s_if_lt 15 (zdk hX8_requireFile 1 rfl) (by decide) (fun c1 => ?_) (fun c1 => ?_)
  · refine s_throw (x := 2) ⟨184, 186, (zdk hX8_requireFile 7 rfl), (zdk hX8_requireFile 8 rfl), (zdk hX8_requireFile 9 rfl), (zdk hX8_requireFile 10 rfl), clw_X8_184, xi_2, rfl, (by decide), (by decide), (by decide), xw_2⟩ ?_ (by decide)
    rw [zth_id hf]
    exact ⟨eo_n (fun q => by first | exact absurd q.1 (Int32.not_le.mpr c1) | exact c12 q.2), rfl⟩
  · refine s_iload_n (zdk hX8_requireFile 2 rfl) rfl ?_
    refine s_aload_n (zdk hX8_requireFile 3 rfl) rfl ?_
    refine s_getR (zdk hX8_requireFile 4 rfl) fw_X8_40 rfl (hx.K) ((hx.r (i := 4) rfl)) ?_
    refine s_getI (zdk hX8_requireFile 5 rfl) fw_X8_100 rfl (h.K) ?_
    refine s_topi (b := nI (gN g 3)) (h.v4) ?_
    refine s_icmp_lt 23 (zdk hX8_requireFile 6 rfl) (by decide) (fun c12 => ?_) (fun c12 => ?_)
    · refine s_return (zdk hX8_requireFile 11 rfl) rfl ?_
      exact ⟨eo_p ⟨Int32.not_lt.mp c1, c12⟩, rfl, rfl⟩
    · refine s_throw (x := 2) ⟨184, 186, (zdk hX8_requireFile 7 rfl), (zdk hX8_requireFile 8 rfl), (zdk hX8_requireFile 9 rfl), (zdk hX8_requireFile 10 rfl), clw_X8_184, xi_2, rfl, (by decide), (by decide), (by decide), xw_2⟩ ?_ (by decide)
      rw [zth_id hf]
      exact ⟨eo_n (fun q => by first | exact absurd q.1 (Int32.not_le.mpr c1) | exact c12 q.2), rfl⟩
theorem c_X8_requireSlot (hl : l.stackTraces = false) {M : zMem} (hf : zF M = 1) (t : Int32) : zCx2 l G mX8_requireSlot 7 102 1 6 [.int (t)] M (zXr (eo (inN t 2) 2 none) M (zP1 none M)) := by
  refine zCxr.of (ls0 := [some (.int (t))]) (by decide +kernel) rfl hl rfl (Nat.le_of_ble_eq_true rfl) hf (fun v9 M9 q9 => by rw [q9.2]) ?_
  refine s_iload_n (zdk hX8_requireSlot 0 rfl) rfl ?_
  refine s_if_lt 9 (zdk hX8_requireSlot 1 rfl) (by decide) (fun c1 => ?_) (fun c1 => ?_)
  · refine s_throw (x := 2) ⟨184, 186, (zdk hX8_requireSlot 5 rfl), (zdk hX8_requireSlot 6 rfl), (zdk hX8_requireSlot 7 rfl), (zdk hX8_requireSlot 8 rfl), clw_X8_184, xi_2, rfl, (by decide), (by decide), (by decide), xw_2⟩ ?_ (by decide)
    rw [zth_id hf]
    exact ⟨eo_n (fun q => by first | exact absurd q.1 (Int32.not_le.mpr c1) | exact c6 q.2), rfl⟩
  · refine s_iload_n (zdk hX8_requireSlot 2 rfl) rfl ?_
    refine s_iconstv (v := nI 2) (zdk hX8_requireSlot 3 rfl) zc_iconst_2 ?_
    refine s_icmp_lt 17 (zdk hX8_requireSlot 4 rfl) (by decide) (fun c6 => ?_) (fun c6 => ?_)
    · refine s_return (zdk hX8_requireSlot 9 rfl) rfl ?_
      exact ⟨eo_p ⟨Int32.not_lt.mp c1, c6⟩, rfl, rfl⟩
    · refine s_throw (x := 2) ⟨184, 186, (zdk hX8_requireSlot 5 rfl), (zdk hX8_requireSlot 6 rfl), (zdk hX8_requireSlot 7 rfl), (zdk hX8_requireSlot 8 rfl), clw_X8_184, xi_2, rfl, (by decide), (by decide), (by decide), xw_2⟩ ?_ (by decide)
      rw [zth_id hf]
      exact ⟨eo_n (fun q => by first | exact absurd q.1 (Int32.not_le.mpr c1) | exact c6 q.2), rfl⟩
theorem c_X8_requireWithin (hl : l.stackTraces = false) {M : zMem} (hf : zF M = 1) (v a b : Int32) : zCx2 l G mX8_requireWithin 7 102 1 6 [.int (v), .int (a), .int (b)] M (zXr (eo (a ≤ v ∧ v ≤ b) 1 none) M (zP1 none M)) := by
  refine zCxr.of (ls0 := [some (.int (v)), some (.int (a)), some (.int (b))]) (by decide +kernel) rfl hl rfl (Nat.le_of_ble_eq_true rfl) hf (fun v9 M9 q9 => by rw [q9.2]) ?_
  refine s_iload_n (zdk hX8_requireWithin 0 rfl) rfl ?_
  refine s_iload_n (zdk hX8_requireWithin 1 rfl) rfl ?_
  refine s_icmp_lt 10 (zdk hX8_requireWithin 2 rfl) (by decide) (fun c2 => ?_) (fun c2 => ?_)
  · refine s_throw (x := 1) ⟨122, 124, (zdk hX8_requireWithin 6 rfl), (zdk hX8_requireWithin 7 rfl), (zdk hX8_requireWithin 8 rfl), (zdk hX8_requireWithin 9 rfl), clw_X8_122, xi_1, rfl, (by decide), (by decide), (by decide), xw_1⟩ ?_ (by decide)
    rw [zth_id hf]
    exact ⟨eo_n (fun q => by first | exact absurd q.1 (Int32.not_le.mpr c2) | exact c7 q.2), rfl⟩
  · refine s_iload_n (zdk hX8_requireWithin 3 rfl) rfl ?_
    refine s_iload_n (zdk hX8_requireWithin 4 rfl) rfl ?_
    refine s_icmp_le 18 (zdk hX8_requireWithin 5 rfl) (by decide) (fun c7 => ?_) (fun c7 => ?_)
    · refine s_return (zdk hX8_requireWithin 10 rfl) rfl ?_
      exact ⟨eo_p ⟨Int32.not_lt.mp c2, c7⟩, rfl, rfl⟩
    · refine s_throw (x := 1) ⟨122, 124, (zdk hX8_requireWithin 6 rfl), (zdk hX8_requireWithin 7 rfl), (zdk hX8_requireWithin 8 rfl), (zdk hX8_requireWithin 9 rfl), clw_X8_122, xi_1, rfl, (by decide), (by decide), (by decide), xw_1⟩ ?_ (by decide)
      rw [zth_id hf]
      exact ⟨eo_n (fun q => by first | exact absurd q.1 (Int32.not_le.mpr c2) | exact c7 q.2), rfl⟩
theorem c_X8_requirePeriods (hl : l.stackTraces = false) {M : zMem} (hf : zF M = 1) (v : Int32) : zCx2 l G mX8_requirePeriods 8 124 1 6 [.int (v)] M (zXr (eo (nI 1 ≤ v ∧ v ≤ nI 24) 1 none) M (zP1 none M)) := by
  refine zCxr.of (ls0 := [some (.int (v))]) (by decide +kernel) rfl hl rfl (Nat.le_of_ble_eq_true rfl) hf (fun v9 M9 q9 => by rw [q9.2]) ?_
  refine s_iload_n (zdk hX8_requirePeriods 0 rfl) rfl ?_
  refine s_iconstv (v := nI 1) (zdk hX8_requirePeriods 1 rfl) zc_iconst_1 ?_
  refine s_bipushv (v := nI 24) (zdk hX8_requirePeriods 2 rfl) zc_bipush_24 ?_
  refine s_callSXa [.int (v), .int (nI 1), .int (nI 24)] (zdk hX8_requirePeriods 3 rfl) cw_X8_206 rfl (Nat.le_of_ble_eq_true rfl) (by decide) (c_X8_requireWithin hl hf v (nI 1) (nI 24)) rfl (fun x9 M9 q9 => ?_) (fun v9 M9 q9 => ?_)
  · obtain ⟨e9, rfl⟩ := q9
    obtain ⟨e7, rfl⟩ := eo_x e9
    exact ⟨eo_n e7, rfl⟩
  obtain ⟨e9, r9, rfl⟩ := q9
  cases r9
  have h1 := eo_r e9
  refine s_return (zdk hX8_requirePeriods 4 rfl) rfl ?_
  exact ⟨(eo_p h1).trans (rfl), rfl, rfl⟩
end
