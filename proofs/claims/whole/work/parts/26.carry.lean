/-! ===== moves of a store ===== -/
theorem gBd.moves {g g' : Nat → Int64} (h : gBd g) (eg : ∀ k, k ≠ 5 → (k < 1078 ∨ 1378 ≤ k) → g' k = g k) (h5 : its g' 5 = nI (gN g' 5) ∧ gN g' 5 ≤ 60)
    (hw : ∀ w, w < gN g' 5 → (gm g' w 0 = nI (gN g' (1078 + 5 * w + 0)) ∧ gN g' (1078 + 5 * w + 0) < gN g 3) ∧ (gm g' w 1 = nI (gN g' (1078 + 5 * w + 1)) ∧ gN g' (1078 + 5 * w + 1) < gN g 2) ∧ (gm g' w 2 = nI (gN g' (1078 + 5 * w + 2)) ∧ gN g' (1078 + 5 * w + 2) < gN g 2)) : gBd g' := by
  obtain ⟨a0, a2, a3, a4, a5, af, aw⟩ := h
  have ei := fun k h1 h2 => its_eq (eg k h1 h2)
  have en := fun k h1 h2 => gN_eq (eg k h1 h2)
  have c2 := en 2 (by decide) (by omega)
  have c3 := en 3 (by decide) (by omega)
  refine ⟨?_, ?_, ?_, ?_, h5, ?_, ?_⟩
  · rw [ei 0 (by decide) (by omega), en 0 (by decide) (by omega)]; exact a0
  · rw [ei 2 (by decide) (by omega), c2]; exact a2
  · rw [ei 3 (by decide) (by omega), c3]; exact a3
  · rw [ei 4 (by decide) (by omega), en 4 (by decide) (by omega)]; exact a4
  · intro f hf
    rw [c3] at hf
    rw [c2]
    unfold gf
    rw [ei (58 + 51 * f + 1) (by omega) (by omega), ei (58 + 51 * f + 4) (by omega) (by omega), en (58 + 51 * f + 1) (by omega) (by omega), en (58 + 51 * f + 4) (by omega) (by omega)]
    exact af f hf
  · rw [c2, c3]
    exact hw
theorem rSt.moves {M M' : zMem} {s : Nat} {g g' : Nat → Int64} {p : Nat → Nat} (h : rSt M s g p) (e : zag M M' (fun b => b ≠ s + 3 ∧ b ≠ s + 3 + 1)) (er : ∀ b, zR M' b = zR M b) (eg : ∀ k, k ≠ 5 → (k < 1078 ∨ 1378 ≤ k) → g' k = g k) (hm : rMv M' s g') (hb : gBd g') : rSt M' s g' p := by
  have c2 := gN_eq (eg 2 (by decide) (by omega))
  have c3 := gN_eq (eg 3 (by decide) (by omega))
  have e0 := (e.2 s (by omega)).1
  refine h.head (e.mono fun b hb => by omega) er (fun k h1 h2 => eg k (by omega) h2) ⟨?_, ?_, ?_, ?_, ?_⟩ hm (fun t q1 q2 => absurd q2 (by omega)) (fun f q1 q2 => absurd q2 (by omega)) hb
  · rw [e0, its_eq (eg 0 (by decide) (by omega))]; exact h.2.1.1
  · rw [e0, its_eq (eg 1 (by decide) (by omega))]; exact h.2.1.2.1
  · rw [e0, its_eq (eg 4 (by decide) (by omega))]; exact h.2.1.2.2.1
  · rw [e0, its_eq (eg 2 (by decide) (by omega))]; exact h.2.1.2.2.2.1
  · rw [e0, its_eq (eg 3 (by decide) (by omega))]; exact h.2.1.2.2.2.2
def oPut1 (g : Nat → Int64) (n : Nat) (f fr to oc ic : Int32) : Nat → Int64 := zwL (zwL (zwL (zwL (zwL (zwL g (1078 + 5 * n + 0) f.toInt64) (1078 + 5 * n + 1) fr.toInt64) (1078 + 5 * n + 2) to.toInt64) (1078 + 5 * n + 3) oc.toInt64) (1078 + 5 * n + 4) ic.toInt64) 5 (nI (n + 1)).toInt64
def oMsh (g : Nat → Int64) : Nat → Int64 := zwL (fun k => if 1078 ≤ k ∧ k < 1373 then g (k + 5) else g k) 5 (nI 59).toInt64
def oPut (g : Nat → Int64) (f fr to oc ic : Int32) : Nat → Int64 := if gN g 5 = 60 then oPut1 (oMsh g) 59 f fr to oc ic else oPut1 g (gN g 5) f fr to oc ic
theorem oPut1_n {g : Nat → Int64} {n k : Nat} {f fr to oc ic : Int32} (h5 : k ≠ 5) (h : k < 1078 + 5 * n ∨ 1078 + 5 * n + 5 ≤ k) : oPut1 g n f fr to oc ic k = g k := by
  unfold oPut1
  rw [zwL_n h5, zwL_n (by omega), zwL_n (by omega), zwL_n (by omega), zwL_n (by omega), zwL_n (by omega)]
theorem oPut1_0 {g : Nat → Int64} {n : Nat} {f fr to oc ic : Int32} : its (oPut1 g n f fr to oc ic) (1078 + 5 * n + 0) = f := by
  unfold oPut1
  rw [its_n (by omega), its_n (by omega), its_n (by omega), its_n (by omega), its_n (by omega), its_e, i64]
theorem oPut1_1 {g : Nat → Int64} {n : Nat} {f fr to oc ic : Int32} : its (oPut1 g n f fr to oc ic) (1078 + 5 * n + 1) = fr := by
  unfold oPut1
  rw [its_n (by omega), its_n (by omega), its_n (by omega), its_n (by omega), its_e, i64]
theorem oPut1_2 {g : Nat → Int64} {n : Nat} {f fr to oc ic : Int32} : its (oPut1 g n f fr to oc ic) (1078 + 5 * n + 2) = to := by
  unfold oPut1
  rw [its_n (by omega), its_n (by omega), its_n (by omega), its_e, i64]
theorem oPut1_3 {g : Nat → Int64} {n : Nat} {f fr to oc ic : Int32} : its (oPut1 g n f fr to oc ic) (1078 + 5 * n + 3) = oc := by
  unfold oPut1
  rw [its_n (by omega), its_n (by omega), its_e, i64]
theorem oPut1_4 {g : Nat → Int64} {n : Nat} {f fr to oc ic : Int32} : its (oPut1 g n f fr to oc ic) (1078 + 5 * n + 4) = ic := by
  unfold oPut1
  rw [its_n (by omega), its_e, i64]
theorem oPut1_5 {g : Nat → Int64} {n : Nat} {f fr to oc ic : Int32} : its (oPut1 g n f fr to oc ic) 5 = nI (n + 1) := by
  unfold oPut1
  rw [its_e, i64]
theorem zM_put_u {M : zMem} {a n j : Nat} {f fr to oc ic : Int32} : zI (zM_put M a n f fr to oc ic) (a + 1) j = if j = n * 5 + 4 then ic else if j = n * 5 + 3 then oc else if j = n * 5 + 2 then to else if j = n * 5 + 1 then fr else if j = n * 5 + 0 then f else zI M (a + 1) j := by
  unfold zM_put
  rw [zI_In (show a + 1 ≠ a by omega), zI_Ie, zI_Ie, zI_Ie, zI_Ie, zI_Ie]
  rfl
theorem zM_put_0 {M : zMem} {a n : Nat} {f fr to oc ic : Int32} : zI (zM_put M a n f fr to oc ic) a 0 = nI (n + 1) := by
  unfold zM_put
  rw [zI_Ie, zw1_e]
theorem zag_put {M : zMem} {a n : Nat} {f fr to oc ic : Int32} : zag M (zM_put M a n f fr to oc ic) (fun b => b ≠ a ∧ b ≠ a + 1) := by
  refine ⟨rfl, fun b hb => ⟨?_, rfl, rfl⟩⟩
  unfold zM_put
  rw [zI_In hb.1, zI_In hb.2, zI_In hb.2, zI_In hb.2, zI_In hb.2, zI_In hb.2]
theorem rSt.put1 {M : zMem} {s : Nat} {g : Nat → Int64} {p : Nat → Nat} {n f a b : Nat} {oc ic : Int32} (h : rSt M s g p) (hn : gN g 5 = n) (h60 : n < 60) (hf : f < gN g 3) (ha : a < gN g 2) (hb : b < gN g 2) : rSt (zM_put M (s + 3) n (nI f) (nI a) (nI b) oc ic) s (oPut1 g n (nI f) (nI a) (nI b) oc ic) p := by
  have e5 : gN (oPut1 g n (nI f) (nI a) (nI b) oc ic) 5 = n + 1 := gN_of oPut1_5 (by omega)
  have hf2 := h.b.2.2.1.2
  have ht2 := h.b.2.1.2
  have n0 : gN (oPut1 g n (nI f) (nI a) (nI b) oc ic) (1078 + 5 * n + 0) = f := gN_of oPut1_0 (by omega)
  have n1 : gN (oPut1 g n (nI f) (nI a) (nI b) oc ic) (1078 + 5 * n + 1) = a := gN_of oPut1_1 (by omega)
  have n2 : gN (oPut1 g n (nI f) (nI a) (nI b) oc ic) (1078 + 5 * n + 2) = b := gN_of oPut1_2 (by omega)
  refine h.moves zag_put (fun _ => rfl) (fun k h1 h2 => oPut1_n h1 (by omega)) ⟨?_, fun w hw k hk => ?_⟩ (h.b.moves (fun k h1 h2 => oPut1_n h1 (by omega)) ⟨by rw [e5]; exact oPut1_5, by omega⟩ fun w hw => ?_)
  · exact zM_put_0.trans oPut1_5.symm
  · rw [e5] at hw
    rw [zM_put_u]
    by_cases q : w = n
    · subst q
      rcases (by omega : k = 0 ∨ k = 1 ∨ k = 2 ∨ k = 3 ∨ k = 4) with r | r | r | r | r
      · subst r; rw [if_neg (by omega), if_neg (by omega), if_neg (by omega), if_neg (by omega), if_pos rfl]; exact oPut1_0.symm
      · subst r; rw [if_neg (by omega), if_neg (by omega), if_neg (by omega), if_pos rfl]; exact oPut1_1.symm
      · subst r; rw [if_neg (by omega), if_neg (by omega), if_pos rfl]; exact oPut1_2.symm
      · subst r; rw [if_neg (by omega), if_pos rfl]; exact oPut1_3.symm
      · subst r; rw [if_pos rfl]; exact oPut1_4.symm
    · rw [if_neg (by omega), if_neg (by omega), if_neg (by omega), if_neg (by omega), if_neg (by omega), h.mv (by omega) hk]
      exact (its_eq (oPut1_n (by omega) (by omega))).symm
  · rw [e5] at hw
    unfold gm
    by_cases q : w = n
    · rw [q, oPut1_0, oPut1_1, oPut1_2, n0, n1, n2]
      exact ⟨⟨rfl, hf⟩, ⟨rfl, ha⟩, ⟨rfl, hb⟩⟩
    · have e0 := oPut1_n (g := g) (n := n) (k := 1078 + 5 * w + 0) (f := nI f) (fr := nI a) (to := nI b) (oc := oc) (ic := ic) (by omega) (by omega)
      have e1 := oPut1_n (g := g) (n := n) (k := 1078 + 5 * w + 1) (f := nI f) (fr := nI a) (to := nI b) (oc := oc) (ic := ic) (by omega) (by omega)
      have e2 := oPut1_n (g := g) (n := n) (k := 1078 + 5 * w + 2) (f := nI f) (fr := nI a) (to := nI b) (oc := oc) (ic := ic) (by omega) (by omega)
      rw [its_eq e0, its_eq e1, its_eq e2, gN_eq e0, gN_eq e1, gN_eq e2]
      exact h.b.2.2.2.2.2.2 w (by omega)
theorem oMsh_n {g : Nat → Int64} {k : Nat} (h5 : k ≠ 5) (h : k < 1078 ∨ 1378 ≤ k) : oMsh g k = g k := by
  unfold oMsh
  rw [zwL_n h5, if_neg (by omega)]
theorem oMsh_m {g : Nat → Int64} {w k : Nat} (hw : w < 59) (hk : k < 5) : oMsh g (1078 + 5 * w + k) = g (1078 + 5 * (w + 1) + k) := by
  unfold oMsh
  rw [zwL_n (by omega), if_pos (by omega)]
  congr 1
  omega
theorem oMsh_i {g : Nat → Int64} {w k : Nat} (hw : w < 59) (hk : k < 5) : its (oMsh g) (1078 + 5 * w + k) = its g (1078 + 5 * (w + 1) + k) := congrArg Int64.toInt32 (oMsh_m hw hk)
theorem oMsh_N {g : Nat → Int64} {w k : Nat} (hw : w < 59) (hk : k < 5) : gN (oMsh g) (1078 + 5 * w + k) = gN g (1078 + 5 * (w + 1) + k) := congrArg Int32.toNatClampNeg (oMsh_i hw hk)
theorem rSt.rm0 {M : zMem} {s : Nat} {g : Nat → Int64} {p : Nat → Nat} (h : rSt M s g p) (hn : gN g 5 = 60) : rSt (zM_rm M (s + 3) 60 0) s (oMsh g) p := by
  have e5 : its (oMsh g) 5 = nI 59 := by unfold oMsh; rw [its_e, i64]
  have n5 : gN (oMsh g) 5 = 59 := gN_of e5 (by decide)
  refine h.moves (((zag_A _ _ _).mono fun b hb => hb.2).trans ((zag_I _ _ _ _).mono fun b hb => hb.1)) (fun _ => rfl) (fun k h1 h2 => oMsh_n h1 h2) ⟨?_, fun w hw k hk => ?_⟩ (h.b.moves (fun k h1 h2 => oMsh_n h1 h2) ⟨by rw [n5]; exact e5, by omega⟩ fun w hw => ?_)
  · unfold zM_rm
    rw [zI_Ie, zw1_e, e5]
  · rw [n5] at hw
    unfold zM_rm
    rw [zI_In (show s + 3 + 1 ≠ s + 3 by omega), zI_A]
    have q : va_cpy (zI M (s + 3 + 1)) (zI M (s + 3 + 1)) (0 * 5 + 5) (0 * 5) ((60 - 0 - 1) * 5) (w * 5 + k) = zI M (s + 3 + 1) (0 * 5 + 5 + (w * 5 + k - 0 * 5)) := if_pos (by omega)
    rw [q, show 0 * 5 + 5 + (w * 5 + k - 0 * 5) = (w + 1) * 5 + k by omega, h.mv (by omega) hk]
    unfold gm
    exact (oMsh_i hw hk).symm
  · rw [n5] at hw
    unfold gm
    rw [oMsh_i (k := 0) hw (by omega), oMsh_i (k := 1) hw (by omega), oMsh_i (k := 2) hw (by omega), oMsh_N (k := 0) hw (by omega), oMsh_N (k := 1) hw (by omega), oMsh_N (k := 2) hw (by omega)]
    exact h.b.2.2.2.2.2.2 (w + 1) (by omega)
theorem oPut_n {g : Nat → Int64} {k : Nat} {f fr to oc ic : Int32} (hg : gN g 5 ≤ 60) (h5 : k ≠ 5) (h : k < 1078 ∨ 1378 ≤ k) : oPut g f fr to oc ic k = g k := by
  unfold oPut
  split
  · rw [oPut1_n h5 (by omega), oMsh_n h5 h]
  · rw [oPut1_n h5 (by omega)]
theorem oPut_zwL {g : Nat → Int64} {j : Nat} {v : Int64} {f fr to oc ic : Int32} (hg : gN g 5 ≤ 60) (h5 : j ≠ 5) (h : j < 1078 ∨ 1378 ≤ j) : oPut (zwL g j v) f fr to oc ic = zwL (oPut g f fr to oc ic) j v := by
  unfold oPut
  rw [gN_n (Ne.symm h5)]
  have h1 : ∀ (g : Nat → Int64) (n : Nat), n < 60 → oPut1 (zwL g j v) n f fr to oc ic = zwL (oPut1 g n f fr to oc ic) j v := by
    intro g n hn
    unfold oPut1
    rw [zwL_comm (i := j) (x := v) (by omega), zwL_comm (i := j) (x := v) (by omega), zwL_comm (i := j) (x := v) (by omega), zwL_comm (i := j) (x := v) (by omega), zwL_comm (i := j) (x := v) (by omega), zwL_comm (i := j) (x := v) (by omega)]
  have h2 : oMsh (zwL g j v) = zwL (oMsh g) j v := by
    unfold oMsh
    rw [zwL_comm (Ne.symm h5)]
    congr 1
    funext k
    unfold zwL
    by_cases q : 1078 ≤ k ∧ k < 1373
    · rw [if_pos q, if_neg (by omega), if_neg (by omega)]; exact (if_pos q).symm
    · rw [if_neg q]
      by_cases q2 : k = j
      · rw [if_pos q2, if_pos q2]
      · rw [if_neg q2, if_neg q2]; exact (if_neg q).symm
  split
  · rw [h2, h1 _ _ (by omega)]
  · rw [h1 _ _ (by omega)]
theorem oPays_zwL {g : Nat → Int64} {j t k : Nat} {v x : Int64} (h : j ≠ 1378 + 3 * t + k) : oPays (zwL g j v) t k x = zwL (oPays g t k x) j v := by
  unfold oPays gp
  rw [zwL_n (Ne.symm h), zwL_comm h]
/-- a file goes to a tier -/
def oOut (g : Nat → Int64) (f : Nat) : Int32 := gf g f 0 * gt g (gN g (58 + 51 * f + 1)) 4
def oInc (g : Nat → Int64) (f t : Nat) : Int32 := gf g f 0 * gt g t 3
def oGo (g : Nat → Int64) (f t : Nat) : Nat → Int64 := oPut (oPays (oPays (zwL g (58 + 51 * f + 1) (nI t).toInt64) (gN g (58 + 51 * f + 1)) 2 (oOut g f).toInt64) t 2 (oInc g f t).toInt64) (nI f) (nI (gN g (58 + 51 * f + 1))) (nI t) (oOut g f) (oInc g f t)
theorem oGo_c {g : Nat → Int64} {f t : Nat} (hg : gN g 5 ≤ 60) (hf : f < 20) : zwL (oPays (oPays (oPut g (nI f) (nI (gN g (58 + 51 * f + 1))) (nI t) (oOut g f) (oInc g f t)) (gN g (58 + 51 * f + 1)) 2 (oOut g f).toInt64) t 2 (oInc g f t).toInt64) (58 + 51 * f + 1) (nI t).toInt64 = oGo g f t := by
  unfold oGo
  rw [oPays_zwL (by omega), oPays_zwL (by omega)]
  rw [oPut_zwL (by rw [gN_eq (oPays_n (by omega)), gN_eq (oPays_n (by omega))]; exact hg) (by omega) (by omega)]
  congr 1
  have h1 : ∀ (g : Nat → Int64) (a : Nat) (x : Int64), gN g 5 ≤ 60 → oPut (oPays g a 2 x) (nI f) (nI (gN g (58 + 51 * f + 1))) (nI t) (oOut g f) (oInc g f t) = oPays (oPut g (nI f) (nI (gN g (58 + 51 * f + 1))) (nI t) (oOut g f) (oInc g f t)) a 2 x := by
    intro g a x hg
    have e : gp (oPut g (nI f) (nI (gN g (58 + 51 * f + 1))) (nI t) (oOut g f) (oInc g f t)) a 2 = gp g a 2 := oPut_n hg (by omega) (by omega)
    unfold oPays
    rw [oPut_zwL hg (by omega) (by omega), e]
  have h2 : ∀ (g : Nat → Int64) (a : Nat) (x : Int64) (f fr to oc ic : Int32), gN g 5 ≤ 60 → oPut (oPays g a 2 x) f fr to oc ic = oPays (oPut g f fr to oc ic) a 2 x := by
    intro g a x f fr to oc ic hg
    have e : gp (oPut g f fr to oc ic) a 2 = gp g a 2 := oPut_n hg (by omega) (by omega)
    unfold oPays
    rw [oPut_zwL hg (by omega) (by omega), e]
  rw [h2 _ _ _ _ _ _ _ _ (by rw [gN_eq (oPays_n (by omega))]; exact hg), h2 _ _ _ _ _ _ _ _ hg]
section
variable {l : Launch} {G : zG}
theorem c_X5_carry1 (hl : l.stackTraces = false) {M : zMem} {s : Nat} {g : Nat → Int64} {p : Nat → Nat} (h : rSt M s g p) {f t : Nat} (hf : f < gN g 3) (ht : t < gN g 2) (hn60 : gN g 5 < 60) : zCm l G mX5_carry 3 70 0 0 [.ref s, .int (nI f), .int (nI t)] M (zU M s (some (.int (oOut g f + oInc g f t))) (oGo g f t) p) := by
  refine zCu.of (ls0 := [some (.ref s), some (.int (nI f)), some (.int (nI t)), none, none, none]) (by decide +kernel) rfl hl rfl (Nat.le_of_ble_eq_true rfl) ?_
  refine s_aload_n (zdk hX5_carry_0 0 rfl) rfl ?_
  refine s_getR (zdk hX5_carry_0 1 rfl) fw_X5_35 rfl (h.K) (h.r6) ?_
  refine s_iload_n (zdk hX5_carry_0 2 rfl) rfl ?_
  refine s_aaloadN (N := 20) (j := f) (zdk hX5_carry_0 3 rfl) (h.fK) (by decide) (h.fN) (h.fL hf) (by decide) (h.rR hf) ?_
  refine s_astore_n (zdk hX5_carry_0 4 rfl) (Nat.le_of_ble_eq_true rfl) ?_
  refine s_ls (ls' := [some (.ref s), some (.int (nI f)), some (.int (nI t)), some (.ref (s + 17 + 3 * p f)), none, none]) rfl ?_
  refine s_aload_n (zdk hX5_carry_0 5 rfl) rfl ?_
  refine s_getI (zdk hX5_carry_0 6 rfl) fw_X5_88 rfl ((h.rS hf).1) ?_
  refine s_topi (b := gf g f 0) (h.f1 hf) ?_
  refine s_aload_n (zdk hX5_carry_0 7 rfl) rfl ?_
  refine s_getR (zdk hX5_carry_0 8 rfl) fw_X5_29 rfl (h.K) (h.r5) ?_
  refine s_aload_n (zdk hX5_carry_0 9 rfl) rfl ?_
  refine s_getI (zdk hX5_carry_0 10 rfl) fw_X5_89 rfl ((h.rS hf).1) ?_
  refine s_topi (b := nI (gN g (58 + 51 * f + 1))) ((h.f2 hf).trans (h.b.on hf)) ?_
  refine s_aaloadN (N := 4) (j := (gN g (58 + 51 * f + 1))) (zdk hX5_carry_0 11 rfl) (h.tK) (by decide) (h.tN) (h.tL (h.b.onL hf)) (by decide) (h.tR (h.b.onL hf)) ?_
  refine s_getR (zdk hX5_carry_0 12 rfl) fw_X5_75 rfl ((h.tS (h.b.onL hf)).1) ((h.tS (h.b.onL hf)).2.1) ?_
  refine s_iconstv (v := nI 4) (zdk hX5_carry_0 13 rfl) zc_iconst_4 ?_
  refine s_ialoadN (N := 5) (j := 4) (zdk hX5_carry_0 14 rfl) ((h.tS (h.b.onL hf)).2.2.2.1) ((h.tS (h.b.onL hf)).2.2.2.2.1) (by omega) (by decide) ?_
  refine s_topi (b := gt g ((gN g (58 + 51 * f + 1))) (4)) (h.tk (h.b.onL hf) _ (by omega)) ?_
  refine s_imul (zdk hX5_carry_0 15 rfl) ?_
  refine s_istore (zdk hX5_carry_0 16 rfl) (Nat.le_of_ble_eq_true rfl) ?_
  refine s_ls (ls' := [some (.ref s), some (.int (nI f)), some (.int (nI t)), some (.ref (s + 17 + 3 * p f)), some (.int ((gf g f 0) * (gt g ((gN g (58 + 51 * f + 1))) (4)))), none]) rfl ?_
  refine s_aload_n (zdk hX5_carry_0 17 rfl) rfl ?_
  refine s_getI (zdk hX5_carry_0 18 rfl) fw_X5_88 rfl ((h.rS hf).1) ?_
  refine s_topi (b := gf g f 0) (h.f1 hf) ?_
  refine s_aload_n (zdk hX5_carry_0 19 rfl) rfl ?_
  refine s_getR (zdk hX5_carry_0 20 rfl) fw_X5_29 rfl (h.K) (h.r5) ?_
  refine s_iload_n (zdk hX5_carry_0 21 rfl) rfl ?_
  refine s_aaloadN (N := 4) (j := t) (zdk hX5_carry_0 22 rfl) (h.tK) (by decide) (h.tN) (h.tL ht) (by decide) (h.tR ht) ?_
  refine s_getR (zdk hX5_carry_0 23 rfl) fw_X5_75 rfl ((h.tS ht).1) ((h.tS ht).2.1) ?_
  refine s_iconstv (v := nI 3) (zdk hX5_carry_0 24 rfl) zc_iconst_3 ?_
  refine s_ialoadN (N := 5) (j := 3) (zdk hX5_carry_0 25 rfl) ((h.tS ht).2.2.2.1) ((h.tS ht).2.2.2.2.1) (by omega) (by decide) ?_
  refine s_topi (b := gt g t (3)) (h.tk ht _ (by omega)) ?_
  refine s_imul (zdk hX5_carry_0 26 rfl) ?_
  refine s_istore (zdk hX5_carry_0 27 rfl) (Nat.le_of_ble_eq_true rfl) ?_
  refine s_ls (ls' := [some (.ref s), some (.int (nI f)), some (.int (nI t)), some (.ref (s + 17 + 3 * p f)), some (.int ((gf g f 0) * (gt g ((gN g (58 + 51 * f + 1))) (4)))), some (.int ((gf g f 0) * (gt g t (3))))]) rfl ?_
  refine s_aload_n (zdk hX5_carry_0 28 rfl) rfl ?_
  refine s_getR (zdk hX5_carry_0 29 rfl) fw_X5_42 rfl (h.K) (h.r7) ?_
  refine s_iload_n (zdk hX5_carry_0 30 rfl) rfl ?_
  refine s_aload_n (zdk hX5_carry_0 31 rfl) rfl ?_
  refine s_getI (zdk hX5_carry_0 32 rfl) fw_X5_89 rfl ((h.rS hf).1) ?_
  refine s_topi (b := nI (gN g (58 + 51 * f + 1))) ((h.f2 hf).trans (h.b.on hf)) ?_
  refine s_iload_n (zdk hX5_carry_0 33 rfl) rfl ?_
  refine s_iload (zdk hX5_carry_0 34 rfl) rfl ?_
  refine s_iload (zdk hX5_carry_0 35 rfl) rfl ?_
  refine s_callV0 (ci := 2) [.int (nI f), .int (nI (gN g (58 + 51 * f + 1))), .int (nI t), .int ((gf g f 0) * (gt g ((gN g (58 + 51 * f + 1))) (4))), .int ((gf g f 0) * (gt g t (3)))] (zdk hX5_carry_0 36 rfl) cw_X5_145 (h.mS.1) (by decide) rfl rfl rfl (Nat.le_of_ble_eq_true rfl) (by decide) (c_X2_put hl h.mS h.mv0 hn60 _ _ _ _ _) ?_
  have hb5 := h.b.2.2.2.2.1.2
  have hf20 := h.fL hf
  have hq2 : gN (oPut g (nI f) (nI (gN g (58 + 51 * f + 1))) (nI t) (oOut g f) (oInc g f t)) 2 = gN g 2 := gN_eq (oPut_n hb5 (by decide) (by omega))
  have hq3 : gN (oPut g (nI f) (nI (gN g (58 + 51 * f + 1))) (nI t) (oOut g f) (oInc g f t)) 3 = gN g 3 := gN_eq (oPut_n hb5 (by decide) (by omega))
  refine s_to (P := fun M2 => zag M M2 (fun b => b < s ∨ s + 77 ≤ b) ∧ rSt M2 s (oPut g (nI f) (nI (gN g (58 + 51 * f + 1))) (nI t) (oOut g f) (oInc g f t)) p) (M1 := (zM_put M (s + 3) (gN g 5) (nI f) (nI (gN g (58 + 51 * f + 1))) (nI t) (oOut g f) (oInc g f t))) ⟨zag_put.mono (fun b hb => by omega), (h.put1 rfl hn60 hf (h.b.onL hf) ht).cong (by unfold oPut; rw [if_neg (by omega)])⟩ ?_
  rintro M2 ⟨e2, h2⟩
  have hf2 : f < gN (oPut g (nI f) (nI (gN g (58 + 51 * f + 1))) (nI t) (oOut g f) (oInc g f t)) 3 := by rw [hq3]; exact hf
  have ht2 : t < gN (oPut g (nI f) (nI (gN g (58 + 51 * f + 1))) (nI t) (oOut g f) (oInc g f t)) 2 := by rw [hq2]; exact ht
  have ho2 : (gN g (58 + 51 * f + 1)) < gN (oPut g (nI f) (nI (gN g (58 + 51 * f + 1))) (nI t) (oOut g f) (oInc g f t)) 2 := by rw [hq2]; exact h.b.onL hf
  have hon2 : gf (oPut g (nI f) (nI (gN g (58 + 51 * f + 1))) (nI t) (oOut g f) (oInc g f t)) f 1 = nI (gN g (58 + 51 * f + 1)) := (its_eq (oPut_n hb5 (by omega) (by omega))).trans (h.b.on hf)
  refine s_aload_n (zdk hX5_carry_0 37 rfl) rfl ?_
  refine s_getR (zdk hX5_carry_0 38 rfl) fw_X5_29 rfl (h2.K) (h2.r5) ?_
  refine s_aload_n (zdk hX5_carry_0 39 rfl) rfl ?_
  refine s_getI (zdk hX5_carry_0 40 rfl) fw_X5_89 rfl ((h2.rS hf2).1) ?_
  refine s_topi (b := nI (gN g (58 + 51 * f + 1))) ((h2.f2 hf2).trans hon2) ?_
  refine s_aaloadN (N := 4) (j := (gN g (58 + 51 * f + 1))) (zdk hX5_carry_0 41 rfl) (h2.tK) (by decide) (h2.tN) (h2.tL ho2) (by decide) (h2.tR ho2) ?_
  refine s_getR (zdk hX5_carry_0 42 rfl) fw_X5_141 rfl ((h2.tS ho2).1) ((h2.tS ho2).2.2.1) ?_
  refine s_iconstv (v := nI 2) (zdk hX5_carry_0 43 rfl) zc_iconst_2 ?_
  refine s_dup2ir (zdk hX5_carry_0 44 rfl) ?_
  refine s_laloadN (N := 3) (j := 2) (zdk hX5_carry_0 45 rfl) ((h2.tS ho2).2.2.2.2.2.1) ((h2.tS ho2).2.2.2.2.2.2) (by omega) (by decide) ?_
  refine s_topl (b := gp (oPut g (nI f) (nI (gN g (58 + 51 * f + 1))) (nI t) (oOut g f) (oInc g f t)) (gN g (58 + 51 * f + 1)) 2) (h2.tp ho2 2 (by omega)) ?_
  refine s_iload (zdk hX5_carry_0 46 rfl) rfl ?_
  refine s_i2l (zdk hX5_carry_0 47 rfl) ?_
  refine s_ladd (zdk hX5_carry_0 48 rfl) ?_
  refine s_lastoreN (N := 3) (j := 2) (zdk hX5_carry_0 49 rfl) ((h2.tS ho2).2.2.2.2.2.1) ((h2.tS ho2).2.2.2.2.2.2) (by omega) (by decide) ?_
  refine s_to (P := fun M3 => zag M M3 (fun b => b < s ∨ s + 77 ≤ b) ∧ rSt M3 s (oPays (oPut g (nI f) (nI (gN g (58 + 51 * f + 1))) (nI t) (oOut g f) (oInc g f t)) (gN g (58 + 51 * f + 1)) 2 (oOut g f).toInt64) p) (M1 := (zsJ M2 ((s + 5 + 3 * ((gN g (58 + 51 * f + 1)))) + 2) (2) ((gp (oPut g (nI f) (nI (gN g (58 + 51 * f + 1))) (nI t) (oOut g f) (oInc g f t)) (gN g (58 + 51 * f + 1)) 2) + (((gf g f 0) * (gt g ((gN g (58 + 51 * f + 1))) (4))).toInt64)))) ⟨e2.trans ((zag_J _ _ _ _).mono fun b hb => by have := h2.tL ho2; omega), h2.paid ho2 (k := 2) (by omega)⟩ ?_
  rintro M3 ⟨e3, h3⟩
  have hf3 : f < gN (oPays (oPut g (nI f) (nI (gN g (58 + 51 * f + 1))) (nI t) (oOut g f) (oInc g f t)) (gN g (58 + 51 * f + 1)) 2 (oOut g f).toInt64) 3 := by rw [gN_eq (oPays_n (by omega))]; exact hf2
  have ht3 : t < gN (oPays (oPut g (nI f) (nI (gN g (58 + 51 * f + 1))) (nI t) (oOut g f) (oInc g f t)) (gN g (58 + 51 * f + 1)) 2 (oOut g f).toInt64) 2 := by rw [gN_eq (oPays_n (by omega))]; exact ht2
  refine s_aload_n (zdk hX5_carry_0 50 rfl) rfl ?_
  refine s_getR (zdk hX5_carry_0 51 rfl) fw_X5_29 rfl (h3.K) (h3.r5) ?_
  refine s_iload_n (zdk hX5_carry_0 52 rfl) rfl ?_
  refine s_aaloadN (N := 4) (j := t) (zdk hX5_carry_0 53 rfl) (h3.tK) (by decide) (h3.tN) (h3.tL ht3) (by decide) (h3.tR ht3) ?_
  refine s_getR (zdk hX5_carry_0 54 rfl) fw_X5_141 rfl ((h3.tS ht3).1) ((h3.tS ht3).2.2.1) ?_
  refine s_iconstv (v := nI 2) (zdk hX5_carry_0 55 rfl) zc_iconst_2 ?_
  refine s_dup2ir (zdk hX5_carry_0 56 rfl) ?_
  refine s_laloadN (N := 3) (j := 2) (zdk hX5_carry_0 57 rfl) ((h3.tS ht3).2.2.2.2.2.1) ((h3.tS ht3).2.2.2.2.2.2) (by omega) (by decide) ?_
  refine s_topl (b := gp (oPays (oPut g (nI f) (nI (gN g (58 + 51 * f + 1))) (nI t) (oOut g f) (oInc g f t)) (gN g (58 + 51 * f + 1)) 2 (oOut g f).toInt64) t 2) (h3.tp ht3 2 (by omega)) ?_
  refine s_iload (zdk hX5_carry_0 58 rfl) rfl ?_
  refine s_i2l (zdk hX5_carry_0 59 rfl) ?_
  refine s_ladd (zdk hX5_carry_1 0 rfl) ?_
  refine s_lastoreN (N := 3) (j := 2) (zdk hX5_carry_1 1 rfl) ((h3.tS ht3).2.2.2.2.2.1) ((h3.tS ht3).2.2.2.2.2.2) (by omega) (by decide) ?_
  refine s_to (P := fun M4 => zag M M4 (fun b => b < s ∨ s + 77 ≤ b) ∧ rSt M4 s (oPays (oPays (oPut g (nI f) (nI (gN g (58 + 51 * f + 1))) (nI t) (oOut g f) (oInc g f t)) (gN g (58 + 51 * f + 1)) 2 (oOut g f).toInt64) t 2 (oInc g f t).toInt64) p) (M1 := (zsJ M3 ((s + 5 + 3 * t) + 2) (2) ((gp (oPays (oPut g (nI f) (nI (gN g (58 + 51 * f + 1))) (nI t) (oOut g f) (oInc g f t)) (gN g (58 + 51 * f + 1)) 2 (oOut g f).toInt64) t 2) + (((gf g f 0) * (gt g t (3))).toInt64)))) ⟨e3.trans ((zag_J _ _ _ _).mono fun b hb => by have := h3.tL ht3; omega), h3.paid ht3 (k := 2) (by omega)⟩ ?_
  rintro M4 ⟨e4, h4⟩
  have hf4 : f < gN (oPays (oPays (oPut g (nI f) (nI (gN g (58 + 51 * f + 1))) (nI t) (oOut g f) (oInc g f t)) (gN g (58 + 51 * f + 1)) 2 (oOut g f).toInt64) t 2 (oInc g f t).toInt64) 3 := by rw [gN_eq (oPays_n (by omega))]; exact hf3
  have ht4 : t < gN (oPays (oPays (oPut g (nI f) (nI (gN g (58 + 51 * f + 1))) (nI t) (oOut g f) (oInc g f t)) (gN g (58 + 51 * f + 1)) 2 (oOut g f).toInt64) t 2 (oInc g f t).toInt64) 2 := by rw [gN_eq (oPays_n (by omega))]; exact ht3
  have hp4 := h4.pL hf20
  refine s_aload_n (zdk hX5_carry_1 2 rfl) rfl ?_
  refine s_iload_n (zdk hX5_carry_1 3 rfl) rfl ?_
  refine s_putI (zdk hX5_carry_1 4 rfl) fw_X5_89 rfl pw_0_2 ((h4.rS hf4).1) ?_
  refine s_iload (zdk hX5_carry_1 5 rfl) rfl ?_
  refine s_iload (zdk hX5_carry_1 6 rfl) rfl ?_
  refine s_iadd (zdk hX5_carry_1 7 rfl) ?_
  refine s_ireturn (zdk hX5_carry_1 8 rfl) rfl rfl ?_
  exact ⟨rfl, e4.trans ((zag_I _ _ _ _).mono fun b hb => by omega), (h4.home hf4 ht4).cong (oGo_c hb5 hf20)⟩
theorem c_X5_carry2 (hl : l.stackTraces = false) {M : zMem} {s : Nat} {g : Nat → Int64} {p : Nat → Nat} (h : rSt M s g p) {f t : Nat} (hf : f < gN g 3) (ht : t < gN g 2) (hn60 : gN g 5 = 60) : zCm l G mX5_carry 3 70 0 0 [.ref s, .int (nI f), .int (nI t)] M (zU M s (some (.int (oOut g f + oInc g f t))) (oGo g f t) p) := by
  refine zCu.of (ls0 := [some (.ref s), some (.int (nI f)), some (.int (nI t)), none, none, none]) (by decide +kernel) rfl hl rfl (Nat.le_of_ble_eq_true rfl) ?_
  refine s_aload_n (zdk hX5_carry_0 0 rfl) rfl ?_
  refine s_getR (zdk hX5_carry_0 1 rfl) fw_X5_35 rfl (h.K) (h.r6) ?_
  refine s_iload_n (zdk hX5_carry_0 2 rfl) rfl ?_
  refine s_aaloadN (N := 20) (j := f) (zdk hX5_carry_0 3 rfl) (h.fK) (by decide) (h.fN) (h.fL hf) (by decide) (h.rR hf) ?_
  refine s_astore_n (zdk hX5_carry_0 4 rfl) (Nat.le_of_ble_eq_true rfl) ?_
  refine s_ls (ls' := [some (.ref s), some (.int (nI f)), some (.int (nI t)), some (.ref (s + 17 + 3 * p f)), none, none]) rfl ?_
  refine s_aload_n (zdk hX5_carry_0 5 rfl) rfl ?_
  refine s_getI (zdk hX5_carry_0 6 rfl) fw_X5_88 rfl ((h.rS hf).1) ?_
  refine s_topi (b := gf g f 0) (h.f1 hf) ?_
  refine s_aload_n (zdk hX5_carry_0 7 rfl) rfl ?_
  refine s_getR (zdk hX5_carry_0 8 rfl) fw_X5_29 rfl (h.K) (h.r5) ?_
  refine s_aload_n (zdk hX5_carry_0 9 rfl) rfl ?_
  refine s_getI (zdk hX5_carry_0 10 rfl) fw_X5_89 rfl ((h.rS hf).1) ?_
  refine s_topi (b := nI (gN g (58 + 51 * f + 1))) ((h.f2 hf).trans (h.b.on hf)) ?_
  refine s_aaloadN (N := 4) (j := (gN g (58 + 51 * f + 1))) (zdk hX5_carry_0 11 rfl) (h.tK) (by decide) (h.tN) (h.tL (h.b.onL hf)) (by decide) (h.tR (h.b.onL hf)) ?_
  refine s_getR (zdk hX5_carry_0 12 rfl) fw_X5_75 rfl ((h.tS (h.b.onL hf)).1) ((h.tS (h.b.onL hf)).2.1) ?_
  refine s_iconstv (v := nI 4) (zdk hX5_carry_0 13 rfl) zc_iconst_4 ?_
  refine s_ialoadN (N := 5) (j := 4) (zdk hX5_carry_0 14 rfl) ((h.tS (h.b.onL hf)).2.2.2.1) ((h.tS (h.b.onL hf)).2.2.2.2.1) (by omega) (by decide) ?_
  refine s_topi (b := gt g ((gN g (58 + 51 * f + 1))) (4)) (h.tk (h.b.onL hf) _ (by omega)) ?_
  refine s_imul (zdk hX5_carry_0 15 rfl) ?_
  refine s_istore (zdk hX5_carry_0 16 rfl) (Nat.le_of_ble_eq_true rfl) ?_
  refine s_ls (ls' := [some (.ref s), some (.int (nI f)), some (.int (nI t)), some (.ref (s + 17 + 3 * p f)), some (.int ((gf g f 0) * (gt g ((gN g (58 + 51 * f + 1))) (4)))), none]) rfl ?_
  refine s_aload_n (zdk hX5_carry_0 17 rfl) rfl ?_
  refine s_getI (zdk hX5_carry_0 18 rfl) fw_X5_88 rfl ((h.rS hf).1) ?_
  refine s_topi (b := gf g f 0) (h.f1 hf) ?_
  refine s_aload_n (zdk hX5_carry_0 19 rfl) rfl ?_
  refine s_getR (zdk hX5_carry_0 20 rfl) fw_X5_29 rfl (h.K) (h.r5) ?_
  refine s_iload_n (zdk hX5_carry_0 21 rfl) rfl ?_
  refine s_aaloadN (N := 4) (j := t) (zdk hX5_carry_0 22 rfl) (h.tK) (by decide) (h.tN) (h.tL ht) (by decide) (h.tR ht) ?_
  refine s_getR (zdk hX5_carry_0 23 rfl) fw_X5_75 rfl ((h.tS ht).1) ((h.tS ht).2.1) ?_
  refine s_iconstv (v := nI 3) (zdk hX5_carry_0 24 rfl) zc_iconst_3 ?_
  refine s_ialoadN (N := 5) (j := 3) (zdk hX5_carry_0 25 rfl) ((h.tS ht).2.2.2.1) ((h.tS ht).2.2.2.2.1) (by omega) (by decide) ?_
  refine s_topi (b := gt g t (3)) (h.tk ht _ (by omega)) ?_
  refine s_imul (zdk hX5_carry_0 26 rfl) ?_
  refine s_istore (zdk hX5_carry_0 27 rfl) (Nat.le_of_ble_eq_true rfl) ?_
  refine s_ls (ls' := [some (.ref s), some (.int (nI f)), some (.int (nI t)), some (.ref (s + 17 + 3 * p f)), some (.int ((gf g f 0) * (gt g ((gN g (58 + 51 * f + 1))) (4)))), some (.int ((gf g f 0) * (gt g t (3))))]) rfl ?_
  refine s_aload_n (zdk hX5_carry_0 28 rfl) rfl ?_
  refine s_getR (zdk hX5_carry_0 29 rfl) fw_X5_42 rfl (h.K) (h.r7) ?_
  refine s_iload_n (zdk hX5_carry_0 30 rfl) rfl ?_
  refine s_aload_n (zdk hX5_carry_0 31 rfl) rfl ?_
  refine s_getI (zdk hX5_carry_0 32 rfl) fw_X5_89 rfl ((h.rS hf).1) ?_
  refine s_topi (b := nI (gN g (58 + 51 * f + 1))) ((h.f2 hf).trans (h.b.on hf)) ?_
  refine s_iload_n (zdk hX5_carry_0 33 rfl) rfl ?_
  refine s_iload (zdk hX5_carry_0 34 rfl) rfl ?_
  refine s_iload (zdk hX5_carry_0 35 rfl) rfl ?_
  refine s_callV0 (ci := 2) [.int (nI f), .int (nI (gN g (58 + 51 * f + 1))), .int (nI t), .int ((gf g f 0) * (gt g ((gN g (58 + 51 * f + 1))) (4))), .int ((gf g f 0) * (gt g t (3)))] (zdk hX5_carry_0 36 rfl) cw_X5_145 (h.mS.1) (by decide) rfl rfl rfl (Nat.le_of_ble_eq_true rfl) (by decide) (c_X2_put60 hl h.mS (h.mv0.trans (by rw [hn60])) _ _ _ _ _) ?_
  have hb5 := h.b.2.2.2.2.1.2
  have hf20 := h.fL hf
  have hq2 : gN (oPut g (nI f) (nI (gN g (58 + 51 * f + 1))) (nI t) (oOut g f) (oInc g f t)) 2 = gN g 2 := gN_eq (oPut_n hb5 (by decide) (by omega))
  have hq3 : gN (oPut g (nI f) (nI (gN g (58 + 51 * f + 1))) (nI t) (oOut g f) (oInc g f t)) 3 = gN g 3 := gN_eq (oPut_n hb5 (by decide) (by omega))
  refine s_to (P := fun M2 => zag M M2 (fun b => b < s ∨ s + 77 ≤ b) ∧ rSt M2 s (oPut g (nI f) (nI (gN g (58 + 51 * f + 1))) (nI t) (oOut g f) (oInc g f t)) p) (M1 := (zM_put (zM_rm M (s + 3) 60 0) (s + 3) 59 (nI f) (nI (gN g (58 + 51 * f + 1))) (nI t) (oOut g f) (oInc g f t))) ⟨(((zag_A _ _ _).mono fun b hb => by omega).trans ((zag_I _ _ _ _).mono fun b hb => by omega)).trans (zag_put.mono (fun b hb => by omega)), ((h.rm0 hn60).put1 (gN_of (by unfold oMsh; rw [its_e, i64]) (by decide)) (by decide) (by rw [gN_eq (oMsh_n (by decide) (by omega))]; exact hf) (by rw [gN_eq (oMsh_n (by decide) (by omega))]; exact h.b.onL hf) (by rw [gN_eq (oMsh_n (by decide) (by omega))]; exact ht)).cong (by unfold oPut; rw [if_pos hn60])⟩ ?_
  rintro M2 ⟨e2, h2⟩
  have hf2 : f < gN (oPut g (nI f) (nI (gN g (58 + 51 * f + 1))) (nI t) (oOut g f) (oInc g f t)) 3 := by rw [hq3]; exact hf
  have ht2 : t < gN (oPut g (nI f) (nI (gN g (58 + 51 * f + 1))) (nI t) (oOut g f) (oInc g f t)) 2 := by rw [hq2]; exact ht
  have ho2 : (gN g (58 + 51 * f + 1)) < gN (oPut g (nI f) (nI (gN g (58 + 51 * f + 1))) (nI t) (oOut g f) (oInc g f t)) 2 := by rw [hq2]; exact h.b.onL hf
  have hon2 : gf (oPut g (nI f) (nI (gN g (58 + 51 * f + 1))) (nI t) (oOut g f) (oInc g f t)) f 1 = nI (gN g (58 + 51 * f + 1)) := (its_eq (oPut_n hb5 (by omega) (by omega))).trans (h.b.on hf)
  refine s_aload_n (zdk hX5_carry_0 37 rfl) rfl ?_
  refine s_getR (zdk hX5_carry_0 38 rfl) fw_X5_29 rfl (h2.K) (h2.r5) ?_
  refine s_aload_n (zdk hX5_carry_0 39 rfl) rfl ?_
  refine s_getI (zdk hX5_carry_0 40 rfl) fw_X5_89 rfl ((h2.rS hf2).1) ?_
  refine s_topi (b := nI (gN g (58 + 51 * f + 1))) ((h2.f2 hf2).trans hon2) ?_
  refine s_aaloadN (N := 4) (j := (gN g (58 + 51 * f + 1))) (zdk hX5_carry_0 41 rfl) (h2.tK) (by decide) (h2.tN) (h2.tL ho2) (by decide) (h2.tR ho2) ?_
  refine s_getR (zdk hX5_carry_0 42 rfl) fw_X5_141 rfl ((h2.tS ho2).1) ((h2.tS ho2).2.2.1) ?_
  refine s_iconstv (v := nI 2) (zdk hX5_carry_0 43 rfl) zc_iconst_2 ?_
  refine s_dup2ir (zdk hX5_carry_0 44 rfl) ?_
  refine s_laloadN (N := 3) (j := 2) (zdk hX5_carry_0 45 rfl) ((h2.tS ho2).2.2.2.2.2.1) ((h2.tS ho2).2.2.2.2.2.2) (by omega) (by decide) ?_
  refine s_topl (b := gp (oPut g (nI f) (nI (gN g (58 + 51 * f + 1))) (nI t) (oOut g f) (oInc g f t)) (gN g (58 + 51 * f + 1)) 2) (h2.tp ho2 2 (by omega)) ?_
  refine s_iload (zdk hX5_carry_0 46 rfl) rfl ?_
  refine s_i2l (zdk hX5_carry_0 47 rfl) ?_
  refine s_ladd (zdk hX5_carry_0 48 rfl) ?_
  refine s_lastoreN (N := 3) (j := 2) (zdk hX5_carry_0 49 rfl) ((h2.tS ho2).2.2.2.2.2.1) ((h2.tS ho2).2.2.2.2.2.2) (by omega) (by decide) ?_
  refine s_to (P := fun M3 => zag M M3 (fun b => b < s ∨ s + 77 ≤ b) ∧ rSt M3 s (oPays (oPut g (nI f) (nI (gN g (58 + 51 * f + 1))) (nI t) (oOut g f) (oInc g f t)) (gN g (58 + 51 * f + 1)) 2 (oOut g f).toInt64) p) (M1 := (zsJ M2 ((s + 5 + 3 * ((gN g (58 + 51 * f + 1)))) + 2) (2) ((gp (oPut g (nI f) (nI (gN g (58 + 51 * f + 1))) (nI t) (oOut g f) (oInc g f t)) (gN g (58 + 51 * f + 1)) 2) + (((gf g f 0) * (gt g ((gN g (58 + 51 * f + 1))) (4))).toInt64)))) ⟨e2.trans ((zag_J _ _ _ _).mono fun b hb => by have := h2.tL ho2; omega), h2.paid ho2 (k := 2) (by omega)⟩ ?_
  rintro M3 ⟨e3, h3⟩
  have hf3 : f < gN (oPays (oPut g (nI f) (nI (gN g (58 + 51 * f + 1))) (nI t) (oOut g f) (oInc g f t)) (gN g (58 + 51 * f + 1)) 2 (oOut g f).toInt64) 3 := by rw [gN_eq (oPays_n (by omega))]; exact hf2
  have ht3 : t < gN (oPays (oPut g (nI f) (nI (gN g (58 + 51 * f + 1))) (nI t) (oOut g f) (oInc g f t)) (gN g (58 + 51 * f + 1)) 2 (oOut g f).toInt64) 2 := by rw [gN_eq (oPays_n (by omega))]; exact ht2
  refine s_aload_n (zdk hX5_carry_0 50 rfl) rfl ?_
  refine s_getR (zdk hX5_carry_0 51 rfl) fw_X5_29 rfl (h3.K) (h3.r5) ?_
  refine s_iload_n (zdk hX5_carry_0 52 rfl) rfl ?_
  refine s_aaloadN (N := 4) (j := t) (zdk hX5_carry_0 53 rfl) (h3.tK) (by decide) (h3.tN) (h3.tL ht3) (by decide) (h3.tR ht3) ?_
  refine s_getR (zdk hX5_carry_0 54 rfl) fw_X5_141 rfl ((h3.tS ht3).1) ((h3.tS ht3).2.2.1) ?_
  refine s_iconstv (v := nI 2) (zdk hX5_carry_0 55 rfl) zc_iconst_2 ?_
  refine s_dup2ir (zdk hX5_carry_0 56 rfl) ?_
  refine s_laloadN (N := 3) (j := 2) (zdk hX5_carry_0 57 rfl) ((h3.tS ht3).2.2.2.2.2.1) ((h3.tS ht3).2.2.2.2.2.2) (by omega) (by decide) ?_
  refine s_topl (b := gp (oPays (oPut g (nI f) (nI (gN g (58 + 51 * f + 1))) (nI t) (oOut g f) (oInc g f t)) (gN g (58 + 51 * f + 1)) 2 (oOut g f).toInt64) t 2) (h3.tp ht3 2 (by omega)) ?_
  refine s_iload (zdk hX5_carry_0 58 rfl) rfl ?_
  refine s_i2l (zdk hX5_carry_0 59 rfl) ?_
  refine s_ladd (zdk hX5_carry_1 0 rfl) ?_
  refine s_lastoreN (N := 3) (j := 2) (zdk hX5_carry_1 1 rfl) ((h3.tS ht3).2.2.2.2.2.1) ((h3.tS ht3).2.2.2.2.2.2) (by omega) (by decide) ?_
  refine s_to (P := fun M4 => zag M M4 (fun b => b < s ∨ s + 77 ≤ b) ∧ rSt M4 s (oPays (oPays (oPut g (nI f) (nI (gN g (58 + 51 * f + 1))) (nI t) (oOut g f) (oInc g f t)) (gN g (58 + 51 * f + 1)) 2 (oOut g f).toInt64) t 2 (oInc g f t).toInt64) p) (M1 := (zsJ M3 ((s + 5 + 3 * t) + 2) (2) ((gp (oPays (oPut g (nI f) (nI (gN g (58 + 51 * f + 1))) (nI t) (oOut g f) (oInc g f t)) (gN g (58 + 51 * f + 1)) 2 (oOut g f).toInt64) t 2) + (((gf g f 0) * (gt g t (3))).toInt64)))) ⟨e3.trans ((zag_J _ _ _ _).mono fun b hb => by have := h3.tL ht3; omega), h3.paid ht3 (k := 2) (by omega)⟩ ?_
  rintro M4 ⟨e4, h4⟩
  have hf4 : f < gN (oPays (oPays (oPut g (nI f) (nI (gN g (58 + 51 * f + 1))) (nI t) (oOut g f) (oInc g f t)) (gN g (58 + 51 * f + 1)) 2 (oOut g f).toInt64) t 2 (oInc g f t).toInt64) 3 := by rw [gN_eq (oPays_n (by omega))]; exact hf3
  have ht4 : t < gN (oPays (oPays (oPut g (nI f) (nI (gN g (58 + 51 * f + 1))) (nI t) (oOut g f) (oInc g f t)) (gN g (58 + 51 * f + 1)) 2 (oOut g f).toInt64) t 2 (oInc g f t).toInt64) 2 := by rw [gN_eq (oPays_n (by omega))]; exact ht3
  have hp4 := h4.pL hf20
  refine s_aload_n (zdk hX5_carry_1 2 rfl) rfl ?_
  refine s_iload_n (zdk hX5_carry_1 3 rfl) rfl ?_
  refine s_putI (zdk hX5_carry_1 4 rfl) fw_X5_89 rfl pw_0_2 ((h4.rS hf4).1) ?_
  refine s_iload (zdk hX5_carry_1 5 rfl) rfl ?_
  refine s_iload (zdk hX5_carry_1 6 rfl) rfl ?_
  refine s_iadd (zdk hX5_carry_1 7 rfl) ?_
  refine s_ireturn (zdk hX5_carry_1 8 rfl) rfl rfl ?_
  exact ⟨rfl, e4.trans ((zag_I _ _ _ _).mono fun b hb => by omega), (h4.home hf4 ht4).cong (oGo_c hb5 hf20)⟩
theorem c_X5_carry (hl : l.stackTraces = false) {M : zMem} {s : Nat} {g : Nat → Int64} {p : Nat → Nat} (h : rSt M s g p) {f t : Nat} (hf : f < gN g 3) (ht : t < gN g 2) : zCm l G mX5_carry 3 70 0 0 [.ref s, .int (nI f), .int (nI t)] M (zU M s (some (.int (oOut g f + oInc g f t))) (oGo g f t) p) := by
  have := h.b.2.2.2.2.1.2
  by_cases q : gN g 5 = 60
  · exact c_X5_carry2 hl h hf ht q
  · exact c_X5_carry1 hl h hf ht (by omega)
end
