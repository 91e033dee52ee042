/-! ===== the class's reader, told by the reference's states ===== -/
def eB (M : zMem) (a n : Nat) (u : Nat → Int32) : Prop := eSh M a ∧ zI M a 0 = nI n ∧ n ≤ 600 ∧ zI M (a + 1) = u
/-- from M the class's reader came to M1, where it tells what r' tells -/
def eR (M M1 : zMem) (a n : Nat) (u : Nat → Int32) (r' : rRd) : Prop := zag M M1 (fun c => c ≠ a) ∧ zR M1 a = zR M a ∧ zI M1 a 0 = zI M a 0 ∧ ((r'.2.2.2.2.1 = 0 ∧ zI M1 a 1 = zI M a 1 ∧ ∃ p, zI M1 a 3 = nI p ∧ eSy u n p r') ∨ (¬ r'.2.2.2.2.1 = 0 ∧ zI M1 a 4 = r'.2.2.2.2.1 ∧ zI M1 a 1 = r'.2.2.2.2.2))
def eQ (M : zMem) (a n : Nat) (u : Nat → Int32) (r' : rRd) : zOut → zMem → Prop := fun o M1 => o = .inl (some (.int (if r'.2.2.2.2.1 = 0 then nI 1 else nI 0))) ∧ eR M M1 a n u r'
theorem eB.keep {M M1 : zMem} {a n : Nat} {u : Nat → Int32} {r' : rRd} (h : eB M a n u) (q : eR M M1 a n u r') : eB M1 a n u := by
  obtain ⟨h1, h2, h3, h4⟩ := h
  obtain ⟨q1, q2, q3, -⟩ := q
  refine ⟨?_, q3.trans h2, h3, ?_⟩
  · unfold eSh at *
    rw [zsh_K q1.1, zsh_K q1.1, zsh_N q1.1, q2]
    exact h1
  · rw [(q1.2 (a + 1) (by omega)).1]; exact h4
theorem eR.y {M M1 : zMem} {a n : Nat} {u : Nat → Int32} {r' : rRd} (h : eR M M1 a n u r') (w : r'.2.2.2.2.1 = 0) : zI M1 a 1 = zI M a 1 ∧ ∃ p, zI M1 a 3 = nI p ∧ eSy u n p r' := by
  rcases h.2.2.2 with q | q
  · exact q.2
  · exact absurd w q.1
theorem eR.n {M M1 : zMem} {a n : Nat} {u : Nat → Int32} {r' : rRd} (h : eR M M1 a n u r') (w : ¬ r'.2.2.2.2.1 = 0) : zI M1 a 4 = r'.2.2.2.2.1 ∧ zI M1 a 1 = r'.2.2.2.2.2 := by
  rcases h.2.2.2 with q | q
  · exact absurd q.1 w
  · exact q.2
/-- one behind the other -/
theorem eR.tr {M M1 M2 : zMem} {a n : Nat} {u : Nat → Int32} {r1 r2 : rRd} (h : eR M M1 a n u r1) (w : r1.2.2.2.2.1 = 0) (q : eR M1 M2 a n u r2) : eR M M2 a n u r2 := by
  refine ⟨h.1.trans q.1, q.2.1.trans h.2.1, q.2.2.1.trans h.2.2.1, ?_⟩
  rcases q.2.2.2 with z | z
  · exact Or.inl ⟨z.1, z.2.1.trans (h.y w).1, z.2.2⟩
  · exact Or.inr z
theorem eR_fail {M Mx : zMem} {a n : Nat} {u : Nat → Int32} {r : rRd} {c x : Int32} (e1 : zag M Mx (fun c => c ≠ a)) (e2 : zR Mx a = zR M a) (e3 : zI Mx a 0 = zI M a 0) (w : r.2.2.2.2.1 = 0) (hc : ¬ c = 0) (hx : x = nI r.1) : eR M (zsI (zsI Mx a 4 c) a 1 x) a n u (rFl r c) := by
  refine ⟨e1.trans ((zag_I Mx a 4 c).trans (zag_I _ a 1 x)), e2, ?_, Or.inr ⟨?_, ?_, ?_⟩⟩
  · rw [zI_Ie, zw1_n (by decide), zI_Ie, zw1_n (by decide)]; exact e3
  · rw [rFl_w w]; exact hc
  · rw [zI_Ie, zw1_n (by decide), zI_Ie, zw1_e, rFl_w w]
  · rw [zI_Ie, zw1_e, rFl_y w]; exact hx
theorem eR_go {M M1 : zMem} {a n p : Nat} {u : Nat → Int32} {r : rRd} (e1 : zag M M1 (fun c => c ≠ a)) (e2 : zR M1 a = zR M a) (e3 : zI M1 a 0 = zI M a 0) (e4 : zI M1 a 1 = zI M a 1) (e5 : zI M1 a 3 = nI p) (hs : eSy u n p r) : eR M M1 a n u r :=
  ⟨e1, e2, e3, Or.inl ⟨hs.2.1, e4, p, e5, hs⟩⟩
theorem eR_at {M : zMem} {a n p q : Nat} {u : Nat → Int32} {r : rRd} (hs : eSy u n p r) (hq : q = p) : eR M (zsI M a 3 (nI q)) a n u r :=
  eR_go (p := p) (zag_I M a 3 _) rfl ((congrFun zI_Ie 0).trans (zw1_n (by decide))) ((congrFun zI_Ie 1).trans (zw1_n (by decide))) ((congrFun zI_Ie 3).trans (zw1_e.trans (by rw [hq]))) hs
section
variable {l : Launch} {G : zG}
theorem e_word (hl : l.stackTraces = false) {M : zMem} {a n p : Nat} {u : Nat → Int32} {r : rRd} (hb : eB M a n u) (hp : zI M a 3 = nI p) (hs : eSy u n p r) {w : Nat} (hw : w < 6) : zCm l G mX4_nextIsWord 4 120 0 0 [.ref a, .ref (1000000 + w)] M (fun o M1 => o = .inl (some (.int (rIw u w r))) ∧ eR M M1 a n u r ∧ zI M1 a 3 = nI r.1 ∧ zI M1 a 5 = zI M a 5) := by
  obtain ⟨h1, h2, h3, rfl⟩ := hb
  refine zCm.imp (c_X4_nextIsWord hl h1 h2 h3 hp hs.1 hw) (fun v M1 q => ?_)
  obtain ⟨q1, rfl⟩ := q
  have c := eSy_cs hs rfl
  refine ⟨q1.trans ?_, eR_at hs.at c.1.symm, ?_, ?_⟩
  · rw [← zwq_rIw hs hw]; rfl
  · exact (congrFun zI_Ie 3).trans (zw1_e.trans (by rw [c.1]))
  · exact (congrFun zI_Ie 5).trans (zw1_n (by decide))
theorem e_pass (hl : l.stackTraces = false) {M : zMem} {a n p : Nat} {u : Nat → Int32} {r : rRd} (hb : eB M a n u) (hp : zI M a 3 = nI p) (hs : eSy u n p r) {w : Nat} (hw : w < 6) : zCm l G mX4_passWord 5 150 0 0 [.ref a, .ref (1000000 + w)] M (eQ M a n u (rMu u n (rIw u w r) r)) := by
  obtain ⟨h1, h2, h3, rfl⟩ := hb
  refine zCm.imp (c_X4_passWord hl h1 h2 h3 hp hs.1 hw) (fun v M1 q => ?_)
  obtain ⟨q1, rfl⟩ := q
  rw [zwq_rIw hs hw] at q1 ⊢
  obtain ⟨j, hj⟩ : ∃ j, zsk (zI M (a + 1)) n (n - p) p = j := ⟨_, rfl⟩
  have c := eSy_cs hs hj
  rw [hj]
  by_cases z : rIw (zI M (a + 1)) w r = 0
  · rw [if_pos z] at q1 ⊢
    have e : rMu (zI M (a + 1)) n (rIw (zI M (a + 1)) w r) r = rFl r (-2) := if_pos z
    rw [e]
    refine ⟨q1.trans ?_, eR_fail (zag_I M a 3 _) rfl ((congrFun zI_Ie 0).trans (zw1_n (by decide))) hs.2.1 (by decide) (by rw [c.1])⟩
    rw [if_neg (by rw [rFl_w hs.2.1]; decide)]
  · rw [if_neg z] at q1 ⊢
    have e : rMu (zI M (a + 1)) n (rIw (zI M (a + 1)) w r) r = rNx (zI M (a + 1)) n r := (if_neg z).trans (if_pos hs.2.1)
    rw [e]
    have k := rIw_wr z
    have ok := hs.ok
    refine ⟨q1.trans ?_, eR_at hs.nx (by have := k.2.2.1; have := ok.1; have := zLl_2 hw; have := c.1; omega)⟩
    rw [if_pos hs.nx.2.1]
theorem e_semi (hl : l.stackTraces = false) {M : zMem} {a n p : Nat} {u : Nat → Int32} {r : rRd} (hb : eB M a n u) (hp : zI M a 3 = nI p) (hs : eSy u n p r) : zCm l G mX4_passSemicolon 1 24 0 0 [.ref a] M (eQ M a n u (rEn u n r)) := by
  obtain ⟨h1, h2, h3, rfl⟩ := hb
  refine zCm.imp (c_X4_passSemicolon hl h1 h2 h3 hp hs.1) (fun v M1 q => ?_)
  obtain ⟨q1, rfl⟩ := q
  obtain ⟨j, hj⟩ : ∃ j, zsk (zI M (a + 1)) n (n - p) p = j := ⟨_, rfl⟩
  have c := eSy_cs hs hj
  have ie := rEn_iff hs hj
  rw [hj] at q1 ⊢
  by_cases z : zrb (zI M (a + 1)) n j = nI 59
  · rw [if_pos z] at q1 ⊢
    have e : rEn (zI M (a + 1)) n r = rNx (zI M (a + 1)) n r := by
      unfold rEn
      rw [if_pos (ie.mpr z)]
      exact (if_neg (by decide)).trans (if_pos hs.2.1)
    rw [e]
    refine ⟨q1.trans ?_, eR_at hs.nx (rEn_be hs hj z).symm⟩
    rw [if_pos hs.nx.2.1]
  · rw [if_neg z] at q1 ⊢
    have e : rEn (zI M (a + 1)) n r = rFl r (-2) := by
      unfold rEn
      rw [if_neg (fun q => z (ie.mp q))]
      exact if_pos rfl
    rw [e]
    refine ⟨q1.trans ?_, eR_fail (zag_I M a 3 _) rfl ((congrFun zI_Ie 0).trans (zw1_n (by decide))) hs.2.1 (by decide) (by rw [c.1])⟩
    rw [if_neg (by rw [rFl_w hs.2.1]; decide)]
theorem e_name (hl : l.stackTraces = false) {M : zMem} {a n p : Nat} {u : Nat → Int32} {r : rRd} (hb : eB M a n u) (hp : zI M a 3 = nI p) (hs : eSy u n p r) : zCm l G mX4_readName 1 30 0 0 [.ref a] M (fun o M1 => o = .inl (some (.int (if (rMn r).2.2.2.2.1 = 0 then nI 1 else nI 0))) ∧ eR M M1 a n u (if (rMn r).2.2.2.2.1 = 0 then rNx u n r else rMn r) ∧ ((rMn r).2.2.2.2.1 = 0 → zJ M1 a 6 = zpl u r.1 (r.2.1 - r.1) ∧ zI M1 a 7 = nI r.1)) := by
  obtain ⟨h1, h2, h3, rfl⟩ := hb
  refine zCm.imp (c_X4_readName hl h1 h2 h3 hp hs.1) (fun v M1 q => ?_)
  obtain ⟨q1, rfl⟩ := q
  obtain ⟨j, hj⟩ : ∃ j, zsk (zI M (a + 1)) n (n - p) p = j := ⟨_, rfl⟩
  have c := eSy_cs hs hj
  have ie := rMn_iff hs hj
  rw [hj] at q1 ⊢
  by_cases z : zew (zI M (a + 1)) n (n - j) j = j ∨ 8 < zew (zI M (a + 1)) n (n - j) j - j
  · rw [if_pos z] at q1 ⊢
    have e : rMn r = rFl r (-2) := if_neg (fun q => ie.mp q z)
    have w : ¬ (rFl r (-2)).2.2.2.2.1 = 0 := by rw [rFl_w hs.2.1]; decide
    rw [e, if_neg w, if_neg w]
    exact ⟨q1, eR_fail (zag_I M a 3 _) rfl ((congrFun zI_Ie 0).trans (zw1_n (by decide))) hs.2.1 (by decide) (by rw [c.1]), fun q => absurd q w⟩
  · rw [if_neg z] at q1 ⊢
    have k := ie.mpr z
    have e : rMn r = r := if_pos k
    rw [e, if_pos hs.2.1, if_pos hs.2.1]
    have eb : r.2.1 = zew (zI M (a + 1)) n (n - j) j := by
      rcases c.2.2.2 with ⟨a, k2, -, e⟩ | ⟨a, b, k2, e, g⟩ | ⟨a, b, k2, -, -, e⟩ | ⟨a, b, d, k2, -, e⟩
      · omega
      · exact e
      · omega
      · omega
    have hge := zew_ge (u := zI M (a + 1)) (n := n) (n - j) j
    refine ⟨q1, eR_go (p := r.2.1) ?_ rfl ?_ ?_ ?_ hs.nx, fun _ => ⟨?_, ?_⟩⟩
    · exact ((zag_I M a 7 _).trans (zag_I _ a 3 _)).trans (zag_J _ a 6 _)
    · exact (congrFun zI_Ie 0).trans ((zw1_n (by decide)).trans ((congrFun zI_Ie 0).trans (zw1_n (by decide))))
    · exact (congrFun zI_Ie 1).trans ((zw1_n (by decide)).trans ((congrFun zI_Ie 1).trans (zw1_n (by decide))))
    · rw [zNM_3, eb, show j + (zew (zI M (a + 1)) n (n - j) j - j) = zew (zI M (a + 1)) n (n - j) j by omega]
    · rw [zNM_6, eb, c.1]
    · exact (congrFun zI_Ie 7).trans ((zw1_n (by decide)).trans ((congrFun zI_Ie 7).trans (zw1_e.trans (by rw [c.1]))))
theorem e_num (hl : l.stackTraces = false) {M : zMem} {a n p : Nat} {u : Nat → Int32} {r : rRd} (hb : eB M a n u) (hp : zI M a 3 = nI p) (hs : eSy u n p r) (lo : Int32) {hi : Int32} (hh : hi ≤ nI 99999) : zCm l G mX4_readNumber 2 50 0 0 [.ref a, .int lo, .int hi] M (fun o M1 => o = .inl (some (.int (if (rTa u n lo hi r).2.2.2.2.2.1 = 0 then nI 1 else nI 0))) ∧ eR M M1 a n u (rTa u n lo hi r).2 ∧ ((rTa u n lo hi r).2.2.2.2.2.1 = 0 → zI M1 a 5 = (rTa u n lo hi r).1)) := by
  obtain ⟨h1, h2, h3, rfl⟩ := hb
  refine zCm.imp (c_X4_readNumber hl h1 h2 h3 hp hs.1 lo hi) (fun v M1 q => ?_)
  obtain ⟨q1, q2⟩ := q
  obtain ⟨j, hj⟩ : ∃ j, zsk (zI M (a + 1)) n (n - p) p = j := ⟨_, rfl⟩
  have c := eSy_cs hs hj
  have ie := rDg_iff hs hj
  have w0 := hs.2.1
  have rr := zrn_R (u := zI M (a + 1)) (n := n) (n - j) j (nI 0) (nI 0) nR_0
  have ri := nR_in (lo := lo) rr.2 hh
  rw [hj] at q1 q2
  by_cases z : nI 48 ≤ zrb (zI M (a + 1)) n j ∧ zrb (zI M (a + 1)) n j ≤ nI 57
  · rw [if_pos z] at q1 q2
    have k := ie.mp z
    have ed : r.2.1 = (zrR (zI M (a + 1)) (n - j) j (nI 0)).1 ∧ r.2.2.2.1 = (zrR (zI M (a + 1)) (n - j) j (nI 0)).2 := by
      rcases c.2.2.2 with ⟨a, k2, -, e⟩ | ⟨a, b, k2, e, g⟩ | ⟨a, b, k2, e1, e2, e⟩ | ⟨a, b, d, k2, -, e⟩
      · omega
      · omega
      · exact ⟨e1, e2⟩
      · omega
    rw [← ed.2] at ri
    by_cases y : lo ≤ (zrn (zI M (a + 1)) n (n - j) j (nI 0)).2 ∧ (zrn (zI M (a + 1)) n (n - j) j (nI 0)).2 ≤ hi
    · rw [if_pos y] at q1 q2
      subst q2
      have e : rTa (zI M (a + 1)) n lo hi r = (r.2.2.2.1, rNx (zI M (a + 1)) n r) := (if_neg (fun q => q w0)).trans ((if_neg (fun q => q k)).trans (if_neg (fun q => q (ri.1.mp y))))
      rw [e]
      refine ⟨q1.trans (by rw [if_pos hs.nx.2.1]), eR_go (p := r.2.1) ((zag_I M a 3 _).trans (zag_I _ a 5 _)) rfl ?_ ?_ ?_ hs.nx, fun _ => ?_⟩
      · exact zAN_0
      · exact (congrFun zI_Ie 1).trans ((zw1_n (by decide)).trans ((congrFun zI_Ie 1).trans (zw1_n (by decide))))
      · rw [zAN_3, rr.1, ← ed.1]
      · rw [zAN_5]; exact ri.2 y.2
    · rw [if_neg y] at q1 q2
      subst q2
      have e : rTa (zI M (a + 1)) n lo hi r = (0, rFl r (-3)) := (if_neg (fun q => q w0)).trans ((if_neg (fun q => q k)).trans (if_pos (fun q => y (ri.1.mpr q))))
      have w : ¬ (rFl r (-3)).2.2.2.2.1 = 0 := by rw [rFl_w w0]; decide
      rw [e]
      exact ⟨q1.trans (by rw [if_neg w]), eR_fail ((zag_I M a 3 _).trans (zag_I _ a 5 _)) rfl zAN_0 w0 (by decide) (by rw [c.1]), fun q => absurd q w⟩
  · rw [if_neg z] at q1 q2
    subst q2
    have e : rTa (zI M (a + 1)) n lo hi r = (0, rFl r (-2)) := (if_neg (fun q => q w0)).trans (if_pos (fun q => z (ie.mpr q)))
    have w : ¬ (rFl r (-2)).2.2.2.2.1 = 0 := by rw [rFl_w w0]; decide
    rw [e]
    exact ⟨q1.trans (by rw [if_neg w]), eR_fail (zag_I M a 3 _) rfl ((congrFun zI_Ie 0).trans (zw1_n (by decide))) w0 (by decide) (by rw [c.1]), fun q => absurd q w⟩
end
