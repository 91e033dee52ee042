/-! ===== a store holds any row that agrees below 1390 ===== -/
theorem rSt.ext {M : zMem} {s : Nat} {g h : Nat → Int64} {p : Nat → Nat} (q : rSt M s g p) (e : ∀ k, k < 1390 → h k = g k) : rSt M s h p := by
  obtain ⟨h1, h2, h3, h4, h5, h6⟩ := q
  have ei : ∀ k, k < 1390 → its h k = its g k := fun k hk => its_eq (e k hk)
  have eN : ∀ k, k < 1390 → gN h k = gN g k := fun k hk => gN_eq (e k hk)
  have b2 := h6.2.1.2
  have b3 := h6.2.2.1.2
  have b5 := h6.2.2.2.2.1.2
  refine ⟨h1, ?_, ?_, ?_, ?_, ?_⟩
  · unfold rHd at *
    rw [ei 0 (by omega), ei 1 (by omega), ei 2 (by omega), ei 3 (by omega), ei 4 (by omega)]
    exact h2
  · unfold rMv at *
    rw [ei 5 (by omega), eN 5 (by omega)]
    refine ⟨h3.1, fun w hw k hk => ?_⟩
    rw [h3.2 w hw k hk]
    exact (ei (1078 + 5 * w + k) (by omega)).symm
  · intro t ht
    rw [eN 2 (by omega)] at ht
    exact (h4 t ht).keep (fun b _ _ => ⟨rfl, rfl⟩) (fun k hk => e _ (by omega)) (fun k hk => e _ (by omega))
  · intro f hf
    rw [eN 3 (by omega)] at hf
    exact (h5 f hf).keep (h6.2.2.2.2.2.1 f hf).2.2 (fun b _ _ => ⟨rfl, rfl⟩) (fun k hk => e _ (by omega))
  · unfold gBd gf gm at *
    rw [ei 0 (by omega), eN 0 (by omega), ei 2 (by omega), eN 2 (by omega), ei 3 (by omega), eN 3 (by omega), ei 4 (by omega), eN 4 (by omega), ei 5 (by omega), eN 5 (by omega)]
    obtain ⟨c0, c2, c3, c4, c5, cf, cm⟩ := h6
    refine ⟨c0, c2, c3, c4, c5, fun f hf => ?_, fun w hw => ?_⟩
    · rw [ei _ (by omega), ei _ (by omega), eN _ (by omega), eN _ (by omega)]
      exact cf f hf
    · rw [ei _ (by omega), ei _ (by omega), ei _ (by omega), eN _ (by omega), eN _ (by omega), eN _ (by omega)]
      exact cm w hw
/-! ===== a tier's numbers, one behind the other ===== -/
def rLo (i : Nat) : Int32 := if nI i = 0 then nI 1 else nI 0
def rHi (i : Nat) : Int32 := if nI i = 0 then nI 99999 else nI 99
theorem rHi_le (i : Nat) : rHi i ≤ nI 99999 := by
  unfold rHi
  split
  · decide
  · decide
def rTn (u : Nat → Int32) (n t : Nat) (x : (Nat → Int64) × rRd) : Nat → (Nat → Int64) × rRd
  | 0 => x
  | k + 1 => (zwL (rTn u n t x k).1 (6 + 13 * t + k) (rTa u n (rLo k) (rHi k) (rTn u n t x k).2).1.toInt64, (rTa u n (rLo k) (rHi k) (rTn u n t x k).2).2)
theorem rTn_q {u : Nat → Int32} {n t : Nat} {x : (Nat → Int64) × rRd} : ∀ k, k ≤ 4 → rTn u n t x (k + 1) = rTq u n t (rTn u n t x 1) k
  | 0, _ => rfl
  | k + 1, hk => by
    have e : rTn u n t x (k + 1 + 1) = (zwL (rTn u n t x (k + 1)).1 (6 + 13 * t + (k + 1)) (rTa u n (rLo (k + 1)) (rHi (k + 1)) (rTn u n t x (k + 1)).2).1.toInt64, (rTa u n (rLo (k + 1)) (rHi (k + 1)) (rTn u n t x (k + 1)).2).2) := rfl
    have n0 : ¬ nI (k + 1) = 0 := nI_ne0 (by omega) (by omega)
    rw [e, show rLo (k + 1) = nI 0 from if_neg n0, show rHi (k + 1) = nI 99 from if_neg n0, rTn_q k (by omega)]
    rfl
theorem rTn_5 {u : Nat → Int32} {n t : Nat} {g : Nat → Int64} {r : rRd} {Y X : (Nat → Int64) × rRd} (hY : rT5 u n t g r = Y) (hX : rTq u n t Y 4 = X) : rTn u n t (rPn u r g (6 + 13 * t + 5) 8, rNx u n r) 5 = X := by
  rw [rTn_q 4 (by omega), ← hX, ← hY]
  rfl
theorem rTa_n {u : Nat → Int32} {n : Nat} {lo hi : Int32} {r : rRd} (h : ¬ r.2.2.2.2.1 = 0) : rTa u n lo hi r = (0, r) := if_pos h
theorem rTn_w {u : Nat → Int32} {n t : Nat} {x : (Nat → Int64) × rRd} {k : Nat} (h : ¬ (rTn u n t x k).2.2.2.2.2.1 = 0) : ∀ m, (rTn u n t x (k + m)).2 = (rTn u n t x k).2
  | 0 => rfl
  | m + 1 => by
    show (rTa u n (rLo (k + m)) (rHi (k + m)) (rTn u n t x (k + m)).2).2 = _
    rw [rTn_w h m, rTa_n h]
theorem rMu_w {u : Nat → Int32} {n : Nat} {v : Int32} {r : rRd} (h : ¬ r.2.2.2.2.1 = 0) : rMu u n v r = r := by
  unfold rMu
  split
  · exact rFl_n h
  · rfl
theorem rEn_w {u : Nat → Int32} {n : Nat} {r : rRd} (h : ¬ r.2.2.2.2.1 = 0) : rEn u n r = r := rMu_w h
theorem rMn_w {r : rRd} (h : ¬ r.2.2.2.2.1 = 0) : rMn r = r := by
  unfold rMn
  split
  · rfl
  · exact rFl_n h
theorem rNa_w {g : Nat → Int64} {u : Nat → Int32} {r : rRd} {b sz m : Nat} (h : ¬ r.2.2.2.2.1 = 0) : rNa g u r b sz m = -1 := if_neg h
/-- the beginning's chain, where something was wrong -/
theorem rX_w {g : Nat → Int64} {u : Nat → Int32} {r rb rc : rRd} {nv : Int32} {b sz m : Nat} (hb : rMn r = rb) (hn : rNa g u rb b sz m = nv) (hrc : (if nv = -1 then rb else rFl rb (-5)) = rc) (w : ¬ r.2.2.2.2.1 = 0) : rc = r := by
  have e1 : rb = r := hb.symm.trans (rMn_w w)
  rw [e1] at hn hrc
  rw [← hn, rNa_w w, if_pos rfl] at hrc
  exact hrc.symm
/-- tiers' names -/
def gNT (g : Nat → Int64) : Prop := ∀ t, t < gN g 2 → ∃ m, 0 < m ∧ gNm g (6 + 13 * t + 5) m
def gNF (g : Nat → Int64) : Prop := ∀ f, f < gN g 3 → ∃ m, gNm g (58 + 51 * f + 6) m
theorem nT_eq {g : Nat → Int64} {u : Nat → Int32} {n p : Nat} {r : rRd} (hg : gNT g) (h : eSy u n p r) (hk : r.2.2.1 = 0) (h8 : r.2.1 - r.1 ≤ 8) : zfs (fun i => zpk g (6 + 13 * i + 5) 8) (zpl u r.1 (r.2.1 - r.1)) ((gN g 2) - 0) 0 = rNa g u r 11 13 (gN g 2) := by
  have e := rNm_g h hk h8
  rw [show rNa g u r 11 13 (gN g 2) = rNd g u r 11 13 (gN g 2) 0 from if_pos h.2.1, Nat.sub_zero]
  refine zfs_rNd _ _ (fun q _ hq => ?_)
  obtain ⟨m, -, hm⟩ := hg q (by omega)
  rw [← e.2.2, rSm_iff, show 11 + 13 * q = 6 + 13 * q + 5 by omega]
  exact nm_iff hm e.1
theorem nF_eq {g : Nat → Int64} {u : Nat → Int32} {n p : Nat} {r : rRd} (hg : gNF g) (h : eSy u n p r) (hk : r.2.2.1 = 0) (h8 : r.2.1 - r.1 ≤ 8) : zfs (fun i => zpk g (58 + 51 * i + 6) 8) (zpl u r.1 (r.2.1 - r.1)) ((gN g 3) - 0) 0 = rNa g u r 64 51 (gN g 3) := by
  have e := rNm_g h hk h8
  rw [show rNa g u r 64 51 (gN g 3) = rNd g u r 64 51 (gN g 3) 0 from if_pos h.2.1, Nat.sub_zero]
  refine zfs_rNd _ _ (fun q _ hq => ?_)
  obtain ⟨m, hm⟩ := hg q (by omega)
  rw [← e.2.2, rSm_iff, show 64 + 51 * q = 58 + 51 * q + 6 by omega]
  exact nm_iff hm e.1
/-- behind a tier or a file that the class reads -/
def tQ (M : zMem) (a n s : Nat) (u : Nat → Int32) (g' : Nat → Int64) (r' : rRd) : zOut → zMem → Prop := fun o M1 => o = .inl (some (.int (if r'.2.2.2.2.1 = 0 then nI 1 else nI 0))) ∧ zag M M1 (fun c => c ≠ a ∧ (c < s ∨ s + 77 ≤ c)) ∧ zR M1 a = zR M a ∧ zI M1 a 0 = zI M a 0 ∧ ((r'.2.2.2.2.1 = 0 ∧ zI M1 a 1 = zI M a 1 ∧ ∃ p, zI M1 a 3 = nI p ∧ eSy u n p r') ∨ (¬ r'.2.2.2.2.1 = 0 ∧ zI M1 a 4 = r'.2.2.2.2.1 ∧ zI M1 a 1 = r'.2.2.2.2.2)) ∧ ∃ h q, rSt M1 s h q ∧ (r'.2.2.2.2.1 = 0 → h = g')
theorem tQ_n {M M1 : zMem} {a n s : Nat} {u : Nat → Int32} {g' h : Nat → Int64} {r' : rRd} {q : Nat → Nat} (w : ¬ r'.2.2.2.2.1 = 0) (k : eR M M1 a n u r') (r : rSt M1 s h q) : tQ M a n s u g' r' (.inl (some (.int (nI 0)))) M1 :=
  ⟨by rw [if_neg w], k.1.mono (fun c hc => hc.1), k.2.1, k.2.2.1, k.2.2.2, h, q, r, fun z => absurd z w⟩
theorem tQ.pre {M M1 M2 : zMem} {a n s : Nat} {u : Nat → Int32} {g' : Nat → Int64} {r r' : rRd} {o : zOut} (k : eR M M1 a n u r) (w : r.2.2.2.2.1 = 0) (h : tQ M1 a n s u g' r' o M2) : tQ M a n s u g' r' o M2 := by
  obtain ⟨h1, h2, h3, h4, h5, h6⟩ := h
  refine ⟨h1, (k.1.mono fun c hc => hc.1).trans h2, h3.trans k.2.1, h4.trans k.2.2.1, ?_, h6⟩
  rcases h5 with z | z
  · exact Or.inl ⟨z.1, z.2.1.trans (k.y w).1, z.2.2⟩
  · exact Or.inr z
/-- a place in the reader, seen from a beginning; what lies in the store may have changed -/
def eM (B N : zMem) (a s : Nat) : Prop := zag B N (fun c => c ≠ a ∧ (c < s ∨ s + 77 ≤ c)) ∧ zR N a = zR B a ∧ zI N a 0 = zI B a 0 ∧ zI N a 1 = zI B a 1
theorem eM.q {M N M2 : zMem} {a n s : Nat} {u : Nat → Int32} {g' h : Nat → Int64} {r' : rRd} {q : Nat → Nat} (k : eM M N a s) (e : eR N M2 a n u r') (r : rSt M2 s h q) (hh : r'.2.2.2.2.1 = 0 → h = g') : tQ M a n s u g' r' (.inl (some (.int (if r'.2.2.2.2.1 = 0 then nI 1 else nI 0)))) M2 := by
  refine ⟨rfl, k.1.trans (e.1.mono fun c hc => hc.1), e.2.1.trans k.2.1, e.2.2.1.trans k.2.2.1, ?_, h, q, r, hh⟩
  rcases e.2.2.2 with z | z
  · exact Or.inl ⟨z.1, z.2.1.trans k.2.2.2, z.2.2⟩
  · exact Or.inr z
theorem eM.qn {M N M2 : zMem} {a n s : Nat} {u : Nat → Int32} {g' h : Nat → Int64} {r' : rRd} {q : Nat → Nat} (k : eM M N a s) (w : ¬ r'.2.2.2.2.1 = 0) (e : eR N M2 a n u r') (r : rSt M2 s h q) : tQ M a n s u g' r' (.inl (some (.int (nI 0)))) M2 := by
  have z := k.q (g' := g') e r (fun z => absurd z w)
  rw [if_neg w] at z
  exact z
theorem eM.refl {M : zMem} {a s : Nat} : eM M M a s := ⟨zag.refl _ _, rfl, rfl, rfl⟩
theorem eM.step {M N M2 : zMem} {a n s : Nat} {u : Nat → Int32} {r' : rRd} (k : eM M N a s) (e : eR N M2 a n u r') (w : r'.2.2.2.2.1 = 0) : eM M M2 a s :=
  ⟨k.1.trans (e.1.mono fun c hc => hc.1), e.2.1.trans k.2.1, e.2.2.1.trans k.2.2.1, (e.y w).1.trans k.2.2.2⟩
theorem eM.st {M N M2 : zMem} {a s : Nat} (k : eM M N a s) (ha : a < s ∨ s + 77 ≤ a) (e : zag N M2 (fun c => c < s ∨ s + 77 ≤ c)) : eM M M2 a s :=
  ⟨k.1.trans (e.mono fun c hc => hc.2), by rw [(e.2 a ha).2.2]; exact k.2.1, by rw [(e.2 a ha).1]; exact k.2.2.1, by rw [(e.2 a ha).1]; exact k.2.2.2⟩
theorem eB.st {N M2 : zMem} {a n s : Nat} {u : Nat → Int32} (h : eB N a n u) (ha : a + 2 ≤ s ∨ s + 77 ≤ a) (e : zag N M2 (fun c => c < s ∨ s + 77 ≤ c)) : eB M2 a n u := by
  obtain ⟨h1, h2, h3, h4⟩ := h
  refine ⟨?_, by rw [(e.2 a (by omega)).1]; exact h2, h3, by rw [(e.2 (a + 1) (by omega)).1]; exact h4⟩
  unfold eSh at *
  rw [zsh_K e.1, zsh_K e.1, zsh_N e.1, (e.2 a (by omega)).2.2]
  exact h1
