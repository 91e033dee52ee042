/-! ===== both sides together ===== -/
/-- what the stores hold is in order -/
def gOK (S : Nat → Nat → Int64) (c d n : Nat) (u : Nat → Int32) (w : Nat) (sl : Nat → Int32) : Prop := c ≤ 8 ∧ d < 8 ∧ n ≤ 600 ∧ (∀ j, j < n → ¬ u j = -1) ∧ w ≤ 256 ∧ gInv (S 630) ∧ (∀ i, i < c → gInv (S (14 + 77 * ((d + 8 - c + i) % 8)))) ∧ ∀ s, s < 2 → ¬ sl s = 0 → gInv (S (787 + 77 * s))
def CLs (M : zMem) (S : Nat → Nat → Int64) (c d n : Nat) (u : Nat → Int32) (w : Nat) (v : Nat → Int32) (e : Int32) (sl : Nat → Int32) : Prop := xSh M ∧ rW M S ∧ zI M 12 0 = nI c ∧ zI M 12 1 = nI d ∧ zI M 1 0 = nI n ∧ zI M 2 = u ∧ zI M 3 0 = nI w ∧ (∀ j, j < w → zI M 4 j = v j) ∧ zI M 1 1 = e ∧ ∀ s, s < 2 → zI M 785 s = sl s
def RFs (M : zMem) (S : Nat → Nat → Int64) (c d n : Nat) (u : Nat → Int32) (w : Nat) (v : Nat → Int32) (e : Int32) (sl : Nat → Int32) : Prop := mSh M ∧ zJ M 942 = S 630 ∧ zI M 941 5 = nI c ∧ (∀ i, i < c → ∀ k, k < 1390 → zJ M 944 (1390 * i + k) = S (14 + 77 * ((d + 8 - c + i) % 8)) k) ∧ (∀ s, s < 2 → zI M 946 s = sl s ∧ (¬ sl s = 0 → ∀ k, k < 1390 → zJ M 945 (1390 * s + k) = S (787 + 77 * s) k)) ∧ zI M 941 8 = nI n ∧ zI M 947 = u ∧ zI M 941 31 = nI w ∧ (∀ j, j < w → zI M 955 j = v j) ∧ zI M 941 15 = e
def OTs (M : zMem) : Prop := zK M 956 = 12 ∧ zN M 956 = 1 ∧ zF M = 1
def IV (M : zMem) (S : Nat → Nat → Int64) (c d n : Nat) (u : Nat → Int32) (w : Nat) (v : Nat → Int32) (e : Int32) (sl : Nat → Int32) : Prop := gOK S c d n u w sl ∧ CLs M S c d n u w v e sl ∧ RFs M S c d n u w v e sl ∧ OTs M
def INV (M : zMem) : Prop := ∃ S c d n u w v e sl, IV M S c d n u w v e sl
variable {M M' : zMem} {S S' : Nat → Nat → Int64} {c d n w : Nat} {u v : Nat → Int32} {e : Int32} {sl : Nat → Int32}
theorem CLs.keep (h : CLs M S c d n u w v e sl) (q : zag M M' (fun b => b < 941)) : CLs M' S c d n u w v e sl := by
  obtain ⟨h1, h2, h3, h4, h5, h6, h7, h8, h9, h10⟩ := h
  refine ⟨h1.keep q.1 (fun b hb => (q.2 b (by omega)).2.2), h2.keep (q.mono fun b hb => by unfold zblk at hb; omega), ?_, ?_, ?_, ?_, ?_, fun j hj => ?_, ?_, fun s hs => ?_⟩
  · rw [(q.2 12 (by omega)).1]; exact h3
  · rw [(q.2 12 (by omega)).1]; exact h4
  · rw [(q.2 1 (by omega)).1]; exact h5
  · rw [(q.2 2 (by omega)).1]; exact h6
  · rw [(q.2 3 (by omega)).1]; exact h7
  · rw [(q.2 4 (by omega)).1]; exact h8 j hj
  · rw [(q.2 1 (by omega)).1]; exact h9
  · rw [(q.2 785 (by omega)).1]; exact h10 s hs
theorem CLs.ext (h : CLs M S c d n u w v e sl) (q : ∀ s k, k < 1390 → S' s k = S s k) : CLs M S' c d n u w v e sl := by
  obtain ⟨h1, h2, h3⟩ := h
  refine ⟨h1, fun s hs => ?_, h3⟩
  obtain ⟨p, hp⟩ := h2 s hs
  exact ⟨p, hp.ext (q s)⟩
theorem RFs.keep (h : RFs M S c d n u w v e sl) (q : zag M M' (fun b => 941 ≤ b ∧ b ≠ 956)) : RFs M' S c d n u w v e sl := by
  obtain ⟨h1, h2, h3, h4, h5, h6, h7, h8, h9, h10⟩ := h
  refine ⟨h1.keep q.1 (q.2 941 (by omega)).2.2, ?_, ?_, ?_, ?_, ?_, ?_, ?_, ?_, ?_⟩
  · rw [(q.2 942 (by omega)).2.1]; exact h2
  · rw [(q.2 941 (by omega)).1]; exact h3
  · rw [(q.2 944 (by omega)).2.1]; exact h4
  · rw [(q.2 945 (by omega)).2.1, (q.2 946 (by omega)).1]; exact h5
  · rw [(q.2 941 (by omega)).1]; exact h6
  · rw [(q.2 947 (by omega)).1]; exact h7
  · rw [(q.2 941 (by omega)).1]; exact h8
  · rw [(q.2 955 (by omega)).1]; exact h9
  · rw [(q.2 941 (by omega)).1]; exact h10
theorem OTs.keep (h : OTs M) (q : zsh M M') : OTs M' := ⟨(zsh_K q 956).trans h.1, (zsh_N q 956).trans h.2.1, (zsh_F q).trans h.2.2⟩
theorem zag_out {x : Int64} {P : Nat → Prop} (h : zag M M' P) : zag M (zsJ M' 956 0 x) (fun b => P b ∧ b ≠ 956) :=
  ⟨h.1, fun b hb => by
    obtain ⟨q1, q2, q3⟩ := h.2 b hb.1
    refine ⟨q1, ?_, q3⟩
    rw [← q2]
    exact if_neg hb.2⟩
/-! the class's changes -/
def cLo : Nat → Prop := fun b => 941 ≤ b
theorem CLs.up {r v' : Option Value} {g' : Nat → Int64} {M1 : zMem} (h : CLs M S c d n u w v e sl) (q : uP r M S c d g' v' M1) : CLs M1 (zup (zup S (14 + 77 * d) (S 630)) 630 g') (min 8 (c + 1)) ((d + 1) % 8) n u w v e sl ∧ zag M M1 cLo := by
  obtain ⟨h1, h2, h3, h4, h5, h6, h7, h8, h9, h10⟩ := h
  obtain ⟨-, q2, q3, q4, q5, q6⟩ := q
  refine ⟨⟨h1.keep q2.1 (fun b hb => ?_), q3, q4, q5, ?_, ?_, ?_, fun j hj => ?_, ?_, fun s hs => ?_⟩, q2.mono fun b hb => by unfold cLo at hb; unfold zblk; omega⟩
  · by_cases z : b = 12
    · rw [z]; exact q6
    · exact (q2.2 b ⟨z, by unfold zblk; omega⟩).2.2
  · rw [(q2.2 1 ⟨by omega, by unfold zblk; omega⟩).1]; exact h5
  · rw [(q2.2 2 ⟨by omega, by unfold zblk; omega⟩).1]; exact h6
  · rw [(q2.2 3 ⟨by omega, by unfold zblk; omega⟩).1]; exact h7
  · rw [(q2.2 4 ⟨by omega, by unfold zblk; omega⟩).1]; exact h8 j hj
  · rw [(q2.2 1 ⟨by omega, by unfold zblk; omega⟩).1]; exact h9
  · rw [(q2.2 785 ⟨by omega, by unfold zblk; omega⟩).1]; exact h10 s hs
theorem CLs.pl {M1 : zMem} (h : CLs M S c d n u w v e sl) (q : zag M M1 (fun c => c < 5 ∨ 12 ≤ c) ∧ nSh M1 5) : CLs M1 S c d n u w v e sl ∧ zag M M1 cLo := by
  obtain ⟨h1, h2, h3, h4, h5, h6, h7, h8, h9, h10⟩ := h
  obtain ⟨q2, q3⟩ := q
  refine ⟨⟨h1.keepP q2 q3, h2.keep (q2.mono fun b hb => by unfold zblk at hb; omega), ?_, ?_, ?_, ?_, ?_, fun j hj => ?_, ?_, fun s hs => ?_⟩, q2.mono fun b hb => by unfold cLo at hb; omega⟩
  · rw [(q2.2 12 (by omega)).1]; exact h3
  · rw [(q2.2 12 (by omega)).1]; exact h4
  · rw [(q2.2 1 (by omega)).1]; exact h5
  · rw [(q2.2 2 (by omega)).1]; exact h6
  · rw [(q2.2 3 (by omega)).1]; exact h7
  · rw [(q2.2 4 (by omega)).1]; exact h8 j hj
  · rw [(q2.2 1 (by omega)).1]; exact h9
  · rw [(q2.2 785 (by omega)).1]; exact h10 s hs
theorem CLs.ap {r v' : Option Value} {g' : Nat → Int64} {M1 : zMem} (h : CLs M S c d n u w v e sl) (q : aP r M S c d g' v' M1) : CLs M1 (zup (zup S (14 + 77 * d) (S 630)) 630 g') (min 8 (c + 1)) ((d + 1) % 8) n u w v e sl ∧ zag M M1 cLo := by
  obtain ⟨M2, q1, q2⟩ := q
  obtain ⟨h1, z1⟩ := h.pl q1
  obtain ⟨h2, z2⟩ := h1.up q2
  exact ⟨h2, z1.trans z2⟩
theorem CLs.un {M1 : zMem} {o : zOut} {c' d' : Nat} (h : CLs M S c d n u w v e sl) (q : hQ3 M S' c' d' o M1) : CLs M1 S' c' d' n u w v e sl ∧ zag M M1 cLo := by
  obtain ⟨h1, h2, h3, h4, h5, h6, h7, h8, h9, h10⟩ := h
  obtain ⟨-, q2, q3, q4, q5, q6⟩ := q
  refine ⟨⟨h1.keep q2.1 (fun b hb => ?_), q3, q4, q5, ?_, ?_, ?_, fun j hj => ?_, ?_, fun s hs => ?_⟩, q2.mono fun b hb => by unfold cLo at hb; omega⟩
  · by_cases z : b = 12
    · rw [z]; exact q6
    · exact (q2.2 b ⟨z, by omega⟩).2.2
  · rw [(q2.2 1 (by omega)).1]; exact h5
  · rw [(q2.2 2 (by omega)).1]; exact h6
  · rw [(q2.2 3 (by omega)).1]; exact h7
  · rw [(q2.2 4 (by omega)).1]; exact h8 j hj
  · rw [(q2.2 1 (by omega)).1]; exact h9
  · rw [(q2.2 785 (by omega)).1]; exact h10 s hs
theorem CLs.sv {M1 : zMem} {s : Nat} (h : CLs M S c d n u w v e sl) (q : zag M M1 (fun b => b ≠ 785 ∧ ¬ zblk b) ∧ rW M1 S' ∧ zI M1 785 = zw1 (zI M 785) s (nI 1) ∧ zR M1 785 = zR M 785) : CLs M1 S' c d n u w v e (zw1 sl s (nI 1)) ∧ zag M M1 cLo := by
  obtain ⟨h1, h2, h3, h4, h5, h6, h7, h8, h9, h10⟩ := h
  obtain ⟨q2, q3, q4, q5⟩ := q
  refine ⟨⟨h1.keep q2.1 (fun b hb => (q2.2 b ⟨by omega, by unfold zblk; omega⟩).2.2), q3, ?_, ?_, ?_, ?_, ?_, fun j hj => ?_, ?_, fun t ht => ?_⟩, q2.mono fun b hb => by unfold cLo at hb; unfold zblk; omega⟩
  · rw [(q2.2 12 ⟨by omega, by unfold zblk; omega⟩).1]; exact h3
  · rw [(q2.2 12 ⟨by omega, by unfold zblk; omega⟩).1]; exact h4
  · rw [(q2.2 1 ⟨by omega, by unfold zblk; omega⟩).1]; exact h5
  · rw [(q2.2 2 ⟨by omega, by unfold zblk; omega⟩).1]; exact h6
  · rw [(q2.2 3 ⟨by omega, by unfold zblk; omega⟩).1]; exact h7
  · rw [(q2.2 4 ⟨by omega, by unfold zblk; omega⟩).1]; exact h8 j hj
  · rw [(q2.2 1 ⟨by omega, by unfold zblk; omega⟩).1]; exact h9
  · rw [q4]
    show (if t = s then nI 1 else zI M 785 t) = if t = s then nI 1 else sl t
    rw [h10 t ht]
theorem CLs.apnd {b : zWr} (h : CLs M S c d n u w v e sl) : CLs (zMw M 1 b) S c d b.1 b.2 w v e sl ∧ zag M (zMw M 1 b) cLo := by
  obtain ⟨h1, h2, h3, h4, h5, h6, h7, h8, h9, h10⟩ := h
  have q2 : zag M (zMw M 1 b) (fun b => b ≠ 1 ∧ b ≠ 2) := ⟨rfl, fun b hb => ⟨(if_neg hb.2).trans (if_neg hb.1), rfl, rfl⟩⟩
  refine ⟨⟨h1.keep rfl (fun _ _ => rfl), h2.keep (q2.mono fun b hb => by unfold zblk at hb; omega), ?_, ?_, rfl, rfl, ?_, fun j hj => ?_, ?_, fun s hs => ?_⟩, q2.mono fun b hb => by unfold cLo at hb; omega⟩
  · rw [(q2.2 12 (by omega)).1]; exact h3
  · rw [(q2.2 12 (by omega)).1]; exact h4
  · rw [(q2.2 3 (by omega)).1]; exact h7
  · rw [(q2.2 4 (by omega)).1]; exact h8 j hj
  · exact h9
  · rw [(q2.2 785 (by omega)).1]; exact h10 s hs
theorem CLs.wr {b : zWr} {v2 : Nat → Int32} (h : CLs M S c d n u w v e sl) (hv : ∀ j, j < b.1 → b.2 j = v2 j) : CLs (zMw M 3 b) S c d n u b.1 v2 e sl ∧ zag M (zMw M 3 b) cLo := by
  obtain ⟨h1, h2, h3, h4, h5, h6, h7, h8, h9, h10⟩ := h
  have q2 : zag M (zMw M 3 b) (fun b => b ≠ 3 ∧ b ≠ 4) := ⟨rfl, fun b hb => ⟨(if_neg hb.2).trans (if_neg hb.1), rfl, rfl⟩⟩
  refine ⟨⟨h1.keep rfl (fun _ _ => rfl), h2.keep (q2.mono fun b hb => by unfold zblk at hb; omega), ?_, ?_, ?_, ?_, rfl, hv, ?_, fun s hs => ?_⟩, q2.mono fun b hb => by unfold cLo at hb; omega⟩
  · rw [(q2.2 12 (by omega)).1]; exact h3
  · rw [(q2.2 12 (by omega)).1]; exact h4
  · rw [(q2.2 1 (by omega)).1]; exact h5
  · rw [(q2.2 2 (by omega)).1]; exact h6
  · rw [(q2.2 1 (by omega)).1]; exact h9
  · rw [(q2.2 785 (by omega)).1]; exact h10 s hs
theorem CLs.cc {b : Nat → Int32} (h : CLs M S c d n u w v e sl) : CLs (zsA M 786 b) S c d n u w v e sl ∧ zag M (zsA M 786 b) cLo := by
  obtain ⟨h1, h2, h3⟩ := h
  have q2 : zag M (zsA M 786 b) (fun b => b ≠ 786) := ⟨rfl, fun b hb => ⟨if_neg hb, rfl, rfl⟩⟩
  refine ⟨⟨h1.keep rfl (fun _ _ => rfl), h2.keep (q2.mono fun b hb => by unfold zblk at hb; omega), h3⟩, q2.mono fun b hb => by unfold cLo at hb; omega⟩
/-! the reference's changes -/
theorem kQ_at {K row : Nat → Int64} {i k : Nat} (hc : c ≤ 8) (hi : i < min 8 (c + 1)) (hk : k < 1390) : kQ c K row (1390 * i + k) = if i = min 8 (c + 1) - 1 then row k else if c = 8 then K (1390 * (i + 1) + k) else K (1390 * i + k) := by
  unfold kQ
  by_cases h8 : c = 8
  · rw [if_pos h8, if_pos h8]
    unfold va_cpy
    by_cases h : i = 7
    · rw [if_pos (by omega), if_pos (by omega)]
      exact congrArg row (by omega)
    · rw [if_neg (by omega), if_neg (by omega)]
      unfold kSh
      rw [if_pos (by omega)]
      exact congrArg K (by omega)
  · rw [if_neg h8, if_neg h8]
    unfold va_cpy
    by_cases h : i = c
    · rw [if_pos (by omega), if_pos (by omega)]
      exact congrArg row (by omega)
    · rw [if_neg (by omega), if_neg (by omega)]
theorem ring_up {g' : Nat → Int64} {i : Nat} (hc : c ≤ 8) (hd : d < 8) (hi : i < min 8 (c + 1)) : zup (zup S (14 + 77 * d) (S 630)) 630 g' (14 + 77 * (((d + 1) % 8 + 8 - min 8 (c + 1) + i) % 8)) = if i = min 8 (c + 1) - 1 then S 630 else if c = 8 then S (14 + 77 * ((d + 8 - c + (i + 1)) % 8)) else S (14 + 77 * ((d + 8 - c + i) % 8)) := by
  have hm : ((d + 1) % 8 + 8 - min 8 (c + 1) + i) % 8 < 8 := Nat.mod_lt _ (by decide)
  rw [zup_n (by omega)]
  by_cases h : i = min 8 (c + 1) - 1
  · rw [if_pos h, show ((d + 1) % 8 + 8 - min 8 (c + 1) + i) % 8 = d by omega, zup_e]
  · rw [if_neg h, zup_n (by omega)]
    by_cases h8 : c = 8
    · rw [if_pos h8]
      exact congrArg S (by omega)
    · rw [if_neg h8]
      exact congrArg S (by omega)
theorem zup_sl {g' : Nat → Int64} {s : Nat} (hd : d < 8) (hs : s < 2) : zup (zup S (14 + 77 * d) (S 630)) 630 g' (787 + 77 * s) = S (787 + 77 * s) := by
  rw [zup_n (by omega), zup_n (by omega)]
theorem gOK.up {g' : Nat → Int64} (h : gOK S c d n u w sl) (hg : gInv g') : gOK (zup (zup S (14 + 77 * d) (S 630)) 630 g') (min 8 (c + 1)) ((d + 1) % 8) n u w sl := by
  obtain ⟨h1, h2, h3, h4, h5, h6, h7, h8⟩ := h
  refine ⟨by omega, Nat.mod_lt _ (by decide), h3, h4, h5, by rw [zup_e]; exact hg, fun i hi => ?_, fun s hs hz => by rw [zup_sl h2 hs]; exact h8 s hs hz⟩
  rw [ring_up h1 h2 hi]
  split
  · exact h6
  · split
    · exact h7 _ (by omega)
    · exact h7 _ (by omega)
theorem RFs.kp {g' : Nat → Int64} (ho : gOK S c d n u w sl) (h : RFs M S c d n u w v e sl) : RFs (zsL (KP M c (S 630)) 942 g') (zup (zup S (14 + 77 * d) (S 630)) 630 g') (min 8 (c + 1)) ((d + 1) % 8) n u w v e sl := by
  obtain ⟨h1, h2, h3, h4, h5, h6, h7, h8, h9, h10⟩ := h
  have hc8 := ho.1
  have hd8 := ho.2.1
  refine ⟨h1.keep rfl rfl, by rw [zup_e]; rfl, rfl, fun i hi k hk => ?_, fun s hs => ?_, h6, h7, h8, h9, h10⟩
  · rw [ring_up hc8 hd8 hi]
    show kQ c (zJ M 944) (S 630) (1390 * i + k) = _
    rw [kQ_at hc8 hi hk]
    split
    · rfl
    · split
      · exact h4 (i + 1) (by omega) k hk
      · exact h4 i (by omega) k hk
  · rw [zup_sl hd8 hs]
    exact h5 s hs
theorem RFs.th {t : Int32} (h : RFs M S c d n u w v e sl) : RFs (zsI M 941 6 t) S c d n u w v e sl := by
  obtain ⟨h1, h⟩ := h
  exact ⟨h1.keep rfl rfl, h⟩
theorem RFs.id (h : RFs M S c d n u w v e sl) : zsL M 942 (S 630) = M := by rw [← h.2.1]; exact zsL_id M 942
theorem zag_KP {g g' : Nat → Int64} : zag M (zsL (KP M c g) 942 g') (fun b => b < 941 ∨ b = 956) := ⟨rfl, fun b hb => ⟨(if_neg (by omega)).trans (if_neg (by omega)), (if_neg (by omega)).trans (if_neg (by omega)), rfl⟩⟩
theorem zag_th {t : Int32} : zag M (zsI M 941 6 t) (fun b => b < 941 ∨ b = 956) := ⟨rfl, fun b hb => ⟨if_neg (by omega), rfl, rfl⟩⟩
