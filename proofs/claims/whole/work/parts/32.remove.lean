/-! ===== removeFile ===== -/
def grow (g : Nat → Int64) (w : Nat) : Nat → Int32 := fun k => if k < 5 then gm g w k else 0
/-- what the going of file f makes of a state -/
def zDr (g : Nat → Int64) (f : Nat) (g' : Nat → Int64) : Prop :=
  (∀ k, k < 58 → k ≠ 3 → k ≠ 5 → g' k = g k) ∧ its g' 3 = nI (gN g 3 - 1) ∧ (∀ f', f' < gN g 3 - 1 → ∀ k, k < 51 → g' (58 + 51 * f' + k) = g (58 + 51 * (if f' < f then f' else f' + 1) + k)) ∧ (∀ k, 1378 ≤ k → g' k = g k)
  ∧ ∃ m, m ≤ 60 ∧ its g' 5 = nI m ∧ (List.range m).map (grow g') = (List.range (gN g 5)).flatMap (fun w => zphi (nI f) (grow g w))
def zpq (p : Nat → Nat) (f n : Nat) : Nat → Nat := fun j => if f ≤ j ∧ j < n - 1 then p (j + 1) else if j = n - 1 then p f else p j
theorem zpq_inj {p : Nat → Nat} {f n : Nat} (hf : f < n) (hn : n ≤ 20) (hp : ∀ a b, a < 20 → b < 20 → p a = p b → a = b) {a b : Nat} (ha : a < 20) (hb : b < 20) (h : zpq p f n a = zpq p f n b) : a = b := by
  unfold zpq at h
  split at h
  · split at h
    · have := hp _ _ (by omega) (by omega) h; omega
    · split at h
      · have := hp _ _ (by omega) (by omega) h; omega
      · have := hp _ _ (by omega) (by omega) h; omega
  · split at h
    · split at h
      · have := hp _ _ (by omega) (by omega) h; omega
      · split at h
        · omega
        · have := hp _ _ (by omega) (by omega) h; omega
    · split at h
      · have := hp _ _ (by omega) (by omega) h; omega
      · split at h
        · have := hp _ _ (by omega) (by omega) h; omega
        · exact hp _ _ ha hb h
/-- a move's bounds, by its row -/
def zmb (g : Nat → Int64) (nf : Nat) (r : Nat → Int32) : Prop := (∃ a, r 0 = nI a ∧ a < nf) ∧ (∃ a, r 1 = nI a ∧ a < gN g 2) ∧ (∃ a, r 2 = nI a ∧ a < gN g 2)
theorem zphi_b {g : Nat → Int64} {f nf : Nat} {r r' : Nat → Int32} (hf : f < nf) (hn : nf ≤ 20) (h : zmb g nf r) (hm : r' ∈ zphi (nI f) r) : zmb g (nf - 1) r' := by
  obtain ⟨⟨a, e, ha⟩, h1, h2⟩ := h
  unfold zphi at hm
  split at hm
  · cases hm
  · rename_i c
    have hne : a ≠ f := fun q => c (by rw [e, q])
    split at hm
    · rename_i c2
      rw [List.mem_singleton] at hm
      rw [e] at c2
      have := nle c2 (by omega) (by omega)
      rw [hm]
      exact ⟨⟨a, e, by omega⟩, h1, h2⟩
    · rename_i c2
      rw [List.mem_singleton] at hm
      rw [e] at c2
      have := nlt c2 (by omega) (by omega)
      rw [hm]
      refine ⟨⟨a - 1, ?_, by omega⟩, ?_, ?_⟩
      · show (if 0 = 0 then r 0 - nI 1 else r 0) = _
        rw [if_pos rfl, e]
        exact pk_sub (by omega)
      · exact h1
      · exact h2
theorem gBd.drop {g g' : Nat → Int64} {f : Nat} (h : gBd g) (hf : f < gN g 3) (hd : zDr g f g') : gBd g' := by
  obtain ⟨a0, a2, a3, a4, a5, af, aw⟩ := h
  obtain ⟨d1, d3, df, dp, m, hm, d5, dm⟩ := hd
  have n3 : gN g' 3 = gN g 3 - 1 := gN_of d3 (by omega)
  have n5 : gN g' 5 = m := gN_of d5 (by omega)
  have e2 := d1 2 (by omega) (by omega) (by omega)
  have c2 := gN_eq e2
  refine ⟨?_, ?_, ?_, ?_, ?_, fun f' hf' => ?_, fun w hw => ?_⟩
  · rw [its_eq (d1 0 (by omega) (by omega) (by omega)), gN_eq (d1 0 (by omega) (by omega) (by omega))]; exact a0
  · rw [its_eq e2, c2]; exact a2
  · rw [n3]; exact ⟨d3, by omega⟩
  · rw [its_eq (d1 4 (by omega) (by omega) (by omega)), gN_eq (d1 4 (by omega) (by omega) (by omega))]; exact a4
  · rw [n5]; exact ⟨d5, hm⟩
  · rw [n3] at hf'
    have e1 := df f' hf' 1 (by omega)
    have e4 := df f' hf' 4 (by omega)
    have i1 : its g' (58 + 51 * f' + 1) = its g (58 + 51 * (if f' < f then f' else f' + 1) + 1) := congrArg Int64.toInt32 e1
    have i4 : its g' (58 + 51 * f' + 4) = its g (58 + 51 * (if f' < f then f' else f' + 1) + 4) := congrArg Int64.toInt32 e4
    have j1 : gN g' (58 + 51 * f' + 1) = gN g (58 + 51 * (if f' < f then f' else f' + 1) + 1) := congrArg Int32.toNatClampNeg i1
    have j4 : gN g' (58 + 51 * f' + 4) = gN g (58 + 51 * (if f' < f then f' else f' + 1) + 4) := congrArg Int32.toNatClampNeg i4
    unfold gf
    rw [i1, i4, j1, j4, c2]
    exact af _ (by split <;> omega)
  · rw [n5] at hw
    have hmem : grow g' w ∈ (List.range (gN g 5)).flatMap (fun w => zphi (nI f) (grow g w)) := by
      rw [← dm]
      exact List.mem_map.mpr ⟨w, List.mem_range.mpr hw, rfl⟩
    obtain ⟨w0, hw0, hr⟩ := List.mem_flatMap.mp hmem
    have hb0 := aw w0 (List.mem_range.mp hw0)
    obtain ⟨⟨a, q0, r0⟩, ⟨b, q1, r1⟩, ⟨c, q2, r2⟩⟩ := zphi_b (g := g) (r := grow g w0) hf (by omega) ⟨⟨_, hb0.1.1, hb0.1.2⟩, ⟨_, hb0.2.1.1, hb0.2.1.2⟩, ⟨_, hb0.2.2.1, hb0.2.2.2⟩⟩ hr
    have q0' : gm g' w 0 = nI a := q0
    have q1' : gm g' w 1 = nI b := q1
    have q2' : gm g' w 2 = nI c := q2
    have m0 : gN g' (1078 + 5 * w + 0) = a := gN_of q0' (by omega)
    have m1 : gN g' (1078 + 5 * w + 1) = b := gN_of q1' (by omega)
    have m2 : gN g' (1078 + 5 * w + 2) = c := gN_of q2' (by omega)
    rw [m0, m1, m2, n3, c2]
    exact ⟨⟨q0', r0⟩, ⟨q1', r1⟩, ⟨q2', r2⟩⟩
theorem rSt.drop {M M3 : zMem} {s f : Nat} {g g' : Nat → Int64} {p : Nat → Nat} (h : rSt M s g p) (hf : f < gN g 3) (hd : zDr g f g') (e : zag M M3 (fun b => b ≠ s ∧ b ≠ s + 2 ∧ b ≠ s + 3 ∧ b ≠ s + 3 + 1)) (er : ∀ b, b ≠ s + 2 → zR M3 b = zR M b) (er2 : zR M3 (s + 2) = fun j => if j = gN g 3 - 1 then some (s + 17 + 3 * p f) else if f ≤ j ∧ j < gN g 3 - 1 then zR M (s + 2) (j + 1) else zR M (s + 2) j)
    (eh : zI M3 s = zw1 (zI M s) 4 (nI (gN g 3 - 1))) {m : Nat} (hm0 : m ≤ 60) (hm : zI M3 (s + 3) 0 = nI m) (hr : zrows (zI M3 (s + 3 + 1)) m = (List.range (gN g 5)).flatMap (fun w => zphi (nI f) (zrow (zI M (s + 3 + 1)) w))) : rSt M3 s g' (zpq p f (gN g 3)) := by
  have hb' := h.b.drop hf hd
  have hF := h.b.2.2.1.2
  have hT := h.b.2.1.2
  obtain ⟨d1, d3, df, dp, m', hm', d5, dm⟩ := hd
  have n3 : gN g' 3 = gN g 3 - 1 := gN_of d3 (by omega)
  have n5 : gN g' 5 = m' := gN_of d5 (by omega)
  have c2 := gN_eq (d1 2 (by omega) (by omega) (by omega))
  have e0 := e.2
  have hrow : ∀ w, w < gN g 5 → zrow (zI M (s + 3 + 1)) w = grow g w := by
    intro w hw
    funext k
    unfold zrow grow
    by_cases q : k < 5
    · rw [if_pos q, if_pos q, h.mv hw q]
    · rw [if_neg q, if_neg q]
  have hl2 : zrows (zI M3 (s + 3 + 1)) m = (List.range m').map (grow g') := by
    rw [hr, dm]
    exact fm_congr fun w hw => by rw [hrow w (List.mem_range.mp hw)]
  have hmm : m = m' := by
    have := congrArg List.length hl2
    unfold zrows at this
    rw [List.length_map, List.length_map, List.length_range, List.length_range] at this
    exact this
  subst hmm
  have kk := fun b => zsh_K e.1 b
  have nn := fun b => zsh_N e.1 b
  obtain ⟨⟨⟨s1, s2, s3, s4⟩, ⟨t1, t2⟩, ⟨f1, f2⟩, sv, st, sq, sf, sj⟩, h2, h3, h4, h5, h6⟩ := h
  refine ⟨⟨⟨?_, ?_, ?_, ?_⟩, ⟨?_, ?_⟩, ⟨?_, ?_⟩, ?_, fun t ht => ?_, fun q hq => ?_, fun j hj => ?_, fun a b ha hb he => zpq_inj hf hF sj ha hb he⟩, ⟨?_, ?_, ?_, ?_, ?_⟩, ⟨?_, fun w hw k hk => ?_⟩, fun t ht => ?_, fun f' hf' => ?_, hb'⟩
  · rw [kk]; exact s1
  · rw [er s (by omega)]; exact s2
  · rw [er s (by omega)]; exact s3
  · rw [er s (by omega)]; exact s4
  · rw [kk]; exact t1
  · rw [nn]; exact t2
  · rw [kk]; exact f1
  · rw [nn]; exact f2
  · unfold vSh at *
    rw [kk, kk, nn, er (s + 3) (by omega)]
    exact sv
  · have := st t ht
    unfold tSh at *
    rw [kk, kk, kk, nn, nn, er (s + 1) (by omega), er (s + 5 + 3 * t) (by omega)]
    exact this
  · have := sq q hq
    unfold rSh at *
    rw [kk, kk, kk, nn, nn, er (s + 17 + 3 * q) (by omega)]
    exact this
  · rw [er2]
    unfold zpq
    by_cases q : f ≤ j ∧ j < gN g 3 - 1
    · rw [if_pos q]
      refine ⟨?_, (sf (j + 1) (by omega)).2⟩
      show (if j = gN g 3 - 1 then _ else _) = _
      rw [if_neg (by omega), if_pos q]
      exact (sf (j + 1) (by omega)).1
    · rw [if_neg q]
      by_cases q2 : j = gN g 3 - 1
      · rw [if_pos q2]
        exact ⟨if_pos q2, (sf f (by omega)).2⟩
      · rw [if_neg q2]
        refine ⟨?_, (sf j hj).2⟩
        show (if j = gN g 3 - 1 then _ else _) = _
        rw [if_neg q2, if_neg q]
        exact (sf j hj).1
  · rw [eh]; exact h2.1.trans (its_eq (d1 0 (by omega) (by omega) (by omega))).symm
  · rw [eh]; exact h2.2.1.trans (its_eq (d1 1 (by omega) (by omega) (by omega))).symm
  · rw [eh]; exact h2.2.2.1.trans (its_eq (d1 4 (by omega) (by omega) (by omega))).symm
  · rw [eh]; exact h2.2.2.2.1.trans (its_eq (d1 2 (by omega) (by omega) (by omega))).symm
  · rw [eh, zw1_e]; exact d3.symm
  · rw [hm]; exact d5.symm
  · rw [n5] at hw
    have q1 : (zrows (zI M3 (s + 3 + 1)) m)[w]? = some (zrow (zI M3 (s + 3 + 1)) w) := by
      unfold zrows
      rw [List.getElem?_map, List.getElem?_range hw]; rfl
    rw [hl2, List.getElem?_map, List.getElem?_range hw] at q1
    have q2 : grow g' w = zrow (zI M3 (s + 3 + 1)) w := Option.some.inj q1
    have q3 := congrFun q2 k
    unfold grow zrow at q3
    rw [if_pos hk, if_pos hk] at q3
    exact q3.symm
  · rw [c2] at ht
    exact (h4 t ht).keep (fun b q1 q2 => ⟨(e0 b (by omega)).1, (e0 b (by omega)).2.1⟩) (fun k hk => d1 _ (by omega) (by omega) (by omega)) (fun k hk => dp _ (by omega))
  · rw [n3] at hf'
    have key : ∀ f0, f0 = (if f' < f then f' else f' + 1) → zpq p f (gN g 3) f' = p f0 → rFi M3 (s + 17 + 3 * zpq p f (gN g 3) f') g' f' := by
      intro f0 hf0 hp0
      have hlt : f0 < gN g 3 := by rw [hf0]; split <;> omega
      have hp20 := (sf f0 (by omega)).2
      have ha := h5 f0 hlt
      have hk := (h6.2.2.2.2.2.1 f0 hlt).2.2
      rw [hp0]
      have eg : ∀ k, k < 51 → g' (58 + 51 * f' + k) = g (58 + 51 * f0 + k) := fun k hk => by rw [hf0]; exact df f' hf' k hk
      obtain ⟨a1, a2, a3, a4, a5, a6, a7, a8, a9, a10⟩ := ha
      have ei : ∀ k, k < 51 → its g' (58 + 51 * f' + k) = its g (58 + 51 * f0 + k) := fun k hk => congrArg Int64.toInt32 (eg k hk)
      have r0 := e0 (s + 17 + 3 * p f0) (by omega)
      have r1 := e0 (s + 17 + 3 * p f0 + 1) (by omega)
      have r2 := e0 (s + 17 + 3 * p f0 + 2) (by omega)
      unfold rFi
      rw [r0.1, r0.2.1, r1.1, r2.1]
      refine ⟨a1.trans (zpk_sh 8 fun j hj => ?_), a2.trans (ei 0 (by omega)).symm, a3.trans (ei 1 (by omega)).symm, a4.trans (ei 2 (by omega)).symm, a5.trans (ei 3 (by omega)).symm, a6.trans (ei 5 (by omega)).symm, a7.trans (eg 50 (by omega)).symm, a8.trans (ei 4 (by omega)).symm, fun j hj => ?_, fun j hj => ?_⟩
      · have := eg (6 + j) (by omega)
        rw [← Nat.add_assoc, ← Nat.add_assoc] at this
        exact this.symm
      · rw [a9 j hj]
        have := ei (14 + j) (by omega)
        rw [← Nat.add_assoc, ← Nat.add_assoc] at this
        exact this.symm
      · have e4 : gN g' (58 + 51 * f' + 4) = gN g (58 + 51 * f0 + 4) := congrArg Int32.toNatClampNeg (ei 4 (by omega))
        rw [e4] at hj
        rw [a10 j hj]
        have := ei (26 + j) (by omega)
        rw [← Nat.add_assoc, ← Nat.add_assoc] at this
        exact this.symm
    by_cases q : f' < f
    · exact key f' (by rw [if_pos q]) (by unfold zpq; rw [if_neg (by omega), if_neg (by omega)])
    · exact key (f' + 1) (by rw [if_neg q]) (by unfold zpq; rw [if_pos (by omega)])
/-- a row of references as a whole -/
def zsP (M : zMem) (a : Nat) (q : Nat → Option Nat) : zMem := (M.1, M.2.1, zur M.2.2.1 a q, M.2.2.2)
theorem zsP_1 (M : zMem) (a k : Nat) (q : Nat → Option Nat) (v : Option Nat) : zsR (zsP M a q) a k v = zsP M a (fun j => if j = k then v else q j) := by
  unfold zsR zsP
  congr 3
  funext b
  unfold zu zur
  by_cases h : b = a
  · simp [h]
  · simp [h]
theorem zsP_id (M : zMem) (a : Nat) : zsP M a (zR M a) = M := by
  unfold zsP
  have : zur M.2.2.1 a (zR M a) = M.2.2.1 := by
    funext b
    unfold zur
    by_cases h : b = a
    · rw [if_pos h, h]; rfl
    · rw [if_neg h]
  rw [this]
theorem zsP_e {M : zMem} {a : Nat} {q : Nat → Option Nat} : zR (zsP M a q) a = q := if_pos rfl
theorem zsP_n {M : zMem} {a b : Nat} {q : Nat → Option Nat} (h : b ≠ a) : zR (zsP M a q) b = zR M b := if_neg h
theorem zsP_g {M : zMem} {a : Nat} {q q' : Nat → Option Nat} (e : q = q') : zsP M a q = zsP M a q' := by rw [e]
def zmv (q : Nat → Option Nat) (f i : Nat) : Nat → Option Nat := fun j => if f ≤ j ∧ j < i then q (j + 1) else q j
theorem zmv_0 (q : Nat → Option Nat) (f : Nat) : zmv q f f = q := by funext j; unfold zmv; rw [if_neg (by omega)]
theorem zmv_1 (q : Nat → Option Nat) {f i : Nat} (h : f ≤ i) : (fun j => if j = i then q (i + 1) else zmv q f i j) = zmv q f (i + 1) := by
  funext j
  unfold zmv
  by_cases c : j = i
  · rw [if_pos c, if_pos (by omega), c]
  · rw [if_neg c]
    by_cases d : f ≤ j ∧ j < i
    · rw [if_pos d, if_pos (by omega)]
    · rw [if_neg d, if_neg (by omega)]
section
variable {l : Launch} {G : zG}
theorem w_X5_removeFile_39 (hl : l.stackTraces = false) {M : zMem} {s : Nat} {g : Nat → Int64} {p : Nat → Nat} (h : rSt M s g p) {f : Nat} {g' : Nat → Int64} (hf : f < gN g 3) (hd : zDr g f g') : zS l G mX5_removeFile 3 80 0 0 39 [some (.ref s), some (.int (nI f)), some (.ref (s + 17 + 3 * p f)), some (.int (nI (gN g 3 - 1)))] [] (zsP M (s + 2) (zmv (zR M (s + 2)) f (gN g 3 - 1))) (zU M s none g' (zpq p f (gN g 3))) := by
  have hF := h.b.2.2.1.2
  refine s_aload_n (zdk hX5_removeFile 25 rfl) rfl ?_
  refine s_dupr (zdk hX5_removeFile 26 rfl) ?_
  refine s_getI (zdk hX5_removeFile 27 rfl) fw_X5_24 rfl (h.K) ?_
  refine s_topi (b := nI (gN g 3)) (h.v4) ?_
  refine s_iconstv (v := nI 1) (zdk hX5_removeFile 28 rfl) zc_iconst_1 ?_
  refine s_isub (zdk hX5_removeFile 29 rfl) ?_
  refine s_topi (b := nI (gN g 3 - 1)) (pk_sub (by omega)) ?_
  refine s_putI (zdk hX5_removeFile 30 rfl) fw_X5_24 rfl pw_5_4 (h.K) ?_
  refine s_aload_n (zdk hX5_removeFile 31 rfl) rfl ?_
  refine s_getR (zdk hX5_removeFile 32 rfl) fw_X5_35 rfl (h.K) ((congrFun (zsP_n (show s ≠ s + 2 by omega)) 6).trans h.r6) ?_
  refine s_aload_n (zdk hX5_removeFile 33 rfl) rfl ?_
  refine s_getI (zdk hX5_removeFile 34 rfl) fw_X5_24 rfl (h.K) ?_
  refine s_topi (b := nI (gN g 3 - 1)) ((congrFun zI_Ie 4).trans zw1_e) ?_
  refine s_aload_n (zdk hX5_removeFile 35 rfl) rfl ?_
  refine s_aastoreN (N := 20) (j := (gN g 3 - 1)) (q := 0) (ci := 0) (zdk hX5_removeFile 36 rfl) (h.fK) ((h.rS20 (by omega)).1) (by decide) rfl (fun _ => rfl) (h.fN) (by omega) (by decide) ?_
  have hv : vSh (zsR (zsI (zsP M (s + 2) (zmv (zR M (s + 2)) f (gN g 3 - 1))) s 4 (nI (gN g 3 - 1))) (s + 2) (gN g 3 - 1) (some (s + 17 + 3 * p f))) (s + 3) := by
    have := h.mS
    unfold vSh at *
    rw [show zR (zsR (zsI (zsP M (s + 2) (zmv (zR M (s + 2)) f (gN g 3 - 1))) s 4 (nI (gN g 3 - 1))) (s + 2) (gN g 3 - 1) (some (s + 17 + 3 * p f))) (s + 3) = zR M (s + 3) from (if_neg (show s + 3 ≠ s + 2 by omega)).trans (zsP_n (show s + 3 ≠ s + 2 by omega))]
    exact this
  have hv0 : zI (zsR (zsI (zsP M (s + 2) (zmv (zR M (s + 2)) f (gN g 3 - 1))) s 4 (nI (gN g 3 - 1))) (s + 2) (gN g 3 - 1) (some (s + 17 + 3 * p f))) (s + 3) 0 = nI (gN g 5) := (congrFun (zI_In (show s + 3 ≠ s by omega)) 0).trans h.mv0
  refine s_aload_n (zdk hX5_removeFile 37 rfl) rfl ?_
  refine s_getR (zdk hX5_removeFile 38 rfl) fw_X5_42 rfl (h.K) ((congrFun (show zR (zsR (zsI (zsP M (s + 2) (zmv (zR M (s + 2)) f (gN g 3 - 1))) s 4 (nI (gN g 3 - 1))) (s + 2) (gN g 3 - 1) (some (s + 17 + 3 * p f))) s = zR M s from (if_neg (show s ≠ s + 2 by omega)).trans (zsP_n (show s ≠ s + 2 by omega))) 7).trans h.r7) ?_
  refine s_iload_n (zdk hX5_removeFile 39 rfl) rfl ?_
  refine s_callV0 (ci := 2) [.int (nI f)] (zdk hX5_removeFile 40 rfl) cw_X5_120 (hv.1) (by decide) rfl rfl rfl (Nat.le_of_ble_eq_true rfl) (by decide) (c_X2_forgetFile hl hv hv0 h.b.2.2.2.2.1.2 (nI f)) ?_
  refine s_return (zdk hX5_removeFile 41 rfl) rfl ?_
  obtain ⟨m, hm1, hm2, hm3⟩ := zM_fg_rows (s + 3) (nI f) (gN g 5) (gN g 5) (zsR (zsI (zsP M (s + 2) (zmv (zR M (s + 2)) f (gN g 3 - 1))) s 4 (nI (gN g 3 - 1))) (s + 2) (gN g 3 - 1) (some (s + 17 + 3 * p f))) (Nat.le_refl _) hv0
  have hz := zag_fg (s + 3) (nI f) (gN g 5) (gN g 5) (zsR (zsI (zsP M (s + 2) (zmv (zR M (s + 2)) f (gN g 3 - 1))) s 4 (nI (gN g 3 - 1))) (s + 2) (gN g 3 - 1) (some (s + 17 + 3 * p f)))
  have hzR := zM_fg_R (s + 3) (nI f) (gN g 5) (gN g 5) (zsR (zsI (zsP M (s + 2) (zmv (zR M (s + 2)) f (gN g 3 - 1))) s 4 (nI (gN g 3 - 1))) (s + 2) (gN g 3 - 1) (some (s + 17 + 3 * p f)))
  have h60 := h.b.2.2.2.2.1.2
  have eG : zag M (zsR (zsI (zsP M (s + 2) (zmv (zR M (s + 2)) f (gN g 3 - 1))) s 4 (nI (gN g 3 - 1))) (s + 2) (gN g 3 - 1) (some (s + 17 + 3 * p f))) (fun b => b ≠ s ∧ b ≠ s + 2) := ⟨rfl, fun b hb => ⟨zI_In hb.1, rfl, (if_neg hb.2).trans (zsP_n hb.2)⟩⟩
  refine ⟨rfl, (eG.mono fun b hb => by omega).trans (hz.mono fun b hb => by omega), h.drop hf hd ((eG.mono fun b hb => by omega).trans (hz.mono fun b hb => by omega)) (fun b hb => ?_) ?_ ?_ (m := m) (by omega) hm2 ?_⟩
  · rw [hzR]; exact (if_neg hb).trans (zsP_n hb)
  · rw [hzR]; funext j
    show zu _ _ _ _ (s + 2) j = _
    rw [zu_row]
    by_cases q : j = gN g 3 - 1
    · rw [if_pos q]; exact (if_pos q)
    · rw [if_neg q]; refine (if_neg q).trans ?_; exact (congrFun zsP_e j)
  · rw [(hz.2 s (by omega)).1]; exact zI_Ie
  · rw [hm3, Nat.sub_self]; simp only [List.range'_zero, List.map_nil, List.append_nil]
    exact fm_congr fun w _ => by rw [zI_R, zI_In (show s + 3 + 1 ≠ s by omega)]; rfl
theorem w_X5_removeFile_9 (hl : l.stackTraces = false) {M : zMem} {s : Nat} {g : Nat → Int64} {p : Nat → Nat} (h : rSt M s g p) {f : Nat} {g' : Nat → Int64} (hf : f < gN g 3) (hd : zDr g f g') : ∀ (k i : Nat), f ≤ i → i ≤ gN g 3 - 1 → gN g 3 - i < k → zS l G mX5_removeFile 3 80 0 0 9 [some (.ref s), some (.int (nI f)), some (.ref (s + 17 + 3 * p f)), some (.int (nI i))] [] (zsP M (s + 2) (zmv (zR M (s + 2)) f i)) (zU M s none g' (zpq p f (gN g 3))) := by
  have hF := h.b.2.2.1.2
  intro k
  induction k with
  | zero => intros; omega
  | succ k ih =>
    intro i hfi hi hk
    refine s_iload_n (zdk hX5_removeFile 7 rfl) rfl ?_
    refine s_iconstv (v := nI 1) (zdk hX5_removeFile 8 rfl) zc_iconst_1 ?_
    refine s_iadd (zdk hX5_removeFile 9 rfl) ?_
    refine s_topi (b := nI (i + 1)) (nI_1 i) ?_
    refine s_aload_n (zdk hX5_removeFile 10 rfl) rfl ?_
    refine s_getI (zdk hX5_removeFile 11 rfl) fw_X5_24 rfl (h.K) ?_
    refine s_topi (b := nI (gN g 3)) (h.v4) ?_
    refine s_icmp_ge 39 (zdk hX5_removeFile 12 rfl) (by decide) (fun c16 => ?_) (fun c16 => ?_)
    · obtain rfl : i = gN g 3 - 1 := by have := nle c16 (by omega) (by omega); omega
      exact w_X5_removeFile_39 hl h hf hd
    · have hi2 : i + 1 < gN g 3 := nlt c16 (by omega) (by omega)
      refine s_aload_n (zdk hX5_removeFile 13 rfl) rfl ?_
      refine s_getR (zdk hX5_removeFile 14 rfl) fw_X5_35 rfl (h.K) ((congrFun (zsP_n (show s ≠ s + 2 by omega)) 6).trans h.r6) ?_
      refine s_iload_n (zdk hX5_removeFile 15 rfl) rfl ?_
      refine s_aload_n (zdk hX5_removeFile 16 rfl) rfl ?_
      refine s_getR (zdk hX5_removeFile 17 rfl) fw_X5_35 rfl (h.K) ((congrFun (zsP_n (show s ≠ s + 2 by omega)) 6).trans h.r6) ?_
      refine s_iload_n (zdk hX5_removeFile 18 rfl) rfl ?_
      refine s_iconstv (v := nI 1) (zdk hX5_removeFile 19 rfl) zc_iconst_1 ?_
      refine s_iadd (zdk hX5_removeFile 20 rfl) ?_
      refine s_topi (b := nI (i + 1)) (nI_1 i) ?_
      refine s_aaloadN (N := 20) (j := (i + 1)) (zdk hX5_removeFile 21 rfl) (h.fK) (by decide) (h.fN) (by omega) (by decide) ((congrFun zsP_e _).trans ((if_neg (by omega)).trans (h.rR20 (by omega)))) ?_
      refine s_aastoreN (N := 20) (j := i) (q := 0) (ci := 0) (zdk hX5_removeFile 22 rfl) (h.fK) ((h.rS20 (by omega)).1) (by decide) rfl (fun _ => rfl) (h.fN) (by omega) (by decide) ?_
      refine s_mem (M' := (zsP M (s + 2) (zmv (zR M (s + 2)) f (i + 1)))) ((zsP_1 _ _ _ _ _).trans (zsP_g (by rw [← h.rR20 (f := i + 1) (by omega)]; exact zmv_1 _ hfi))) ?_
      refine s_iinc (r := nI (i + 1)) (zdk hX5_removeFile 23 rfl) (Nat.le_of_ble_eq_true rfl) rfl (nI_1 i) ?_
      refine s_ls (ls' := [some (.ref s), some (.int (nI f)), some (.ref (s + 17 + 3 * p f)), some (.int (nI (i + 1)))]) rfl ?_
      refine s_goto 9 (zdk hX5_removeFile 24 rfl) (by decide) ?_
      exact ih (i + 1) (by omega) (by omega) (by omega)
theorem c_X5_removeFile (hl : l.stackTraces = false) {M : zMem} {s : Nat} {g : Nat → Int64} {p : Nat → Nat} (h : rSt M s g p) {f : Nat} {g' : Nat → Int64} (hf : f < gN g 3) (hd : zDr g f g') : zCm l G mX5_removeFile 3 80 0 0 [.ref s, .int (nI f)] M (zU M s none g' (zpq p f (gN g 3))) := by
  refine zCm.of0 (ls0 := [some (.ref s), some (.int (nI f)), none, none]) (by decide +kernel) rfl hl rfl (Nat.le_of_ble_eq_true rfl) (fun v' M' q => q.2.1.1) (fun x M' q => by cases q.1) ?_
  refine s_aload_n (zdk hX5_removeFile 0 rfl) rfl ?_
  refine s_getR (zdk hX5_removeFile 1 rfl) fw_X5_35 rfl (h.K) (h.r6) ?_
  refine s_iload_n (zdk hX5_removeFile 2 rfl) rfl ?_
  refine s_aaloadN (N := 20) (j := f) (zdk hX5_removeFile 3 rfl) (h.fK) (by decide) (h.fN) (h.fL hf) (by decide) (h.rR hf) ?_
  refine s_astore_n (zdk hX5_removeFile 4 rfl) (Nat.le_of_ble_eq_true rfl) ?_
  refine s_ls (ls' := [some (.ref s), some (.int (nI f)), some (.ref (s + 17 + 3 * p f)), none]) rfl ?_
  refine s_iload_n (zdk hX5_removeFile 5 rfl) rfl ?_
  refine s_istore_n (zdk hX5_removeFile 6 rfl) (Nat.le_of_ble_eq_true rfl) ?_
  refine s_ls (ls' := [some (.ref s), some (.int (nI f)), some (.ref (s + 17 + 3 * p f)), some (.int (nI f))]) rfl ?_
  have hq := w_X5_removeFile_9 (l := l) (G := G) hl h hf hd (gN g 3 + 1) f (Nat.le_refl f) (by omega) (by omega)
  rw [zmv_0, zsP_id] at hq
  exact hq
end
