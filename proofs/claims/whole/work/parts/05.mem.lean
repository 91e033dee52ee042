/-! ===== the rules that read and write the world ===== -/
theorem zwf_lt {M : zMem} {a : Nat} (h : zwf M) (hk : zK M a ≠ 0) : a < zT M ∧ a < 1000000 := by
  rcases Nat.lt_or_ge a (zT M) with q | q
  · exact ⟨q, Nat.lt_of_lt_of_le q h.2⟩
  · exact absurd (h.1 a q) hk
theorem zad_in {G : zG} {a : Nat} (h : a < 1000000) : zad G a = gB G + a := by unfold zad; rw [if_pos h]
theorem zWd.cell {G : zG} {M : zMem} {s : State} {H : Heap} {locs : List Loc} {cells : Nat} (h : zWd G M s H locs cells) {a : Nat} (hk : zK M a ≠ 0) : (zW G M)[a]? = some (zad G a, zcl G M a) := by
  obtain ⟨h1, h2⟩ := zwf_lt h.1 hk
  rw [zad_in h2]
  exact zW_get h1
/-- the same shape, other contents of one cell -/
def zsh (M M' : zMem) : Prop := M'.2.2.2 = M.2.2.2
theorem zsh_wf {M M' : zMem} (h : zsh M M') (hw : zwf M) : zwf M' := by
  obtain ⟨a, b, c, d⟩ := M
  obtain ⟨a', b', c', d'⟩ := M'
  have : d' = d := h
  subst this
  exact hw
theorem zsh_T {M M' : zMem} (h : zsh M M') : zT M' = zT M := congrArg (fun q => q.2.2.1) h
theorem zsh_K {M M' : zMem} (h : zsh M M') (a : Nat) : zK M' a = zK M a := congrArg (fun q => q.1 a) h
theorem zsh_N {M M' : zMem} (h : zsh M M') (a : Nat) : zN M' a = zN M a := congrArg (fun q => q.2.1 a) h
theorem zsh_F {M M' : zMem} (h : zsh M M') : zF M' = zF M := congrArg (fun q => q.2.2.2) h
/-- what a cell shows depends on its own contents alone -/
theorem zcl_eq {G : zG} {M M' : zMem} {a : Nat} (h : zsh M M') (h1 : M'.1 a = M.1 a) (h2 : M'.2.1 a = M.2.1 a) (h3 : M'.2.2.1 a = M.2.2.1 a) : zcl G M' a = zcl G M a := by
  have e1 : zI M' a = zI M a := h1
  have e2 : zJ M' a = zJ M a := h2
  have e3 : zR M' a = zR M a := h3
  have e4 : ∀ ci, zfl G M' ci a = zfl G M ci a := fun ci => List.map_congr_left fun k _ => by unfold zfv; rw [e1, e2, e3]
  unfold zcl
  rw [zsh_K h, zsh_N h, e1, e2, e3, e4]
theorem zWd.put {G : zG} {M M' : zMem} {s : State} {H H1 : Heap} {locs locs1 : List Loc} {cells : Nat} (h : zWd G M s H locs cells) (hs : zsh M M') {a : Nat} {e : va_E} (ha : a < 1000000) (he : zcl G M' a = e) (ho : ∀ c, c ≠ a → M'.1 c = M.1 c ∧ M'.2.1 c = M.2.1 c ∧ M'.2.2.1 c = M.2.2.1 c)
    (hP : va_P (gD G) vwCl ((zW G M).set a (zad G a, e)) H1) (hS : va_S (zA G) s.heap H1 locs1) : zWd G M' s H1 locs1 cells := by
  obtain ⟨h1, h2, h3, h5⟩ := h
  refine ⟨zsh_wf hs h1, ?_, hS, fun q => by rw [zsh_T hs]; exact h5 (by rw [← zsh_F hs]; exact q)⟩
  rw [zad_in ha, zW_set (M' := M') (zsh_T hs) he fun c hc => zcl_eq hs (ho c hc).1 (ho c hc).2.1 (ho c hc).2.2] at hP
  exact hP
theorem zfl_len {G : zG} {M : zMem} {ci a : Nat} : (zfl G M ci a).length = znf ci := by simp [zfl]
theorem zfl_at {G : zG} {M : zMem} {ci a k : Nat} (h : k < znf ci) : (zfl G M ci a)[k]? = some (zfv G M ci a k) := by simp [zfl, h]
theorem zfl_set {G : zG} {M M' : zMem} {ci a k : Nat} {v : Value} (hv : zfv G M' ci a k = v) (ho : ∀ j, j ≠ k → zfv G M' ci a j = zfv G M ci a j) : (zfl G M ci a).set k v = zfl G M' ci a := by
  apply List.ext_getElem?
  intro j
  by_cases hj : j = k
  · subst hj
    by_cases hl : j < znf ci
    · rw [List.getElem?_set_self (by rw [zfl_len]; exact hl), zfl_at hl, hv]
    · rw [List.getElem?_eq_none (by rw [List.length_set, zfl_len]; omega), List.getElem?_eq_none (by rw [zfl_len]; omega)]
  · rw [List.getElem?_set_ne (Ne.symm hj)]
    by_cases hl : j < znf ci
    · rw [zfl_at hl, zfl_at hl, ho j hj]
    · rw [List.getElem?_eq_none (by rw [zfl_len]; omega), List.getElem?_eq_none (by rw [zfl_len]; omega)]
theorem zcl_obj {G : zG} {M : zMem} {ci a : Nat} (h : zK M a = ci + 1) (hc : ci < 10) : zcl G M a = .inr (ci, zfl G M ci a) := by
  unfold zcl; rw [h, if_pos (by omega), Nat.add_sub_cancel]
theorem zcl_I {G : zG} {M : zMem} {a : Nat} (h : zK M a = 11) : zcl G M a = .inl (gC G 0, zN M a, .inl (zI M a)) := by
  unfold zcl; rw [h]; rfl
theorem zcl_J {G : zG} {M : zMem} {a : Nat} (h : zK M a = 12) : zcl G M a = .inl (gC G 1, zN M a, .inr (.inl (zJ M a))) := by
  unfold zcl; rw [h]; rfl
theorem zcl_Z {G : zG} {M : zMem} {a : Nat} (h : zK M a = 13) : zcl G M a = .inl (gC G 2, zN M a, .inl (zI M a)) := by
  unfold zcl; rw [h]; rfl
theorem zcl_R {G : zG} {M : zMem} {a j : Nat} (h : zK M a = 14 + j) : zcl G M a = .inl (gC G (3 + j), zN M a, .inr (.inr (.inr (.inr (fun k => (zR M a k).map (zad G)))))) := by
  unfold zcl; rw [h, if_neg (by omega), if_neg (by omega), if_neg (by omega), if_neg (by omega), show 14 + j - 11 = 3 + j by omega]
/-- a class of the world: its name, its fields, how many -/
def zCl (ci : Nat) : vw_C := vwCl.getD ci (RX0, TX0, 10)
/-- the words of a field by a pool entry: class ci, field k -/
def zfw (own : String) (i ci k : Nat) : Prop :=
  ci < 10 ∧ k < znf ci ∧ (∀ w ∈ u_ws (zCl ci).1 (zCl ci).2.1 (zCl ci).2.2, w ∈ zGW) ∧ vwCl[ci]? = some (zCl ci) ∧ (zCl ci).2.2 = znf ci ∧ Cond.fieldLink own i ((zCl ci).2.1 k).1 ((zCl ci).2.1 k).2.1 ((zCl ci).2.1 k).2.2.1 ∈ zGW
/-- .. and that it may be written -/
def zpw (ci k : Nat) (ty : FieldType) (fin : Bool) : Prop :=
  (∃ ty0 : Nat → FieldType, ∀ j, j < znf ci → parseFieldDescriptor ((zCl ci).2.1 j).2.2.1 = some (ty0 j)) ∧ (∀ a, a < znf ci → ∀ b, b < znf ci → a ≠ b → ((zCl ci).2.1 a).2.1 ≠ ((zCl ci).2.1 b).2.1) ∧ ((zCl ci).2.1 k).2.2.2 = fin ∧ parseFieldDescriptor ((zCl ci).2.1 k).2.2.1 = some ty
section ZM
variable {l : Launch} {G : zG} {y : zMD} {fr lo bc bs pc : Nat} {ls : List (Option Value)} {st : List Value} {M : zMem} {Q : zOut → zMem → Prop}
theorem s_getv {i ci k a : Nat} {v : Value} (hd : decode (yC y) pc = .ok (.getfield i, 3)) (hw : zfw (yN y).cls i ci k) (hK : zK M a = ci + 1) (hv : zfv G M ci a k = zv G v)
    (kk : zS l G y fr lo bc bs (pc + 3) ls (v :: st) M Q) : zS l G y fr lo bc bs pc ls (.ref a :: st) M Q := by
  intro p e R s m args below meth c H locs cells slots X la F hc hs hW hl hE
  obtain ⟨w1, w2, w3, w4, w5, w6⟩ := hw
  have hcell := hW.cell (a := a) (by rw [hK]; omega)
  rw [zcl_obj hK w1] at hcell
  exact va_get (ref := ((zCl ci).2.1 k).1) F.1 F.2.1 F.2.2.2.2.1 w3 F.2.2.2.1 F.2.2.2.2.2.2.2.2.2.2.2.2.1 hW.2.1 a hcell w4 k (by rw [w5]; exact w2) (F.2.2.2.2.1 _ w6) (fun x h => h) (by rw [zfl_at w2, hv]) hd (kk p e R s m args below meth c H locs cells slots X la F hc hs hW hl hE)
theorem s_getI {i ci k a : Nat} (hd : decode (yC y) pc = .ok (.getfield i, 3)) (hw : zfw (yN y).cls i ci k) (ht : zfty ci k = 0) (hK : zK M a = ci + 1)
    (kk : zS l G y fr lo bc bs (pc + 3) ls (.int (zI M a k) :: st) M Q) : zS l G y fr lo bc bs pc ls (.ref a :: st) M Q :=
  s_getv hd hw hK (v := .int (zI M a k)) (by unfold zfv; rw [ht]; rfl) kk
theorem s_getJ {i ci k a : Nat} (hd : decode (yC y) pc = .ok (.getfield i, 3)) (hw : zfw (yN y).cls i ci k) (ht : zfty ci k = 1) (hK : zK M a = ci + 1)
    (kk : zS l G y fr lo bc bs (pc + 3) ls (.long (zJ M a k) :: st) M Q) : zS l G y fr lo bc bs pc ls (.ref a :: st) M Q :=
  s_getv hd hw hK (v := .long (zJ M a k)) (by unfold zfv; rw [ht]; rfl) kk
theorem s_getR {i ci k a r : Nat} (hd : decode (yC y) pc = .ok (.getfield i, 3)) (hw : zfw (yN y).cls i ci k) (ht : zfty ci k = 2) (hK : zK M a = ci + 1) (hr : zR M a k = some r)
    (kk : zS l G y fr lo bc bs (pc + 3) ls (.ref r :: st) M Q) : zS l G y fr lo bc bs pc ls (.ref a :: st) M Q :=
  s_getv hd hw hK (v := .ref r) (by unfold zfv; rw [ht, hr]; rfl) kk
theorem s_putv {i ci k a : Nat} {v : Value} {M' : zMem} {ty : FieldType} (hd : decode (yC y) pc = .ok (.putfield i, 3)) (hw : zfw (yN y).cls i ci k) (hp : zpw ci k ty false) (hK : zK M a = ci + 1) (hn : narrow ty (zv G v) = zv G v) (hf : fits ty (zv G v) = true)
    (hs : zsh M M') (hv : zfv G M' ci a k = zv G v) (ho : ∀ j, j ≠ k → zfv G M' ci a j = zfv G M ci a j) (hc : ∀ c, c ≠ a → M'.1 c = M.1 c ∧ M'.2.1 c = M.2.1 c ∧ M'.2.2.1 c = M.2.2.1 c)
    (kk : zS l G y fr lo bc bs (pc + 3) ls st M' Q) : zS l G y fr lo bc bs pc ls (v :: .ref a :: st) M Q := by
  intro p e R s m args below meth c H locs cells slots X la F hc1 hs1 hW hl hE
  obtain ⟨w1, w2, w3, w4, w5, w6⟩ := hw
  obtain ⟨⟨ty0, p1⟩, p2, p3, p4⟩ := hp
  have hne : zK M a ≠ 0 := by rw [hK]; omega
  have hcell := hW.cell hne
  rw [zcl_obj hK w1] at hcell
  refine va_put (ref := ((zCl ci).2.1 k).1) F.1 F.2.1 F.2.2.2.2.1 w3 ty0 (by rw [w5]; exact p1) (by rw [w5]; exact p2) F.2.2.2.1 F.2.2.2.2.2.2.2.2.2.2.2.2.1 hW.2.1 zW_D hW.2.2.1 a hcell w4 k (by rw [w5]; exact w2) (F.2.2.2.2.1 _ w6) (fun x h => h) p3 p4 hn hf (by rw [zfl_len]; exact w2) hd
    (fun H1 locs1 hP1 hD1 hS1 => ?_)
  rw [zfl_set (M' := M') hv ho] at hP1
  exact kk p e R s m args below meth c H1 locs1 cells slots X la F hc1 hs1 (hW.put hs (zwf_lt hW.1 hne).2 (by rw [zcl_obj (by rw [zsh_K hs]; exact hK) w1]) hc hP1 hS1) hl hE
theorem zu_same {α : Type} {f : Nat → Nat → α} {a k : Nat} {v : α} : zu f a k v a k = v := by simp [zu]
theorem zu_ne {α : Type} {f : Nat → Nat → α} {a k b : Nat} {v : α} (h : b ≠ a) : zu f a k v b = f b := by simp [zu, h]
theorem zu_nk {α : Type} {f : Nat → Nat → α} {a k j : Nat} {v : α} (h : j ≠ k) : zu f a k v a j = f a j := by simp [zu, h]
theorem zu_row {α : Type} (f : Nat → Nat → α) (a k : Nat) (v : α) : zu f a k v a = fun j => if j = k then v else f a j := by funext j; simp [zu]
theorem s_putI {i ci k a : Nat} {v : Int32} (hd : decode (yC y) pc = .ok (.putfield i, 3)) (hw : zfw (yN y).cls i ci k) (ht : zfty ci k = 0) (hp : zpw ci k .int false) (hK : zK M a = ci + 1)
    (kk : zS l G y fr lo bc bs (pc + 3) ls st (zsI M a k v) Q) : zS l G y fr lo bc bs pc ls (.int v :: .ref a :: st) M Q := by
  refine s_putv (M' := zsI M a k v) hd hw hp hK rfl rfl rfl ?_ (fun j hj => ?_) (fun c hc => ⟨zu_ne hc, rfl, rfl⟩) kk
  · unfold zfv; rw [ht]; show Value.int (zu M.1 a k v a k) = _; rw [zu_same]; rfl
  · unfold zfv
    have e : zI (zsI M a k v) a j = zI M a j := zu_nk hj
    rw [e]; rfl
theorem s_putJ {i ci k a : Nat} {v : Int64} (hd : decode (yC y) pc = .ok (.putfield i, 3)) (hw : zfw (yN y).cls i ci k) (ht : zfty ci k = 1) (hp : zpw ci k .long false) (hK : zK M a = ci + 1)
    (kk : zS l G y fr lo bc bs (pc + 3) ls st (zsJ M a k v) Q) : zS l G y fr lo bc bs pc ls (.long v :: .ref a :: st) M Q := by
  refine s_putv (M' := zsJ M a k v) hd hw hp hK rfl rfl rfl ?_ (fun j hj => ?_) (fun c hc => ⟨rfl, zu_ne hc, rfl⟩) kk
  · unfold zfv; rw [ht]; show Value.long (zu M.2.1 a k v a k) = _; rw [zu_same]; rfl
  · unfold zfv
    have e : zJ (zsJ M a k v) a j = zJ M a j := zu_nk hj
    rw [e]; rfl
/-- a final reference field, in a constructor -/
theorem s_putRF {i ci k a v : Nat} {ty : FieldType} (hd : decode (yC y) pc = .ok (.putfield i, 3)) (hw : zfw (yN y).cls i ci k) (ht : zfty ci k = 2) (hp : zpw ci k ty true) (hin : (yN y).name = "<init>") (hdc : ((zCl ci).2.1 k).1 = (yN y).cls) (hn : ∀ r, narrow ty (.ref r) = .ref r) (hf : ∀ r, fits ty (.ref r) = true) (hK : zK M a = ci + 1)
    (kk : zS l G y fr lo bc bs (pc + 3) ls st (zsR M a k (some v)) Q) : zS l G y fr lo bc bs pc ls (.ref v :: .ref a :: st) M Q := by
  intro p e R s m args below meth c H locs cells slots X la F hc1 hs1 hW hl hE
  obtain ⟨w1, w2, w3, w4, w5, w6⟩ := hw
  obtain ⟨⟨ty0, p1⟩, p2, p3, p4⟩ := hp
  have hne : zK M a ≠ 0 := by rw [hK]; omega
  have hcell := hW.cell hne
  rw [zcl_obj hK w1] at hcell
  refine va_putF (ref := ((zCl ci).2.1 k).1) F.1 F.2.1 F.2.2.2.2.1 w3 ty0 (by rw [w5]; exact p1) (by rw [w5]; exact p2) F.2.2.2.1 F.2.2.2.2.2.2.2.2.2.2.2.2.1 hW.2.1 zW_D hW.2.2.1 a hcell w4 k (by rw [w5]; exact w2) (F.2.2.2.2.1 _ w6) (fun x h => h) p3 (F.2.2.2.2.2.2.2.1.trans hin) hdc p4 (hn _) (hf _) (by rw [zfl_len]; exact w2) hd
    (fun H1 locs1 hP1 hD1 hS1 => ?_)
  have hs : zsh M (zsR M a k (some v)) := rfl
  have hv : zfv G (zsR M a k (some v)) ci a k = zv G (.ref v) := by
    unfold zfv
    have e : zR (zsR M a k (some v)) a k = some v := zu_same
    rw [ht, e]; rfl
  have ho : ∀ j, j ≠ k → zfv G (zsR M a k (some v)) ci a j = zfv G M ci a j := fun j hj => by
    unfold zfv
    have e : zR (zsR M a k (some v)) a j = zR M a j := zu_nk hj
    rw [e]; rfl
  rw [zfl_set (M' := zsR M a k (some v)) hv ho] at hP1
  exact kk p e R s m args below meth c H1 locs1 cells slots X la F hc1 hs1 (hW.put hs (zwf_lt hW.1 hne).2 (by rw [zcl_obj (by rw [zsh_K hs]; exact hK) w1]) (fun c hc => ⟨rfl, rfl, zu_ne hc⟩) hP1 hS1) hl hE
/-- rows -/
theorem s_iaload {a : Nat} {i : Int32} (hd : decode (yC y) pc = .ok (.iaload, 1)) (hK : zK M a = 11) (hi : vp_in i (zN M a))
    (kk : zS l G y fr lo bc bs (pc + 1) ls (.int (zI M a i.toNatClampNeg) :: st) M Q) : zS l G y fr lo bc bs pc ls (.int i :: .ref a :: st) M Q := by
  intro p e R s m args below meth c H locs cells slots X la F hc1 hs1 hW hl hE
  have hcell := hW.cell (a := a) (by rw [hK]; omega)
  rw [zcl_I hK] at hcell
  exact va_iald F.1 F.2.1 F.2.2.2.2.2.2.2.2.2.2.2.2.1 hW.2.1 a 0 hcell rfl hi hd (kk p e R s m args below meth c H locs cells slots X la F hc1 hs1 hW hl hE)
theorem s_laload {a : Nat} {i : Int32} (hd : decode (yC y) pc = .ok (.laload, 1)) (hK : zK M a = 12) (hi : vp_in i (zN M a))
    (kk : zS l G y fr lo bc bs (pc + 1) ls (.long (zJ M a i.toNatClampNeg) :: st) M Q) : zS l G y fr lo bc bs pc ls (.int i :: .ref a :: st) M Q := by
  intro p e R s m args below meth c H locs cells slots X la F hc1 hs1 hW hl hE
  have hcell := hW.cell (a := a) (by rw [hK]; omega)
  rw [zcl_J hK] at hcell
  exact va_lald F.1 F.2.1 F.2.2.2.2.2.2.2.2.2.2.2.2.1 hW.2.1 a 1 hcell rfl hi hd (kk p e R s m args below meth c H locs cells slots X la F hc1 hs1 hW hl hE)
theorem s_baload {a : Nat} {i : Int32} (hd : decode (yC y) pc = .ok (.baload, 1)) (hK : zK M a = 13) (hi : vp_in i (zN M a))
    (kk : zS l G y fr lo bc bs (pc + 1) ls (.int (zI M a i.toNatClampNeg) :: st) M Q) : zS l G y fr lo bc bs pc ls (.int i :: .ref a :: st) M Q := by
  intro p e R s m args below meth c H locs cells slots X la F hc1 hs1 hW hl hE
  have hcell := hW.cell (a := a) (by rw [hK]; omega)
  rw [zcl_Z hK] at hcell
  exact va_zald F.1 F.2.1 F.2.2.2.2.2.2.2.2.2.2.2.2.1 hW.2.1 a 2 hcell rfl hi hd (kk p e R s m args below meth c H locs cells slots X la F hc1 hs1 hW hl hE)
theorem zty_R {G : zG} {j : Nat} (h : j < 3) : ∃ C : String, (zty G)[3 + j]? = some (gC G (3 + j), .object C) := by
  rcases (show j = 0 ∨ j = 1 ∨ j = 2 by omega) with rfl | rfl | rfl
  · exact ⟨_, rfl⟩
  · exact ⟨_, rfl⟩
  · exact ⟨_, rfl⟩
theorem s_aaload {a j r : Nat} {i : Int32} (hd : decode (yC y) pc = .ok (.aaload, 1)) (hj : j < 3) (hK : zK M a = 14 + j) (hi : vp_in i (zN M a)) (hr : zR M a i.toNatClampNeg = some r)
    (kk : zS l G y fr lo bc bs (pc + 1) ls (.ref r :: st) M Q) : zS l G y fr lo bc bs pc ls (.int i :: .ref a :: st) M Q := by
  intro p e R s m args below meth c H locs cells slots X la F hc1 hs1 hW hl hE
  have hcell := hW.cell (a := a) (by rw [hK]; omega)
  rw [zcl_R hK] at hcell
  obtain ⟨C, hC⟩ := zty_R (G := G) hj
  refine va_aldq F.1 F.2.1 F.2.2.2.2.2.2.2.2.2.2.2.2.1 hW.2.1 a (3 + j) hcell hC hi hd ?_
  rw [hr]
  exact kk p e R s m args below meth c H locs cells slots X la F hc1 hs1 hW hl hE
theorem s_iastore {a : Nat} {i x : Int32} (hd : decode (yC y) pc = .ok (.iastore, 1)) (hK : zK M a = 11) (hi : vp_in i (zN M a))
    (kk : zS l G y fr lo bc bs (pc + 1) ls st (zsI M a i.toNatClampNeg x) Q) : zS l G y fr lo bc bs pc ls (.int x :: .int i :: .ref a :: st) M Q := by
  intro p e R s m args below meth c H locs cells slots X la F hc1 hs1 hW hl hE
  have hne : zK M a ≠ 0 := by rw [hK]; omega
  have hcell := hW.cell hne
  rw [zcl_I hK] at hcell
  refine va_iast F.1 F.2.1 F.2.2.2.2.2.2.2.2.2.2.2.2.1 hW.2.1 zW_D hW.2.2.1 a 0 hcell rfl hi hd (fun H1 locs1 hP1 hD1 hS1 => ?_)
  have e9 : zI (zsI M a i.toNatClampNeg x) a = upd (zI M a) i.toNatClampNeg x := zu_row _ _ _ _
  exact kk p e R s m args below meth c H1 locs1 cells slots X la F hc1 hs1 (hW.put rfl (zwf_lt hW.1 hne).2 (by rw [zcl_I (by exact hK), e9]; rfl) (fun c hc => ⟨zu_ne hc, rfl, rfl⟩) hP1 hS1) hl hE
theorem s_lastore {a : Nat} {i : Int32} {x : Int64} (hd : decode (yC y) pc = .ok (.lastore, 1)) (hK : zK M a = 12) (hi : vp_in i (zN M a))
    (kk : zS l G y fr lo bc bs (pc + 1) ls st (zsJ M a i.toNatClampNeg x) Q) : zS l G y fr lo bc bs pc ls (.long x :: .int i :: .ref a :: st) M Q := by
  intro p e R s m args below meth c H locs cells slots X la F hc1 hs1 hW hl hE
  have hne : zK M a ≠ 0 := by rw [hK]; omega
  have hcell := hW.cell hne
  rw [zcl_J hK] at hcell
  refine va_last F.1 F.2.1 F.2.2.2.2.2.2.2.2.2.2.2.2.1 hW.2.1 zW_D hW.2.2.1 a 1 hcell rfl hi hd (fun H1 locs1 hP1 hD1 hS1 => ?_)
  have e9 : zJ (zsJ M a i.toNatClampNeg x) a = vp_updL (zJ M a) i.toNatClampNeg x := zu_row _ _ _ _
  exact kk p e R s m args below meth c H1 locs1 cells slots X la F hc1 hs1 (hW.put rfl (zwf_lt hW.1 hne).2 (by rw [zcl_J (by exact hK), e9]; rfl) (fun c hc => ⟨rfl, zu_ne hc, rfl⟩) hP1 hS1) hl hE
theorem s_bastore {a : Nat} {i x : Int32} (hd : decode (yC y) pc = .ok (.bastore, 1)) (hK : zK M a = 13) (hi : vp_in i (zN M a)) (hx : vp_nar .boolean x = x)
    (kk : zS l G y fr lo bc bs (pc + 1) ls st (zsI M a i.toNatClampNeg x) Q) : zS l G y fr lo bc bs pc ls (.int x :: .int i :: .ref a :: st) M Q := by
  intro p e R s m args below meth c H locs cells slots X la F hc1 hs1 hW hl hE
  have hne : zK M a ≠ 0 := by rw [hK]; omega
  have hcell := hW.cell hne
  rw [zcl_Z hK] at hcell
  refine va_zast F.1 F.2.1 F.2.2.2.2.2.2.2.2.2.2.2.2.1 hW.2.1 zW_D hW.2.2.1 a 2 hcell rfl hi hd (fun H1 locs1 hP1 hD1 hS1 => ?_)
  rw [hx] at hP1
  have e9 : zI (zsI M a i.toNatClampNeg x) a = upd (zI M a) i.toNatClampNeg x := zu_row _ _ _ _
  exact kk p e R s m args below meth c H1 locs1 cells slots X la F hc1 hs1 (hW.put rfl (zwf_lt hW.1 hne).2 (by rw [zcl_Z (by exact hK), e9]; rfl) (fun c hc => ⟨zu_ne hc, rfl, rfl⟩) hP1 hS1) hl hE
theorem s_aastore {a j v ci : Nat} {i : Int32} (hd : decode (yC y) pc = .ok (.aastore, 1)) (hK : zK M a = 14 + j) (hv : zK M v = ci + 1) (hci : ci < 10) (hcl : vwCl[ci]? = some (zCl ci)) (hty : ∀ G : zG, (zty G)[3 + j]? = some (gC G (3 + j), .object (zCl ci).1)) (hi : vp_in i (zN M a))
    (kk : zS l G y fr lo bc bs (pc + 1) ls st (zsR M a i.toNatClampNeg (some v)) Q) : zS l G y fr lo bc bs pc ls (.ref v :: .int i :: .ref a :: st) M Q := by
  intro p e R s m args below meth c H locs cells slots X la F hc1 hs1 hW hl hE
  have hne : zK M a ≠ 0 := by rw [hK]; omega
  have hcell := hW.cell hne
  rw [zcl_R hK] at hcell
  have hcv := hW.cell (a := v) (by rw [hv]; omega)
  rw [zcl_obj hv hci] at hcv
  refine va_astq F.1 F.2.1 F.2.2.2.2.2.2.2.2.2.2.2.2.1 hW.2.1 zW_D hW.2.2.1 a (3 + j) v ci hcell (hty G) hcv hcl hi hd (fun H1 locs1 hP1 hD1 hS1 => ?_)
  have e9 : (fun k => (zR (zsR M a i.toNatClampNeg (some v)) a k).map (zad G)) = va_up (fun k => (zR M a k).map (zad G)) i.toNatClampNeg (some (zad G v)) := by
    funext k
    have e1 : zR (zsR M a i.toNatClampNeg (some v)) a = fun k => if k = i.toNatClampNeg then some v else zR M a k := zu_row _ _ _ _
    rw [e1]
    unfold va_up
    by_cases hk : k = i.toNatClampNeg
    · simp [hk]
    · simp [hk]
  exact kk p e R s m args below meth c H1 locs1 cells slots X la F hc1 hs1 (hW.put rfl (zwf_lt hW.1 hne).2 (by rw [zcl_R (j := j) (by exact hK), e9]; rfl) (fun c hc => ⟨rfl, rfl, zu_ne hc⟩) hP1 hS1) hl hE
theorem s_null_aastore : True := trivial
end ZM
