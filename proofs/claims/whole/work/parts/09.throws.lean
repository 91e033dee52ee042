/-! ===== calls that may throw ===== -/
section ZX
variable {l : Launch} {G : zG} {y z : zMD} {fr lo fr1 lo1 mc ms bc bs pc i n : Nat} {ls : List (Option Value)} {st : List Value} {as : List Value} {M : zMem} {Q Q1 : zOut → zMem → Prop}
theorem z_goX {p : Program} {e : Env} {R : Room} {s : State} {m : MethodId} {args a : Array Value} {below : List Frame} {meth : Method} {c : Code} {H : Heap} {locs : List Loc} {cells slots : Nat} {X : State → Prop} {la : Array Slot} {st0 : List Value}
    (F : zFix l G y fr lo p R s m args meth c) (hW : zWd G M s H locs cells) (hc : cells + (mc + bc) ≤ R.cells) (hs : slots + (ms + bs) ≤ R.slots) (hl : lv_has la (yL y) (zll G ls)) (hE : zEx l G y fr lo Q p e R s m args below meth c X)
    (hr : vx_Run p l e R s m args below meth c H locs cells slots mc ms (F0 m pc la st0) (st.map (zv G)) (zQr G M mc Q1 a) (zXc G Q1) (zA G))
    (kx : ∀ (x : Nat) (M1 : zMem), Q1 (.inr x) M1 → ∀ (H1 : Heap) (locs1 : List Loc) (q : Addr) (ce : Cell), zWd G M1 s H1 locs1 (cells + mc) → H1[q]? = some ce → ce.vm = .none → s.vm.findClass (zXn x) = some ce.cls → vx_W p l e R s m args below meth c H1 locs1 (cells + mc) (slots + ms) X (F0 m pc la (st.map (zv G))) q)
    (kk : ∀ (v : Option Value) (M1 : zMem), Q1 (.inl v) M1 → zS l G y fr lo bc bs (pc + 3) ls (v.toList ++ st) M1 Q) : W p l e R s m args below meth c H locs cells slots X (F0 m pc la st0) := by
  intro T hT XX
  rcases hr T hT XX with ⟨v, st₀, t, T', L, h0, X', hL, e1, e2, ⟨⟨v', M1, hv, hq, hwf, hP, hcn⟩, hF⟩, go⟩ | ⟨q, st₀, t, T', L, E, ce, h0, X', hL, e1, e2, ⟨⟨x, M1, rfl, hq, hwf, hP, hz⟩, hF⟩, hce, hcv, hcl, go⟩
  · cases hv
    obtain ⟨k1, k2, k3⟩ := vx_keep h0 e1 hW.2.2.1 (fun q _ h => h) (fun q h => h) hL hF
    have hW1 : zWd G M1 s T'.heap (locs ++ L) (cells + mc) := ⟨hwf, by rw [e1]; exact hP, k3, fun hz => by
      have h1 := hcn hz
      have h2 := hW.2.2.2 h1.1
      omega⟩
    obtain ⟨t2, a1, b1⟩ := kk v' M1 hq p e R s m args below meth c T'.heap (locs ++ L) (cells + mc) (slots + ms) X la F (by omega) (by omega) hW1 hl hE T' rfl X'
    refine ⟨t2, go t2 ?_, b1⟩
    have e9 : (v'.map (zv G)).toList ++ st.map (zv G) = (v'.toList ++ st).map (zv G) := by cases v' <;> simp
    show Steps _ _ _ (T'.setTop { (F0 m pc la st0) with pc := pc + 3, stack := (v'.map (zv G)).toList ++ st.map (zv G) }) t2
    rw [e9]
    exact a1
  · obtain ⟨k1, k2, k3⟩ := vx_keep h0 e1 hW.2.2.1 (fun q _ h => h) (fun q h => h) hL hF
    obtain ⟨t2, a1, b1⟩ := kx x M1 hq T'.heap (locs ++ L) q ce ⟨hwf, by rw [e1]; exact hP, k3, fun h => absurd h hz⟩ (by rw [e1]; exact hce) hcv hcl T' rfl X'
    exact ⟨t2, go.trans a1, b1⟩
theorem s_callVX {ci a : Nat} (hd : decode (yC y) pc = .ok (.invokevirtual i, 3)) (hw : zcv (yN y).cls i z n) (hK : zK M a = ci + 1) (hci : ci < 10) (hcl : vwCl[ci]? = some (zCl ci)) (hcn : (zCl ci).1 = (yN z).cls) (hn : as.length = n) (hst : (st.map fun v => v.category).sum ≤ 8) (hrm : fr1 + 1 ≤ fr ∧ 8 + (yL z + 11) + lo1 ≤ lo)
    (hM : zCx2 l G z fr1 lo1 mc ms (.ref a :: as) M Q1) (hH : yH y = []) (kx : ∀ (x : Nat) (M1 : zMem), Q1 (.inr x) M1 → Q (.inr x) M1) (kk : ∀ (v : Option Value) (M1 : zMem), Q1 (.inl v) M1 → zS l G y fr lo bc bs (pc + 3) ls (v.toList ++ st) M1 Q) :
    zS l G y fr lo (mc + bc) (ms + bs) pc ls (as.reverse ++ .ref a :: st) M Q := by
  intro p e R s m args below meth c H locs cells slots X la F hc hs hW hl hE
  intro T hT XX
  have hup : H.size ≤ s.heap.size + cells := by rw [← hT]; exact XX.heapSize
  suffices hh : W p l e R s m args below meth c H locs cells slots X (F0 m pc la ((as.reverse ++ .ref a :: st).map (zv G))) from hh T hT XX
  obtain ⟨w1, w2, w3, w4, w5, w6⟩ := hw
  have hfrR := F.2.2.2.2.2.2.2.2.2.1
  have hloR := F.2.2.2.2.2.2.2.2.2.2.1
  have hcell := hW.cell (a := a) (by rw [hK]; omega)
  rw [zcl_obj hK hci] at hcell
  have hrec := va_recv F.2.2.2.2.2.2.2.2.2.2.2.2.1 hW.2.1 hcl hcell
  rw [hcn] at hrec
  have cw : CallW R s args (yN y).cls (yN z).cls i (yN z) (yC z) (yL z) (yR z) (zws z) (zrm fr1 lo1 mc ms) mc ms n :=
    cwV n F.2.2.2.2.1 (fun w hw => by
      rcases List.mem_append.mp hw with h | h
      · rcases List.mem_cons.mp h with rfl | h
        · exact zGW_good _ w1
        · rcases List.mem_cons.mp h with rfl | h
          · exact zGW_good _ w2
          · rcases List.mem_cons.mp h with rfl | h
            · exact zGW_good _ w3
            · rw [List.mem_singleton.mp h]; exact zGW_good _ w4
      · exact zws_in w5 w h) rfl rfl rfl ⟨rfl, w6⟩ ⟨by show fr1 + 1 ≤ _; omega, by show 8 + (yL z + 11) + lo1 ≤ _; omega⟩
  have hstk : (as.reverse ++ .ref a :: st).map (zv G) = (as.map (zv G)).reverse ++ .ref (zad G a) :: st.map (zv G) := by simp [zv]
  rw [hstk]
  refine z_goX (a := (Value.ref (zad G a) :: as.map (zv G)).toArray) (mc := mc) (ms := ms) (bc := bc) (bs := bs) F hW hc hs hl hE ?_ (fun x M1 hq H1 locs1 q ce hW1 hce hcv hcl9 => hE.2.1 x M1 (kx x M1 hq) H1 locs1 (cells + mc) (slots + ms) pc la (st.map (zv G)) q ce (by omega) (by omega) hW1 hce hcv hcl9 hH) kk
  exact vx_runV (As := as.map (zv G)) (rest := st.map (zv G)) ⟨F.1, F.2.1, F.2.2.1, F.2.2.2.1, F.2.2.2.2.1⟩ hM cw ⟨zPc_blind, hrec, fun U hU hWm => zPc_in F hW hup U hU hWm⟩ rfl (by rw [List.length_map]; exact hn) hl.1 rfl (lv_room (by rw [zcat]; exact hst)) hd ⟨by omega, by omega⟩
theorem s_callSX (hd : decode (yC y) pc = .ok (.invokestatic i, 3)) (hw : zcs (yN y).cls i z n) (hn : as.length = n) (hst : (st.map fun v => v.category).sum ≤ 8) (hrm : fr1 + 1 ≤ fr ∧ 8 + (yL z + 11) + lo1 ≤ lo)
    (hM : zCx2 l G z fr1 lo1 mc ms as M Q1) (hH : yH y = []) (kx : ∀ (x : Nat) (M1 : zMem), Q1 (.inr x) M1 → Q (.inr x) M1) (kk : ∀ (v : Option Value) (M1 : zMem), Q1 (.inl v) M1 → zS l G y fr lo bc bs (pc + 3) ls (v.toList ++ st) M1 Q) :
    zS l G y fr lo (mc + bc) (ms + bs) pc ls (as.reverse ++ st) M Q := by
  intro p e R s m args below meth c H locs cells slots X la F hc hs hW hl hE
  intro T hT XX
  have hup : H.size ≤ s.heap.size + cells := by rw [← hT]; exact XX.heapSize
  suffices hh : W p l e R s m args below meth c H locs cells slots X (F0 m pc la ((as.reverse ++ st).map (zv G))) from hh T hT XX
  obtain ⟨w1, w2, w4, w5, w6⟩ := hw
  have hfrR := F.2.2.2.2.2.2.2.2.2.1
  have hloR := F.2.2.2.2.2.2.2.2.2.2.1
  have cw : CallB R s args (yN y).cls i (yN z) (yC z) (yL z) (yR z) (zws z) (zrm fr1 lo1 mc ms) mc ms n ∧ (Cond.static (yN z)).before args s = true :=
    ⟨callB_of n F.2.2.2.2.1 (zws_in w5) rfl rfl rfl (F.2.2.2.2.1 _ w4) (F.2.2.2.2.1 _ w1) w6 ⟨by show fr1 + 1 ≤ _; omega, by show 8 + (yL z + 11) + lo1 ≤ _; omega⟩, F.2.2.2.2.1 _ w2⟩
  have hstk : (as.reverse ++ st).map (zv G) = (as.map (zv G)).reverse ++ st.map (zv G) := by simp
  rw [hstk]
  refine z_goX (a := (as.map (zv G)).toArray) (mc := mc) (ms := ms) (bc := bc) (bs := bs) F hW hc hs hl hE ?_ (fun x M1 hq H1 locs1 q ce hW1 hce hcv hcl9 => hE.2.1 x M1 (kx x M1 hq) H1 locs1 (cells + mc) (slots + ms) pc la (st.map (zv G)) q ce (by omega) (by omega) hW1 hce hcv hcl9 hH) kk
  exact vx_runS (As := as.map (zv G)) (rest := st.map (zv G)) ⟨F.1, F.2.1, F.2.2.1, F.2.2.2.1, F.2.2.2.2.1⟩ hM cw ⟨zPc_blind, fun U hU hWm => zPc_in F hW hup U hU hWm⟩ rfl (by rw [List.length_map]; exact hn) hl.1 rfl (lv_room (by rw [zcat]; exact hst)) hd ⟨by omega, by omega⟩
/-- an exception of class x at pc is caught: behind the storing of it the walk goes on -/
def zhx (l : Launch) (G : zG) (y : zMD) (fr lo bc bs pc : Nat) (ls : List (Option Value)) (M : zMem) (Q : zOut → zMem → Prop) (x : Nat) : Prop :=
  ∃ (pre : List ExceptionTableEntry) (w : ExceptionTableEntry) (suf : List ExceptionTableEntry) (k len : Nat), tableOf (yH y) = pre ++ w :: suf ∧ x < 3 ∧
    (∀ u ∈ pre, ∃ x', x' < 3 ∧ x ≠ x' ∧ u.catchType ≠ 0 ∧ Cond.classLink (yN y).cls u.catchType (zXn x') ∈ zGW) ∧ covers w pc = true ∧ w.catchType ≠ 0 ∧ Cond.classLink (yN y).cls w.catchType (zXn x) ∈ zGW ∧ Cond.castable (zXn x) (zXn x) ∈ zNW ∧
    k < yL y ∧ ((∃ k4 : Fin 4, (k4 : Nat) = k ∧ decode (yC y) w.handlerPc = .ok (.astore_n k4, 1) ∧ len = 1) ∨ (decode (yC y) w.handlerPc = .ok (.astore k, 2) ∧ len = 2)) ∧
    zS l G y fr lo bc bs (w.handlerPc + len) ((zpr ls k).set k none) [] M Q
theorem zp0_has {G : zG} {la : Array Slot} {nL i q : Nat} {ls : List (Option Value)} (h : lv_has la nL ((i, .ref q) :: (zll G ls).filter (fun q => !(q.1 == i) && !(q.1 + 1 == i && q.2.category == 2)))) : lv_has la nL (zll G ((zpr ls i).set i none)) := by
  refine ⟨h.1, h.2.1, fun q hq => h.2.2 q ?_⟩
  obtain ⟨j, x⟩ := q
  obtain ⟨w, hw, rfl⟩ := zll_mem.mp hq
  by_cases hj : j = i
  · subst hj
    rcases Nat.lt_or_ge j (zpr ls j).length with hl | hl
    · rw [List.getElem?_set_self hl] at hw
      cases hw
    · rw [List.getElem?_eq_none (by simpa using hl)] at hw
      cases hw
  · rw [List.getElem?_set_ne (Ne.symm hj)] at hw
    obtain ⟨h1, h2⟩ := zpr_get hw
    refine List.mem_cons_of_mem _ (List.mem_filter.mpr ⟨zll_mem.mpr ⟨w, h1, rfl⟩, ?_⟩)
    simp only [zv_cat, Bool.and_eq_true, Bool.not_eq_true', beq_eq_false_iff_ne, ne_eq, Bool.and_eq_false_iff]
    refine ⟨hj, ?_⟩
    by_cases e : j + 1 = i
    · exact Or.inr (fun z => h2 ⟨e, z⟩)
    · exact Or.inl e
theorem zhx_go {p : Program} {e : Env} {R : Room} {s : State} {m : MethodId} {args : Array Value} {below : List Frame} {meth : Method} {c : Code} {H : Heap} {locs : List Loc} {cells slots x : Nat} {X : State → Prop} {la : Array Slot} {q : Addr} {ce : Cell} {st0 : List Value}
    (F : zFix l G y fr lo p R s m args meth c) (hW : zWd G M s H locs cells) (hc : cells + bc ≤ R.cells) (hs : slots + bs ≤ R.slots) (hl : lv_has la (yL y) (zll G ls)) (hE : zEx l G y fr lo Q p e R s m args below meth c X)
    (h : zhx l G y fr lo bc bs pc ls M Q x) (hce : H[q]? = some ce) (hcv : ce.vm = .none) (hcl : s.vm.findClass (zXn x) = some ce.cls) : vx_W p l e R s m args below meth c H locs cells slots X (F0 m pc la st0) q := by
  obtain ⟨pre, w, suf, k, len, h1, h2, h3, h4, h5, h6, h7, h8, h9, h10⟩ := h
  have htab := F.2.2.2.2.2.2.2.2.2.2.2.1
  have hN := F.2.2.2.2.2.2.2.2.2.2.2.2.2.1
  have hNc := F.2.2.2.2.2.2.2.2.2.2.2.2.2.2.2.2.2.2.2.2.2.2.2
  refine vx_catch F.2.2.2.1 pre w suf (htab.trans h1) (fun u hu => ?_) h4 h5 (F.2.2.2.2.1 _ h6) (va_Nw.use rfl (hN _ h7)) hce hcv hcl ?_
  · obtain ⟨x', g1, g2, g3, g4⟩ := h3 u hu
    exact Or.inr ⟨g3, _, F.2.2.2.2.1 _ g4, hNc x x' h2 g1 g2⟩
  · rcases h9 with ⟨k4, rfl, h9, rfl⟩ | ⟨h9, rfl⟩
    · exact lv_astore_n F.1 F.2.1 h9 rfl hl h8 rfl (fun la hl => h10 p e R s m args below meth c H locs cells slots X la F hc hs hW (zp0_has hl) hE)
    · exact lv_astore F.1 F.2.1 h9 hl h8 rfl (fun la hl => h10 p e R s m args below meth c H locs cells slots X la F hc hs hW (zp0_has hl) hE)
theorem s_callVH {ci a : Nat} (hd : decode (yC y) pc = .ok (.invokevirtual i, 3)) (hw : zcv (yN y).cls i z n) (hK : zK M a = ci + 1) (hci : ci < 10) (hcl : vwCl[ci]? = some (zCl ci)) (hcn : (zCl ci).1 = (yN z).cls) (hn : as.length = n) (hst : (st.map fun v => v.category).sum ≤ 8) (hrm : fr1 + 1 ≤ fr ∧ 8 + (yL z + 11) + lo1 ≤ lo)
    (hM : zCx2 l G z fr1 lo1 mc ms (.ref a :: as) M Q1) (kx : ∀ (x : Nat) (M1 : zMem), Q1 (.inr x) M1 → zhx l G y fr lo bc bs pc ls M1 Q x) (kk : ∀ (v : Option Value) (M1 : zMem), Q1 (.inl v) M1 → zS l G y fr lo bc bs (pc + 3) ls (v.toList ++ st) M1 Q) :
    zS l G y fr lo (mc + bc) (ms + bs) pc ls (as.reverse ++ .ref a :: st) M Q := by
  intro p e R s m args below meth c H locs cells slots X la F hc hs hW hl hE
  intro T hT XX
  have hup : H.size ≤ s.heap.size + cells := by rw [← hT]; exact XX.heapSize
  suffices hh : W p l e R s m args below meth c H locs cells slots X (F0 m pc la ((as.reverse ++ .ref a :: st).map (zv G))) from hh T hT XX
  obtain ⟨w1, w2, w3, w4, w5, w6⟩ := hw
  have hfrR := F.2.2.2.2.2.2.2.2.2.1
  have hloR := F.2.2.2.2.2.2.2.2.2.2.1
  have hcell := hW.cell (a := a) (by rw [hK]; omega)
  rw [zcl_obj hK hci] at hcell
  have hrec := va_recv F.2.2.2.2.2.2.2.2.2.2.2.2.1 hW.2.1 hcl hcell
  rw [hcn] at hrec
  have cw : CallW R s args (yN y).cls (yN z).cls i (yN z) (yC z) (yL z) (yR z) (zws z) (zrm fr1 lo1 mc ms) mc ms n :=
    cwV n F.2.2.2.2.1 (fun w hw => by
      rcases List.mem_append.mp hw with h | h
      · rcases List.mem_cons.mp h with rfl | h
        · exact zGW_good _ w1
        · rcases List.mem_cons.mp h with rfl | h
          · exact zGW_good _ w2
          · rcases List.mem_cons.mp h with rfl | h
            · exact zGW_good _ w3
            · rw [List.mem_singleton.mp h]; exact zGW_good _ w4
      · exact zws_in w5 w h) rfl rfl rfl ⟨rfl, w6⟩ ⟨by show fr1 + 1 ≤ _; omega, by show 8 + (yL z + 11) + lo1 ≤ _; omega⟩
  have hstk : (as.reverse ++ .ref a :: st).map (zv G) = (as.map (zv G)).reverse ++ .ref (zad G a) :: st.map (zv G) := by simp [zv]
  rw [hstk]
  refine z_goX (a := (Value.ref (zad G a) :: as.map (zv G)).toArray) (mc := mc) (ms := ms) (bc := bc) (bs := bs) F hW hc hs hl hE ?_ (fun x M1 hq H1 locs1 q ce hW1 hce hcv hcl9 => zhx_go F hW1 (by omega) (by omega) hl hE (kx x M1 hq) hce hcv hcl9) kk
  exact vx_runV (As := as.map (zv G)) (rest := st.map (zv G)) ⟨F.1, F.2.1, F.2.2.1, F.2.2.2.1, F.2.2.2.2.1⟩ hM cw ⟨zPc_blind, hrec, fun U hU hWm => zPc_in F hW hup U hU hWm⟩ rfl (by rw [List.length_map]; exact hn) hl.1 rfl (lv_room (by rw [zcat]; exact hst)) hd ⟨by omega, by omega⟩
end ZX
