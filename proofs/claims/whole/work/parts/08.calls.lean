/-! ===== calls ===== -/
/-- a deterministic end -/
def zD (v : Option Value) (M1 : zMem) : zOut → zMem → Prop := fun o M' => o = .inl v ∧ M' = M1
/-- the words of a call: a method of a class of the world, by pool entry i, with n arguments -/
def zcv (own : String) (i : Nat) (z : zMD) (n : Nat) : Prop :=
  Cond.methodLink own i (yN z) ∈ zGW ∧ Cond.instanceMethod (yN z) ∈ zGW ∧ Cond.selects (yN z).cls (yN z) (yN z) ∈ zGW ∧ Cond.initialized (yN z).cls ∈ zGW ∧ Cond.code (yN z) (yC z) (yL z) (yR z) ∈ zGW ∧
  ((yN z).cls ≠ "java/lang/invoke/MethodHandle" ∧ (yN z).cls ≠ "java/lang/invoke/VarHandle" ∧ (parseMethodDescriptor (yN z).desc).map (fun d => d.parameters.length) = some n)
def zcs (own : String) (i : Nat) (z : zMD) (n : Nat) : Prop :=
  Cond.methodLink own i (yN z) ∈ zGW ∧ Cond.static (yN z) ∈ zGW ∧ Cond.initialized (yN z).cls ∈ zGW ∧ Cond.code (yN z) (yC z) (yL z) (yR z) ∈ zGW ∧
  ((yN z).cls ≠ "java/lang/invoke/MethodHandle" ∧ (yN z).cls ≠ "java/lang/invoke/VarHandle" ∧ (parseMethodDescriptor (yN z).desc).map (fun d => d.parameters.length) = some n)
def zcsH (own : String) (i : Nat) (z : zMD) (n : Nat) : Prop :=
  Cond.methodLink own i (yN z) ∈ zGW ∧ Cond.static (yN z) ∈ zGW ∧ Cond.initialized (yN z).cls ∈ zGW ∧ Cond.codeWith (yN z) (yC z) (yL z) (yR z) (yH z) ∈ zGW ∧
  ((yN z).cls ≠ "java/lang/invoke/MethodHandle" ∧ (yN z).cls ≠ "java/lang/invoke/VarHandle" ∧ (parseMethodDescriptor (yN z).desc).map (fun d => d.parameters.length) = some n)
/-- .. of a nest mate's private method -/
def zcsN (own : String) (i : Nat) (z : zMD) (host : String) (n : Nat) : Prop :=
  Cond.methodLinkNest own i (yN z) host ∈ zNW ∧ Cond.static (yN z) ∈ zGW ∧ Cond.initialized (yN z).cls ∈ zGW ∧ Cond.code (yN z) (yC z) (yL z) (yR z) ∈ zGW ∧
  ((yN z).cls ≠ "java/lang/invoke/MethodHandle" ∧ (yN z).cls ≠ "java/lang/invoke/VarHandle" ∧ (parseMethodDescriptor (yN z).desc).map (fun d => d.parameters.length) = some n)
def zci (own : String) (i : Nat) (z : zMD) (n : Nat) : Prop :=
  Cond.methodLink own i (yN z) ∈ zGW ∧ Cond.instanceMethod (yN z) ∈ zGW ∧ Cond.initialized (yN z).cls ∈ zGW ∧ Cond.code (yN z) (yC z) (yL z) none ∈ zGW ∧ yR z = none ∧ (yN z).name = "<init>" ∧
  ((yN z).cls ≠ "java/lang/invoke/MethodHandle" ∧ (yN z).cls ≠ "java/lang/invoke/VarHandle" ∧ (parseMethodDescriptor (yN z).desc).map (fun d => d.parameters.length) = some n)
def zciN (own : String) (i : Nat) (z : zMD) (host : String) (n : Nat) : Prop :=
  Cond.methodLinkNest own i (yN z) host ∈ zNW ∧ Cond.instanceMethod (yN z) ∈ zGW ∧ Cond.initialized (yN z).cls ∈ zGW ∧ Cond.code (yN z) (yC z) (yL z) none ∈ zGW ∧ yR z = none ∧ (yN z).name = "<init>" ∧
  ((yN z).cls ≠ "java/lang/invoke/MethodHandle" ∧ (yN z).cls ≠ "java/lang/invoke/VarHandle" ∧ (parseMethodDescriptor (yN z).desc).map (fun d => d.parameters.length) = some n)
theorem zws_in {z : zMD} (h : Cond.code (yN z) (yC z) (yL z) (yR z) ∈ zGW) : GoodIn zGW (zws z) := by
  intro w hw
  rcases List.mem_cons.mp hw with rfl | hw
  · exact zGW_good _ h
  · exact zGW_good _ hw
theorem zwsH_in {z : zMD} (h : Cond.codeWith (yN z) (yC z) (yL z) (yR z) (yH z) ∈ zGW) : GoodIn zGW (zwsH z) := by
  intro w hw
  rcases List.mem_cons.mp hw with rfl | hw
  · exact zGW_good _ h
  · exact zGW_good _ hw
section ZL
variable {l : Launch} {G : zG} {y z : zMD} {fr lo fr1 lo1 mc ms bc bs pc i n : Nat} {ls : List (Option Value)} {st : List Value} {as : List Value} {M : zMem} {Q Q1 : zOut → zMem → Prop}
theorem zcat {G : zG} {st : List Value} : ((st.map (zv G)).map fun v => v.category) = st.map fun v => v.category := by rw [List.map_map]; exact List.map_congr_left fun v _ => zv_cat G v
/-- what the callee finds -/
theorem zPc_in {p : Program} {R : Room} {s : State} {m : MethodId} {args : Array Value} {meth : Method} {c : Code} {H : Heap} {locs : List Loc} {cells : Nat}
    (F : zFix l G y fr lo p R s m args meth c) (hW : zWd G M s H locs cells) (hup : H.size ≤ s.heap.size + cells) (U : State) (hU : U.heap = H) (hWm : s.WarmedH U.vm) : zPc G as M (as.map (zv G)).toArray U := by
  have hC : zCx G s H := F.2.2.2.2.2.2.2.2.2.2.2.2.kept hW.2.2.1.1 hW.2.2.1.2.1
  subst hU
  refine ⟨rfl, hC.warm hWm, hW.1, hW.2.1, fun h0 => ?_⟩
  have := hW.2.2.2 h0
  omega
/-- behind a call that returned -/
theorem z_go {p : Program} {e : Env} {R : Room} {s : State} {m : MethodId} {args a : Array Value} {below : List Frame} {meth : Method} {c : Code} {H : Heap} {locs : List Loc} {cells slots : Nat} {X : State → Prop} {la : Array Slot} {st0 : List Value}
    (F : zFix l G y fr lo p R s m args meth c) (hW : zWd G M s H locs cells) (hc : cells + (mc + bc) ≤ R.cells) (hs : slots + (ms + bs) ≤ R.slots) (hl : lv_has la (yL y) (zll G ls)) (hE : zEx l G y fr lo Q p e R s m args below meth c X)
    (hr : va_Run p l e R s m args below meth c H locs cells slots mc ms (F0 m pc la st0) (st.map (zv G)) (zQr G M mc Q1 a) (zA G))
    (kk : ∀ (v : Option Value) (M1 : zMem), Q1 (.inl v) M1 → zS l G y fr lo bc bs (pc + 3) ls (v.toList ++ st) M1 Q) : W p l e R s m args below meth c H locs cells slots X (F0 m pc la st0) := by
  intro T hT XX
  obtain ⟨v, st₀, t, T', L, h0, X', hL, e1, e2, ⟨⟨v', M1, hv, hq, hwf, hP, hcn⟩, hF⟩, go⟩ := hr T hT XX
  cases hv
  obtain ⟨k1, k2, k3⟩ := vx_keep h0 e1 hW.2.2.1 (fun q _ h => h) (fun q h => h) hL hF
  have hW1 : zWd G M1 s T'.heap (locs ++ L) (cells + mc) := ⟨hwf, by rw [e1]; exact hP, k3, fun hz => by
    have h1 := hcn hz
    have h2 := hW.2.2.2 h1.1
    omega⟩
  obtain ⟨t2, a1, b1⟩ := kk v' M1 hq p e R s m args below meth c T'.heap (locs ++ L) (cells + mc) (slots + ms) X la F (by omega) (by omega) hW1 hl hE T' rfl X'
  refine ⟨t2, go t2 ?_, b1⟩
  have e9 : (v'.map (zv G)).toList ++ st.map (zv G) = (v'.toList ++ st).map (zv G) := by cases v' <;> simp
  show Steps _ _ _ (T'.setTop { (F0 m pc la st0) with pc := pc + 3, stack := (v'.map (zv G)).toList ++ st.map (zv G) }) t2
  rw [e9]
  exact a1
theorem s_callV {ci a : Nat} (hd : decode (yC y) pc = .ok (.invokevirtual i, 3)) (hw : zcv (yN y).cls i z n) (hK : zK M a = ci + 1) (hci : ci < 10) (hcl : vwCl[ci]? = some (zCl ci)) (hcn : (zCl ci).1 = (yN z).cls) (hn : as.length = n) (hst : (st.map fun v => v.category).sum ≤ 8) (hrm : fr1 + 1 ≤ fr ∧ 8 + (yL z + 11) + lo1 ≤ lo)
    (hM : zCm l G z fr1 lo1 mc ms (.ref a :: as) M Q1) (kk : ∀ (v : Option Value) (M1 : zMem), Q1 (.inl v) M1 → zS l G y fr lo bc bs (pc + 3) ls (v.toList ++ st) M1 Q) :
    zS l G y fr lo (mc + bc) (ms + bs) pc ls (as.reverse ++ .ref a :: st) M Q := by
  intro p e R s m args below meth c H locs cells slots X la F hc hs hW hl hE
  intro T hT XX
  have hup : H.size ≤ s.heap.size + cells := by rw [← hT]; exact XX.heapSize
  suffices hh : W p l e R s m args below meth c H locs cells slots X (F0 m pc la ((as.reverse ++ .ref a :: st).map (zv G))) from hh T hT XX
  obtain ⟨w1, w2, w3, w4, w5, w6⟩ := hw
  have hfrR := F.2.2.2.2.2.2.2.2.2.1
  have hloR := F.2.2.2.2.2.2.2.2.2.2.1
  have hcell := hW.cell (a := a) (by rw [hK]; omega)
  rw [zcl_obj hK hci] at hcell
  have hrec := va_recv F.2.2.2.2.2.2.2.2.2.2.2.2.1 hW.2.1 hcl hcell
  rw [hcn] at hrec
  have cw : CallW R s args (yN y).cls (yN z).cls i (yN z) (yC z) (yL z) (yR z) (zws z) (zrm fr1 lo1 mc ms) mc ms n :=
    cwV n F.2.2.2.2.1 (fun w hw => by
      rcases List.mem_append.mp hw with h | h
      · rcases List.mem_cons.mp h with rfl | h
        · exact zGW_good _ w1
        · rcases List.mem_cons.mp h with rfl | h
          · exact zGW_good _ w2
          · rcases List.mem_cons.mp h with rfl | h
            · exact zGW_good _ w3
            · rw [List.mem_singleton.mp h]; exact zGW_good _ w4
      · exact zws_in w5 w h) rfl rfl rfl ⟨rfl, w6⟩ ⟨by show fr1 + 1 ≤ _; omega, by show 8 + (yL z + 11) + lo1 ≤ _; omega⟩
  have hstk : (as.reverse ++ .ref a :: st).map (zv G) = (as.map (zv G)).reverse ++ .ref (zad G a) :: st.map (zv G) := by simp [zv]
  rw [hstk]
  refine z_go (a := (Value.ref (zad G a) :: as.map (zv G)).toArray) (mc := mc) (ms := ms) (bc := bc) (bs := bs) F hW hc hs hl hE ?_ kk
  exact va_runV (As := as.map (zv G)) (rest := st.map (zv G)) ⟨F.1, F.2.1, F.2.2.1, F.2.2.2.1, F.2.2.2.2.1⟩ hM cw ⟨zPc_blind, hrec, fun U hU hWm => zPc_in F hW hup U hU hWm⟩ rfl (by rw [List.length_map]; exact hn) hl.1 rfl (lv_room (by rw [zcat]; exact hst)) hd ⟨by omega, by omega⟩
theorem s_callS (hd : decode (yC y) pc = .ok (.invokestatic i, 3)) (hw : zcs (yN y).cls i z n) (hn : as.length = n) (hst : (st.map fun v => v.category).sum ≤ 8) (hrm : fr1 + 1 ≤ fr ∧ 8 + (yL z + 11) + lo1 ≤ lo)
    (hM : zCm l G z fr1 lo1 mc ms as M Q1) (kk : ∀ (v : Option Value) (M1 : zMem), Q1 (.inl v) M1 → zS l G y fr lo bc bs (pc + 3) ls (v.toList ++ st) M1 Q) :
    zS l G y fr lo (mc + bc) (ms + bs) pc ls (as.reverse ++ st) M Q := by
  intro p e R s m args below meth c H locs cells slots X la F hc hs hW hl hE
  intro T hT XX
  have hup : H.size ≤ s.heap.size + cells := by rw [← hT]; exact XX.heapSize
  suffices hh : W p l e R s m args below meth c H locs cells slots X (F0 m pc la ((as.reverse ++ st).map (zv G))) from hh T hT XX
  obtain ⟨w1, w2, w4, w5, w6⟩ := hw
  have hfrR := F.2.2.2.2.2.2.2.2.2.1
  have hloR := F.2.2.2.2.2.2.2.2.2.2.1
  have cw : CallB R s args (yN y).cls i (yN z) (yC z) (yL z) (yR z) (zws z) (zrm fr1 lo1 mc ms) mc ms n ∧ (Cond.static (yN z)).before args s = true :=
    ⟨callB_of n F.2.2.2.2.1 (zws_in w5) rfl rfl rfl (F.2.2.2.2.1 _ w4) (F.2.2.2.2.1 _ w1) w6 ⟨by show fr1 + 1 ≤ _; omega, by show 8 + (yL z + 11) + lo1 ≤ _; omega⟩, F.2.2.2.2.1 _ w2⟩
  have hstk : (as.reverse ++ st).map (zv G) = (as.map (zv G)).reverse ++ st.map (zv G) := by simp
  rw [hstk]
  refine z_go (a := (as.map (zv G)).toArray) (mc := mc) (ms := ms) (bc := bc) (bs := bs) F hW hc hs hl hE ?_ kk
  exact va_runS (As := as.map (zv G)) (rest := st.map (zv G)) ⟨F.1, F.2.1, F.2.2.1, F.2.2.2.1, F.2.2.2.2.1⟩ hM cw ⟨zPc_blind, fun U hU hWm => zPc_in F hW hup U hU hWm⟩ rfl (by rw [List.length_map]; exact hn) hl.1 rfl (lv_room (by rw [zcat]; exact hst)) hd ⟨by omega, by omega⟩
theorem s_callSH (hd : decode (yC y) pc = .ok (.invokestatic i, 3)) (hw : zcsH (yN y).cls i z n) (hn : as.length = n) (hst : (st.map fun v => v.category).sum ≤ 8) (hrm : fr1 + 1 ≤ fr ∧ 8 + (yL z + 11) + lo1 ≤ lo)
    (hM : zCh l G z fr1 lo1 mc ms as M Q1) (kk : ∀ (v : Option Value) (M1 : zMem), Q1 (.inl v) M1 → zS l G y fr lo bc bs (pc + 3) ls (v.toList ++ st) M1 Q) :
    zS l G y fr lo (mc + bc) (ms + bs) pc ls (as.reverse ++ st) M Q := by
  intro p e R s m args below meth c H locs cells slots X la F hc hs hW hl hE
  intro T hT XX
  have hup : H.size ≤ s.heap.size + cells := by rw [← hT]; exact XX.heapSize
  suffices hh : W p l e R s m args below meth c H locs cells slots X (F0 m pc la ((as.reverse ++ st).map (zv G))) from hh T hT XX
  obtain ⟨w1, w2, w4, w5, w6⟩ := hw
  have hfrR := F.2.2.2.2.2.2.2.2.2.1
  have hloR := F.2.2.2.2.2.2.2.2.2.2.1
  have cw : vx_CSW R s args (yN y).cls i (yN z) (yC z) (yL z) (yR z) (yH z) (zwsH z) (zrm fr1 lo1 mc ms) mc ms n :=
    vx_cwSW n F.2.2.2.2.1 (fun w hw => by
      rcases List.mem_append.mp hw with h | h
      · rcases List.mem_cons.mp h with rfl | h
        · exact zGW_good _ w1
        · rcases List.mem_cons.mp h with rfl | h
          · exact zGW_good _ w2
          · rw [List.mem_singleton.mp h]; exact zGW_good _ w4
      · exact zwsH_in w5 w h) rfl rfl rfl w6 ⟨by show fr1 + 1 ≤ _; omega, by show 8 + (yL z + 11) + lo1 ≤ _; omega⟩
  have hstk : (as.reverse ++ st).map (zv G) = (as.map (zv G)).reverse ++ st.map (zv G) := by simp
  rw [hstk]
  refine z_go (a := (as.map (zv G)).toArray) (mc := mc) (ms := ms) (bc := bc) (bs := bs) F hW hc hs hl hE ?_ kk
  exact vx_runSW (As := as.map (zv G)) (rest := st.map (zv G)) ⟨F.1, F.2.1, F.2.2.1, F.2.2.2.1, F.2.2.2.2.1⟩ hM cw ⟨zPc_blind, fun U hU hWm => zPc_in F hW hup U hU hWm⟩ rfl (by rw [List.length_map]; exact hn) hl.1 rfl (lv_room (by rw [zcat]; exact hst)) hd ⟨by omega, by omega⟩
theorem s_callSN {host : String} (hd : decode (yC y) pc = .ok (.invokestatic i, 3)) (hw : zcsN (yN y).cls i z host n) (hn : as.length = n) (hst : (st.map fun v => v.category).sum ≤ 8) (hrm : fr1 + 1 ≤ fr ∧ 8 + (yL z + 11) + lo1 ≤ lo)
    (hM : zCm l G z fr1 lo1 mc ms as M Q1) (kk : ∀ (v : Option Value) (M1 : zMem), Q1 (.inl v) M1 → zS l G y fr lo bc bs (pc + 3) ls (v.toList ++ st) M1 Q) :
    zS l G y fr lo (mc + bc) (ms + bs) pc ls (as.reverse ++ st) M Q := by
  intro p e R s m args below meth c H locs cells slots X la F hc hs hW hl hE
  intro T hT XX
  have hup : H.size ≤ s.heap.size + cells := by rw [← hT]; exact XX.heapSize
  suffices hh : W p l e R s m args below meth c H locs cells slots X (F0 m pc la ((as.reverse ++ st).map (zv G))) from hh T hT XX
  obtain ⟨w1, w2, w4, w5, w6⟩ := hw
  have hfrR := F.2.2.2.2.2.2.2.2.2.1
  have hloR := F.2.2.2.2.2.2.2.2.2.2.1
  have hnw := F.2.2.2.2.2.2.2.2.2.2.2.2.2.1 _ w1
  have cw : va_CN R s args (yN y).cls i (yN z) host (yC z) (yL z) (yR z) (zws z) (zrm fr1 lo1 mc ms) mc ms n :=
    va_cnB n F.2.2.2.2.1 (zws_in w5) rfl rfl rfl hnw (F.2.2.2.2.1 _ w4) w6 ⟨by show fr1 + 1 ≤ _; omega, by show 8 + (yL z + 11) + lo1 ≤ _; omega⟩
  have hstk : (as.reverse ++ st).map (zv G) = (as.map (zv G)).reverse ++ st.map (zv G) := by simp
  rw [hstk]
  refine z_go (a := (as.map (zv G)).toArray) (mc := mc) (ms := ms) (bc := bc) (bs := bs) F hW hc hs hl hE ?_ kk
  exact va_runSN (As := as.map (zv G)) (rest := st.map (zv G)) ⟨F.1, F.2.1, F.2.2.1, F.2.2.2.1, F.2.2.2.2.1⟩ hM ⟨cw, F.2.2.2.2.1 _ w2, trivial⟩ ⟨zPc_blind, fun U hU hWm => zPc_in F hW hup U hU hWm⟩ rfl (by rw [List.length_map]; exact hn) hl.1 rfl (lv_room (by rw [zcat]; exact hst)) hd ⟨by omega, by omega⟩
theorem s_callI {a : Nat} (hd : decode (yC y) pc = .ok (.invokespecial i, 3)) (hw : zci (yN y).cls i z n) (hn : as.length = n) (hst : (st.map fun v => v.category).sum ≤ 8) (hrm : fr1 + 1 ≤ fr ∧ 8 + (yL z + 11) + lo1 ≤ lo)
    (hM : zCm l G z fr1 lo1 mc ms (.ref a :: as) M Q1) (kk : ∀ (v : Option Value) (M1 : zMem), Q1 (.inl v) M1 → zS l G y fr lo bc bs (pc + 3) ls (v.toList ++ st) M1 Q) :
    zS l G y fr lo (mc + bc) (ms + bs) pc ls (as.reverse ++ .ref a :: st) M Q := by
  intro p e R s m args below meth c H locs cells slots X la F hc hs hW hl hE
  intro T hT XX
  have hup : H.size ≤ s.heap.size + cells := by rw [← hT]; exact XX.heapSize
  suffices hh : W p l e R s m args below meth c H locs cells slots X (F0 m pc la ((as.reverse ++ .ref a :: st).map (zv G))) from hh T hT XX
  obtain ⟨w1, w2, w4, w5, w7, w8, w6⟩ := hw
  have hfrR := F.2.2.2.2.2.2.2.2.2.1
  have hloR := F.2.2.2.2.2.2.2.2.2.2.1
  have w5' : Cond.code (yN z) (yC z) (yL z) (yR z) ∈ zGW := by rw [w7]; exact w5
  have cw : CallB R s args (yN y).cls i (yN z) (yC z) (yL z) none (zws z) (zrm fr1 lo1 mc ms) mc ms n ∧ (yN z).name = "<init>" ∧ (Cond.instanceMethod (yN z)).before args s = true :=
    ⟨callB_of (ws' := zGW) n F.2.2.2.2.1 (zws_in w5') (by unfold zws; rw [w7]) rfl rfl (F.2.2.2.2.1 _ w4) (F.2.2.2.2.1 _ w1) w6 ⟨by show fr1 + 1 ≤ _; omega, by show 8 + (yL z + 11) + lo1 ≤ _; omega⟩, w8, F.2.2.2.2.1 _ w2⟩
  have hstk : (as.reverse ++ .ref a :: st).map (zv G) = (as.map (zv G)).reverse ++ .ref (zad G a) :: st.map (zv G) := by simp [zv]
  rw [hstk]
  refine z_go (a := (Value.ref (zad G a) :: as.map (zv G)).toArray) (mc := mc) (ms := ms) (bc := bc) (bs := bs) F hW hc hs hl hE ?_ kk
  exact va_runI (As := as.map (zv G)) (rest := st.map (zv G)) ⟨F.1, F.2.1, F.2.2.1, F.2.2.2.1, F.2.2.2.2.1⟩ hM cw ⟨zPc_blind, fun U hU hWm => zPc_in (as := .ref a :: as) F hW hup U hU hWm⟩ rfl (by rw [List.length_map]; exact hn) hl.1 rfl (lv_room (by rw [zcat]; exact hst)) hd ⟨by omega, by omega⟩
theorem s_callIN {a : Nat} {host : String} (hd : decode (yC y) pc = .ok (.invokespecial i, 3)) (hw : zciN (yN y).cls i z host n) (hn : as.length = n) (hst : (st.map fun v => v.category).sum ≤ 8) (hrm : fr1 + 1 ≤ fr ∧ 8 + (yL z + 11) + lo1 ≤ lo)
    (hM : zCm l G z fr1 lo1 mc ms (.ref a :: as) M Q1) (kk : ∀ (v : Option Value) (M1 : zMem), Q1 (.inl v) M1 → zS l G y fr lo bc bs (pc + 3) ls (v.toList ++ st) M1 Q) :
    zS l G y fr lo (mc + bc) (ms + bs) pc ls (as.reverse ++ .ref a :: st) M Q := by
  intro p e R s m args below meth c H locs cells slots X la F hc hs hW hl hE
  intro T hT XX
  have hup : H.size ≤ s.heap.size + cells := by rw [← hT]; exact XX.heapSize
  suffices hh : W p l e R s m args below meth c H locs cells slots X (F0 m pc la ((as.reverse ++ .ref a :: st).map (zv G))) from hh T hT XX
  obtain ⟨w1, w2, w4, w5, w7, w8, w6⟩ := hw
  have hfrR := F.2.2.2.2.2.2.2.2.2.1
  have hloR := F.2.2.2.2.2.2.2.2.2.2.1
  have hnw := F.2.2.2.2.2.2.2.2.2.2.2.2.2.1 _ w1
  have w5' : Cond.code (yN z) (yC z) (yL z) (yR z) ∈ zGW := by rw [w7]; exact w5
  have cw : va_CN R s args (yN y).cls i (yN z) host (yC z) (yL z) none (zws z) (zrm fr1 lo1 mc ms) mc ms n :=
    va_cnB (ws' := zGW) n F.2.2.2.2.1 (zws_in w5') (by unfold zws; rw [w7]) rfl rfl hnw (F.2.2.2.2.1 _ w4) w6 ⟨by show fr1 + 1 ≤ _; omega, by show 8 + (yL z + 11) + lo1 ≤ _; omega⟩
  have hstk : (as.reverse ++ .ref a :: st).map (zv G) = (as.map (zv G)).reverse ++ .ref (zad G a) :: st.map (zv G) := by simp [zv]
  rw [hstk]
  refine z_go (a := (Value.ref (zad G a) :: as.map (zv G)).toArray) (mc := mc) (ms := ms) (bc := bc) (bs := bs) F hW hc hs hl hE ?_ kk
  exact va_runIN (As := as.map (zv G)) (rest := st.map (zv G)) ⟨F.1, F.2.1, F.2.2.1, F.2.2.2.1, F.2.2.2.2.1⟩ hM ⟨cw, w8, F.2.2.2.2.1 _ w2⟩ ⟨zPc_blind, fun U hU hWm => zPc_in (as := .ref a :: as) F hW hup U hU hWm⟩ rfl (by rw [List.length_map]; exact hn) hl.1 rfl (lv_room (by rw [zcat]; exact hst)) hd ⟨by omega, by omega⟩
end ZL
