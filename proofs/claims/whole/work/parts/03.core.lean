
/-! ===== the abstract world: cells by their places from a base; ints, longs, references, kinds, lengths ===== -/
abbrev zMem : Type := (Nat → Nat → Int32) × (Nat → Nat → Int64) × (Nat → Nat → Option Nat) × (Nat → Nat) × (Nat → Nat) × Nat × Nat
def zI (M : zMem) (a k : Nat) : Int32 := M.1 a k
def zJ (M : zMem) (a k : Nat) : Int64 := M.2.1 a k
def zR (M : zMem) (a k : Nat) : Option Nat := M.2.2.1 a k
def zK (M : zMem) (a : Nat) : Nat := M.2.2.2.1 a
def zN (M : zMem) (a : Nat) : Nat := M.2.2.2.2.1 a
def zT (M : zMem) : Nat := M.2.2.2.2.2.1
def zF (M : zMem) : Nat := M.2.2.2.2.2.2
def zu {α : Type} (f : Nat → Nat → α) (a k : Nat) (v : α) : Nat → Nat → α := fun b => if b = a then (fun j => if j = k then v else f a j) else f b
def zur {α : Type} (f : Nat → Nat → α) (a : Nat) (g : Nat → α) : Nat → Nat → α := fun b => if b = a then g else f b
def zsI (M : zMem) (a k : Nat) (v : Int32) : zMem := (zu M.1 a k v, M.2)
def zsJ (M : zMem) (a k : Nat) (v : Int64) : zMem := (M.1, zu M.2.1 a k v, M.2.2)
def zsR (M : zMem) (a k : Nat) (v : Option Nat) : zMem := (M.1, M.2.1, zu M.2.2.1 a k v, M.2.2.2)
def zsA (M : zMem) (a : Nat) (g : Nat → Int32) : zMem := (zur M.1 a g, M.2)
/-- a new cell at the top: all its contents 0 -/
def znw (M : zMem) (kd n : Nat) : zMem := (zur M.1 (zT M) (fun _ => 0), zur M.2.1 (zT M) (fun _ => 0), zur M.2.2.1 (zT M) (fun _ => none), (fun b => if b = zT M then kd else M.2.2.2.1 b), (fun b => if b = zT M then n else M.2.2.2.2.1 b), zT M + 1, zF M)
/-- something was thrown -/
def zth (M : zMem) : zMem := (M.1, M.2.1, M.2.2.1, M.2.2.2.1, M.2.2.2.2.1, M.2.2.2.2.2.1, 1)
/-- kinds of fields: 0 int, 1 long, 2 a reference -/
def zFT : List (List Nat) := [[1,0,0,0,0,0,1,0,2,2],[0,0,2],[0,2],[0,1,2,2,2,2,2,2,0,0,0,1],[0,0,2,0,0,0,1,0],[0,0,0,0,0,2,2,2],[1,2,2],[0,2],[2,2,2,2,2,2,2,2,2],[2,2,2,2,2,0,0,2,0,0,0,0,0,0,0,0,2,2,2,2,2,2,2,0,0,0,0,1,1,0,2,0]]
def zfty (ci k : Nat) : Nat := (zFT.getD ci []).getD k 0
def znf (ci : Nat) : Nat := (zFT.getD ci []).length
/-- the surroundings: base, classes, array classes, the script (where, how long, what), the literals (where, their bytes where) -/
abbrev zG : Type := Nat × va_G × (Nat → ClassId) × (Nat × Nat × (Nat → Int32)) × (Nat → Nat) × (Nat → Nat)
abbrev gB (G : zG) : Nat := G.1
abbrev gD (G : zG) : va_G := G.2.1
abbrev gC (G : zG) : Nat → ClassId := G.2.2.1
abbrev gX (G : zG) : Nat × Nat × (Nat → Int32) := G.2.2.2.1
abbrev gS (G : zG) : Nat → Nat := G.2.2.2.2.1
abbrev gV (G : zG) : Nat → Nat := G.2.2.2.2.2
/-- addresses: below a million the world's cells; a million and on: literals; two millions: the script; three millions and on: the literals' bytes, behind them a formatter of the JDK's -/
def zad (G : zG) (k : Nat) : Nat := if k < 1000000 then gB G + k else if k < 2000000 then gS G (k - 1000000) else if k < 3000000 then (gX G).1 else gV G (k - 3000000)
def zv (G : zG) : Value → Value | .ref k => .ref (zad G k) | .int x => .int x | .long x => .long x | .float x => .float x | .double x => .double x | .null => .null | .retAddr x => .retAddr x
theorem zv_cat (G : zG) (v : Value) : (zv G v).category = v.category := by cases v <;> rfl
def zrv (r : Option Nat) : Value := match r with | none => .null | some a => .ref a
theorem zv_rf (G : zG) (r : Option Nat) : va_rf (r.map (zad G)) = zv G (zrv r) := by cases r <;> rfl
def zfv (G : zG) (M : zMem) (ci a k : Nat) : Value := match zfty ci k with | 0 => .int (zI M a k) | 1 => .long (zJ M a k) | _ => va_rf ((zR M a k).map (zad G))
def zfl (G : zG) (M : zMem) (ci a : Nat) : List Value := (List.range (znf ci)).map (zfv G M ci a)
def zcl (G : zG) (M : zMem) (a : Nat) : va_E :=
  if zK M a ≤ 10 then .inr (zK M a - 1, zfl G M (zK M a - 1) a)
  else if zK M a = 11 then .inl (gC G 0, zN M a, .inl (zI M a))
  else if zK M a = 12 then .inl (gC G 1, zN M a, .inr (.inl (zJ M a)))
  else if zK M a = 13 then .inl (gC G 2, zN M a, .inl (zI M a))
  else .inl (gC G (zK M a - 11), zN M a, .inr (.inr (.inr (.inr (fun k => (zR M a k).map (zad G))))))
def zW (G : zG) (M : zMem) : va_W := (List.range (zT M)).map (fun a => (gB G + a, zcl G M a))
def zwf (M : zMem) : Prop := (∀ a, zT M ≤ a → zK M a = 0) ∧ zT M ≤ 1000000
def zA (G : zG) : Nat → Prop := fun q => gB G ≤ q
def zty (G : zG) : List (ClassId × FieldType) := [(gC G 0, .int), (gC G 1, .long), (gC G 2, .boolean), (gC G 3, .object RX0), (gC G 4, .object RX5), (gC G 5, .object RX6)]
theorem zW_get {G : zG} {M : zMem} {a : Nat} (h : a < zT M) : (zW G M)[a]? = some (gB G + a, zcl G M a) := by
  simp [zW, h]
theorem zW_of {G : zG} {M : zMem} {k : Nat} {q : Nat × va_E} (h : (zW G M)[k]? = some q) : k < zT M ∧ q = (gB G + k, zcl G M k) := by
  have hk : k < zT M := by
    have := (List.getElem?_eq_some_iff.mp h).1
    simpa [zW] using this
  exact ⟨hk, Option.some.inj (h.symm.trans (zW_get hk))⟩
theorem zW_D {G : zG} {M : zMem} : va_D (zA G) (zW G M) := by
  refine ⟨fun i j p q hi hj hpq => ?_, fun k q h => ?_⟩
  · obtain ⟨-, rfl⟩ := zW_of hi
    obtain ⟨-, rfl⟩ := zW_of hj
    exact Nat.add_left_cancel hpq
  · obtain ⟨-, rfl⟩ := zW_of h
    exact Nat.le_add_right _ _
theorem zW_set {G : zG} {M M' : zMem} {a : Nat} {e : va_E} (hT : zT M' = zT M) (he : zcl G M' a = e) (ho : ∀ c, c ≠ a → zcl G M' c = zcl G M c) : (zW G M).set a (gB G + a, e) = zW G M' := by
  apply List.ext_getElem?
  intro k
  by_cases hk : k = a
  · subst hk
    by_cases hl : k < zT M
    · rw [List.getElem?_set_self (by simpa [zW] using hl), zW_get (by omega), he]
    · have h1 : (zW G M').length ≤ k := by simp [zW]; omega
      have h2 : ((zW G M).set k (gB G + k, e)).length ≤ k := by simp [zW]; omega
      rw [List.getElem?_eq_none h1, List.getElem?_eq_none h2]
  · rw [List.getElem?_set_ne (Ne.symm hk)]
    by_cases hl : k < zT M
    · rw [zW_get hl, zW_get (by omega), ho k hk]
    · have h1 : (zW G M').length ≤ k := by simp [zW]; omega
      have h2 : (zW G M).length ≤ k := by simp [zW]; omega
      rw [List.getElem?_eq_none h1, List.getElem?_eq_none h2]
theorem zW_push {G : zG} {M M' : zMem} {e : va_E} (hT : zT M' = zT M + 1) (he : zcl G M' (zT M) = e) (ho : ∀ c, c < zT M → zcl G M' c = zcl G M c) : zW G M ++ [(gB G + zT M, e)] = zW G M' := by
  unfold zW
  rw [hT, List.range_succ, List.map_append]
  congr 1
  · exact List.map_congr_left fun c hc => by rw [ho c (List.mem_range.mp hc)]
  · simp [he]
/-! ===== a method at hand ===== -/
abbrev zMD : Type := MethodName × ByteArray × Nat × Option FieldType × List (Nat × Nat × Nat × Nat)
abbrev zOut : Type := Option Value ⊕ Nat
/-- the good words of the tables -/
def zGW : List Cond := lw_tbl.filter goodWord
theorem zGW_in {w : Cond} (h : w ∈ zGW) : w ∈ lw_tbl ∧ ((w.onTables && w.keeps) = true ∨ ∃ ty, w = .arrayClass ty) := ⟨(List.mem_filter.mp h).1, good_of_word (List.mem_filter.mp h).2⟩
theorem zGW_of {w : Cond} (i : Nat) (h : (lw_tbl[i]?, goodWord w) = (some w, true)) : w ∈ zGW := List.mem_filter.mpr ⟨List.mem_of_getElem? (Prod.mk.inj h).1, (Prod.mk.inj h).2⟩
def zXn : Nat → String | 0 => "java/lang/IllegalStateException" | 1 => "java/lang/IllegalArgumentException" | _ => "java/lang/IndexOutOfBoundsException"
def zNk : Cond → Bool | .methodLinkNest .. => true | .castable .. => true | .declares _ => true | .arrayOver (.object _) => true | _ => false
theorem zNk_warm {w : Cond} {s U : State} (h : zNk w = true) (hW : s.WarmedH U.vm) (hz : va_Nw w s) : va_Nw w U := by
  cases w with
  | methodLinkNest _ _ _ _ => exact va_Nw.warmM hW hz
  | castable _ _ => exact va_Nw.warmC hW hz
  | declares _ => exact va_Nw.warmD hW hz
  | arrayOver ty =>
    cases ty with
    | object C => exact va_AO.moved hW.alike hz
    | _ => cases h
  | _ => cases h
theorem zNk_same {w : Cond} {s U : State} (h : zNk w = true) (hv : s.vm = U.vm) (hz : va_Nw w s) : va_Nw w U := by
  cases w with
  | methodLinkNest _ _ _ _ => exact va_Nw.same rfl hv hz
  | castable _ _ => exact va_Nw.same rfl hv hz
  | declares _ => exact va_Nw.same rfl hv hz
  | arrayOver ty =>
    cases ty with
    | object C => exact va_AO.moved (by rw [hv]; exact Vm.Alike.refl U.vm) hz
    | _ => cases h
  | _ => cases h
/-- words of the tables that a call doesn't carry by itself -/
def zNW : List Cond := lw_tbl.filter zNk
/-- the literals: owner, place in its pool, text, number -/
def zLR : List (String × Nat × String × Nat) := [("SeasonTiers$Reader", 53, "cycle", 0), ("SeasonTiers$Reader", 63, "rate", 1), ("SeasonTiers$Reader", 76, "tier", 2), ("SeasonTiers$Reader", 121, "file", 3), ("SeasonTiers$Reader", 126, "on", 4), ("SeasonTiers$Reader", 131, "pin", 5), ("SeasonTiersModel", 199, "cycle", 0), ("SeasonTiersModel", 201, "rate", 1), ("SeasonTiersModel", 157, "tier", 2), ("SeasonTiersModel", 206, "file", 3), ("SeasonTiersModel", 186, "on", 4), ("SeasonTiersModel", 191, "pin", 5)]
def zLb : List (List Int32) := [[99, 121, 99, 108, 101], [114, 97, 116, 101], [116, 105, 101, 114], [102, 105, 108, 101], [111, 110], [112, 105, 110]]
def zLl : List Nat := [5, 4, 4, 4, 2, 3]
/-- what holds of the tables and of the heap's fixed part -/
def zCx (G : zG) (s : State) (H : Heap) : Prop :=
  va_K (gD G) vwCl (zty G) s ∧ (∀ w ∈ zNW, va_Nw w s) ∧ (∀ q ∈ zLR, vk_R q.1 q.2.1 q.2.2.1 (gS G q.2.2.2) s) ∧ vk_S 6 zLl zLb (gS G) (gV G) (zA G) s H ∧ va_X (gX G).1 (gX G).2.1 (gX G).2.2 s H ∧ (gX G).1 < gB G ∧ gB G ≤ H.size ∧
  vx_Zq Bundle.tN "UNASSIGNED_STACK" Bundle.steD (zA G) s H ∧ vx_Zq Bundle.tN "SUPPRESSED_SENTINEL" Bundle.listD (zA G) s H ∧ va_Z "java/lang/String" "COMPACT_STRINGS" "Z" (.int 1) (zA G) s H ∧ (va_Z "jdk/internal/util/Preconditions" "SIOOBE_FORMATTER" "Ljava/util/function/BiFunction;" .null (zA G) s H ∨ va_Z "jdk/internal/util/Preconditions" "SIOOBE_FORMATTER" "Ljava/util/function/BiFunction;" (.ref (gV G 6)) (zA G) s H) ∧ (∀ x x' : Nat, x < 3 → x' < 3 → x ≠ x' → va_Nc (zXn x) (zXn x') s)
theorem zCx.kept {G : zG} {s : State} {H H1 : Heap} (h : zCx G s H) (hz : H.size ≤ H1.size) (hq : ∀ a : Nat, a < H.size → ¬ zA G a → H1[a]? = H[a]?) : zCx G s H1 := by
  obtain ⟨h1, h2, h3, h4, h5, h6, h7, h8, h9, h10, h11, h12⟩ := h
  refine ⟨h1, h2, h3, h4.kept hq, h5.kept (hq _ (by omega) (fun z => by unfold zA at z; omega)), h6, by omega, h8.kept hq, h9.kept hq, h10.kept hq, h11.imp (fun h => h.kept hq) (fun h => h.kept hq), h12⟩
theorem zCx.warm {G : zG} {s U : State} {H : Heap} (h : zCx G s H) (hW : s.WarmedH U.vm) : zCx G U H := by
  obtain ⟨h1, h2, h3, h4, h5, h6, h7, h8, h9, h10, h11, h12⟩ := h
  exact ⟨va_K.moved hW.alike h1, fun w hw => zNk_warm (List.mem_filter.mp hw).2 hW (h2 w hw), fun q hq => vk_R.warm hW (h3 q hq), vk_S.moved hW.alike h4, h5.moved hW.alike, h6, h7, vx_Zq.moved hW.alike h8, vx_Zq.moved hW.alike h9, va_Z.moved hW.alike h10, h11.imp (va_Z.moved hW.alike) (va_Z.moved hW.alike), fun x x' a b c => va_Nc.moved hW.alike (h12 x x' a b c)⟩
theorem zCx.same {G : zG} {s U : State} {H : Heap} (h : zCx G s H) (hv : U.vm = s.vm) : zCx G U H := by
  obtain ⟨h1, h2, h3, h4, h5, h6, h7, h8, h9, h10, h11, h12⟩ := h
  have hA : s.vm.Alike U.vm := by rw [hv]; exact Vm.Alike.refl s.vm
  exact ⟨va_K.moved hA h1, fun w hw => zNk_same (List.mem_filter.mp hw).2 hv.symm (h2 w hw), fun q hq => vk_R.same hv (h3 q hq), vk_S.moved hA h4, h5.moved hA, h6, h7, vx_Zq.moved hA h8, vx_Zq.moved hA h9, va_Z.moved hA h10, h11.imp (va_Z.moved hA) (va_Z.moved hA), fun x x' a b c => va_Nc.moved hA (h12 x x' a b c)⟩
/-- the world in the heap -/
def zWd (G : zG) (M : zMem) (s : State) (H : Heap) (locs : List Loc) (cells : Nat) : Prop :=
  zwf M ∧ va_P (gD G) vwCl (zW G M) H ∧ va_S (zA G) s.heap H locs ∧ (zF M = 0 → s.heap.size + cells ≤ gB G + zT M)
abbrev yN (y : zMD) : MethodName := y.1
abbrev yC (y : zMD) : ByteArray := y.2.1
abbrev yL (y : zMD) : Nat := y.2.2.1
abbrev yR (y : zMD) : Option FieldType := y.2.2.2.1
abbrev yH (y : zMD) : List (Nat × Nat × Nat × Nat) := y.2.2.2.2
/-- what stands of the method that runs -/
def zFix (l : Launch) (G : zG) (y : zMD) (fr lo : Nat) (p : Program) (R : Room) (s : State) (m : MethodId) (args : Array Value) (meth : Method) (c : Code) : Prop :=
  p.tables.exec = Jvm.exec ∧ c.code = yC y ∧ c.maxLocals = yL y ∧ s.vm.findClass (yN y).cls = some m.cls ∧ (∀ w ∈ zGW, w.before args s = true) ∧ meth.locks = false ∧ meth.sig.returnType = yR y ∧ meth.name = (yN y).name ∧ l.stackTraces = false ∧ fr ≤ R.frames ∧ lo ≤ R.locals ∧ c.exceptionTable.toList = tableOf (yH y) ∧ zCx G s s.heap
/-- a return instruction with its value -/
def zrets (y : zMD) (pc : Nat) : Option Value → Prop
  | none => decode (yC y) pc = .ok (.return_, 1) ∧ yR y = none
  | some (.int x) => decode (yC y) pc = .ok (.ireturn, 1) ∧ ∃ ty, yR y = some ty ∧ narrow ty (.int x) = .int x
  | some (.long _) => decode (yC y) pc = .ok (.lreturn, 1) ∧ yR y = some .long
  | some (.float _) => decode (yC y) pc = .ok (.freturn, 1) ∧ yR y = some .float
  | some (.double _) => decode (yC y) pc = .ok (.dreturn, 1) ∧ yR y = some .double
  | some _ => False
/-- the names of the exceptions' classes above, behind a throw -/
def zXs : List String := ["java/lang/RuntimeException", "java/lang/Exception"]
/-- all words of a throw stand in the tables -/
def zxw (own : String) (x ic : Nat) : Prop := Cond.initialized (zXn x) ∈ zGW ∧ ∀ w ∈ vx_at0 own ic (zXn x) zXs, w ∈ zGW ∨ (w ∈ zNW ∧ w.onTables = true)
/-- a throw's own words -/
def zthr (y : zMD) (fr lo : Nat) (x : Nat) (pc : Nat) (st : List Value) : Prop :=
  ∃ ik ic : Nat, decode (yC y) pc = .ok (.new ik, 3) ∧ decode (yC y) (pc + 3) = .ok (.dup, 1) ∧ decode (yC y) (pc + 4) = .ok (.invokespecial ic, 3) ∧ decode (yC y) (pc + 7) = .ok (.athrow, 1) ∧
    Cond.classLink (yN y).cls ik (zXn x) ∈ zGW ∧ Cond.methodLink (yN y).cls ic ⟨zXn x, "<init>", "()V"⟩ ∈ zGW ∧ yH y = [] ∧ 6 < fr ∧ (st.map fun v => v.category).sum + 94 ≤ lo ∧ x < 3 ∧ zxw (yN y).cls x ic
/-- what is due at the method's end -/
def zEx (l : Launch) (G : zG) (y : zMD) (fr lo : Nat) (Q : zOut → zMem → Prop) (p : Program) (e : Env) (R : Room) (s : State) (m : MethodId) (args : Array Value) (below : List Frame) (meth : Method) (c : Code) (X : State → Prop) : Prop :=
  (∀ (v : Option Value) (M' : zMem), Q (.inl v) M' → ∀ (H : Heap) (locs : List Loc) (cells slots pc : Nat) (la : Array Slot), cells ≤ R.cells → slots ≤ R.slots → zWd G M' s H locs cells → zrets y pc v → W p l e R s m args below meth c H locs cells slots X (F0 m pc la (v.toList.map (zv G)))) ∧
  (∀ (x : Nat) (M' : zMem), Q (.inr x) M' → ∀ (H : Heap) (locs : List Loc) (cells slots pc : Nat) (la : Array Slot) (st : List Value) (q : Addr) (ce : Cell), cells ≤ R.cells → slots ≤ R.slots → zWd G M' s H locs cells → H[q]? = some ce → ce.vm = .none → s.vm.findClass (zXn x) = some ce.cls → yH y = [] → vx_W p l e R s m args below meth c H locs cells slots X (F0 m pc la st) q) ∧
  (∀ (x : Nat) (M' : zMem), Q (.inr x) (zth M') → ∀ (H : Heap) (locs : List Loc) (cells slots pc : Nat) (la : Array Slot) (st : List Value), cells + 1 ≤ R.cells → slots + 6 ≤ R.slots → zWd G M' s H locs cells → la.size = yL y → zthr y fr lo x pc st → W p l e R s m args below meth c H locs cells slots X (F0 m pc la (st.map (zv G))))
/-- locals by their places -/
def zlc : Nat → List (Option Value) → List (Nat × Value)
  | _, [] => []
  | i, none :: t => zlc (i + 1) t
  | i, some v :: t => (i, v) :: zlc (i + 1) t
def zll (G : zG) (ls : List (Option Value)) : List (Nat × Value) := zlc 0 (ls.map (Option.map (zv G)))
theorem zlc_mem : ∀ (ls : List (Option Value)) (k i : Nat) (v : Value), (i, v) ∈ zlc k ls ↔ ∃ j, i = k + j ∧ ls[j]? = some (some v)
  | [], k, i, v => by simp [zlc]
  | none :: t, k, i, v => by
    rw [zlc, zlc_mem t (k + 1) i v]
    constructor
    · rintro ⟨j, rfl, h⟩; exact ⟨j + 1, by omega, by simpa using h⟩
    · rintro ⟨j, rfl, h⟩
      cases j with
      | zero => simp at h
      | succ j => exact ⟨j, by omega, by simpa using h⟩
  | some w :: t, k, i, v => by
    rw [zlc, List.mem_cons, zlc_mem t (k + 1) i v]
    constructor
    · rintro (h | ⟨j, rfl, h⟩)
      · cases h; exact ⟨0, rfl, rfl⟩
      · exact ⟨j + 1, by omega, by simpa using h⟩
    · rintro ⟨j, rfl, h⟩
      cases j with
      | zero => left; simp at h; subst h; rfl
      | succ j => right; exact ⟨j, by omega, by simpa using h⟩
theorem zll_mem {G : zG} {ls : List (Option Value)} {i : Nat} {v : Value} : (i, v) ∈ zll G ls ↔ ∃ w, ls[i]? = some (some w) ∧ v = zv G w := by
  unfold zll
  rw [zlc_mem]
  constructor
  · rintro ⟨j, rfl, h⟩
    rw [List.getElem?_map] at h
    cases hj : ls[j]? with
    | none => rw [hj] at h; cases h
    | some o =>
      rw [hj] at h
      cases o with
      | none => cases h
      | some w => exact ⟨w, by rw [Nat.zero_add]; exact hj, by simpa using h.symm⟩
  · rintro ⟨w, h, rfl⟩
    exact ⟨i, (Nat.zero_add i).symm, by rw [List.getElem?_map, h]; rfl⟩
theorem zll_at {G : zG} {la : Array Slot} {nL : Nat} {ls : List (Option Value)} {i : Nat} {w : Value} (h : lv_has la nL (zll G ls)) (hw : ls[i]? = some (some w)) : la[i]? = some (.val (zv G w)) := h.2.2 (i, zv G w) (zll_mem.mpr ⟨w, hw, rfl⟩)
/-- a place's left neighbour, if a long value stands there, is no value any more -/
def zpr (ls : List (Option Value)) : Nat → List (Option Value)
  | 0 => ls
  | i + 1 => match ls[i]? with
    | some (some (.long _)) => ls.set i none
    | some (some (.double _)) => ls.set i none
    | _ => ls
def zp1 (ls : List (Option Value)) (i : Nat) (v : Value) : List (Option Value) := (zpr ls i).set i (some v)
def zp2 (ls : List (Option Value)) (i : Nat) (v : Value) : List (Option Value) := ((zpr ls i).set i (some v)).set (i + 1) none
theorem zpr_get {ls : List (Option Value)} {i j : Nat} {w : Value} (h : (zpr ls i)[j]? = some (some w)) : ls[j]? = some (some w) ∧ ¬ (j + 1 = i ∧ w.category = 2) := by
  cases i with
  | zero => exact ⟨h, by omega⟩
  | succ i =>
    rw [zpr] at h
    split at h
    next x hx =>
      by_cases hj : j = i
      · subst hj
        rw [List.getElem?_set_self (List.getElem?_eq_some_iff.mp hx).1] at h
        cases h
      · rw [List.getElem?_set_ne (Ne.symm hj)] at h
        exact ⟨h, by omega⟩
    next x hx =>
      by_cases hj : j = i
      · subst hj
        rw [List.getElem?_set_self (List.getElem?_eq_some_iff.mp hx).1] at h
        cases h
      · rw [List.getElem?_set_ne (Ne.symm hj)] at h
        exact ⟨h, by omega⟩
    next hx1 hx2 =>
      refine ⟨h, fun ⟨e1, e2⟩ => ?_⟩
      have : j = i := by omega
      subst this
      cases w with
      | long x => exact hx1 x h
      | double x => exact hx2 x h
      | _ => cases e2
theorem zp1_has {G : zG} {la : Array Slot} {nL i : Nat} {ls : List (Option Value)} {v : Value} (h : lv_has la nL ((i, zv G v) :: (zll G ls).filter (fun q => !(q.1 == i) && !(q.1 + 1 == i && q.2.category == 2)))) : lv_has la nL (zll G (zp1 ls i v)) := by
  refine ⟨h.1, h.2.1, fun q hq => h.2.2 q ?_⟩
  obtain ⟨j, x⟩ := q
  obtain ⟨w, hw, rfl⟩ := zll_mem.mp hq
  unfold zp1 at hw
  by_cases hj : j = i
  · subst hj
    rcases Nat.lt_or_ge j (zpr ls j).length with hl | hl
    · rw [List.getElem?_set_self hl] at hw
      cases hw
      exact List.mem_cons_self
    · rw [List.getElem?_eq_none (by simpa using hl)] at hw
      cases hw
  · rw [List.getElem?_set_ne (Ne.symm hj)] at hw
    obtain ⟨h1, h2⟩ := zpr_get hw
    refine List.mem_cons_of_mem _ (List.mem_filter.mpr ⟨zll_mem.mpr ⟨w, h1, rfl⟩, ?_⟩)
    simp only [zv_cat, Bool.and_eq_true, Bool.not_eq_true', beq_eq_false_iff_ne, ne_eq, Bool.and_eq_false_iff]
    refine ⟨hj, ?_⟩
    by_cases e : j + 1 = i
    · exact Or.inr (fun z => h2 ⟨e, z⟩)
    · exact Or.inl e
theorem zp2_has {G : zG} {la : Array Slot} {nL i : Nat} {ls : List (Option Value)} {v : Value} (h : lv_has la nL ((i, zv G v) :: (zll G ls).filter (fun q => !(q.1 == i) && (!(q.1 == i + 1) && !(q.1 + 1 == i && q.2.category == 2))))) : lv_has la nL (zll G (zp2 ls i v)) := by
  refine ⟨h.1, h.2.1, fun q hq => h.2.2 q ?_⟩
  obtain ⟨j, x⟩ := q
  obtain ⟨w, hw, rfl⟩ := zll_mem.mp hq
  unfold zp2 at hw
  by_cases hj1 : j = i + 1
  · subst hj1
    by_cases hl : i + 1 < ((zpr ls i).set i (some v)).length
    · rw [List.getElem?_set_self hl] at hw
      cases hw
    · rw [List.getElem?_eq_none (by simpa using hl)] at hw
      cases hw
  · rw [List.getElem?_set_ne (Ne.symm hj1)] at hw
    by_cases hj : j = i
    · subst hj
      rcases Nat.lt_or_ge j (zpr ls j).length with hl | hl
      · rw [List.getElem?_set_self hl] at hw
        cases hw
        exact List.mem_cons_self
      · rw [List.getElem?_eq_none (by simpa using hl)] at hw
        cases hw
    · rw [List.getElem?_set_ne (Ne.symm hj)] at hw
      obtain ⟨h1, h2⟩ := zpr_get hw
      refine List.mem_cons_of_mem _ (List.mem_filter.mpr ⟨zll_mem.mpr ⟨w, h1, rfl⟩, ?_⟩)
      simp only [zv_cat, Bool.and_eq_true, Bool.not_eq_true', beq_eq_false_iff_ne, ne_eq, Bool.and_eq_false_iff]
      refine ⟨hj, hj1, ?_⟩
      by_cases e : j + 1 = i
      · exact Or.inr (fun z => h2 ⟨e, z⟩)
      · exact Or.inl e
/-- THE JUDGEMENT: from pc, with these locals, this stack, this world, the method comes to an end that Q allows; fr lo: its room's frames and words; bc bs: cells and slots that it may still make -/
def zS (l : Launch) (G : zG) (y : zMD) (fr lo bc bs pc : Nat) (ls : List (Option Value)) (st : List Value) (M : zMem) (Q : zOut → zMem → Prop) : Prop :=
  ∀ (p : Program) (e : Env) (R : Room) (s : State) (m : MethodId) (args : Array Value) (below : List Frame) (meth : Method) (c : Code) (H : Heap) (locs : List Loc) (cells slots : Nat) (X : State → Prop) (la : Array Slot),
    zFix l G y fr lo p R s m args meth c → cells + bc ≤ R.cells → slots + bs ≤ R.slots → zWd G M s H locs cells → lv_has la (yL y) (zll G ls) → zEx l G y fr lo Q p e R s m args below meth c X →
    W p l e R s m args below meth c H locs cells slots X (F0 m pc la (st.map (zv G)))
