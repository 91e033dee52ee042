/-! ===== the head: the world at the start ===== -/

/-! The claim out of one walk OF THE LAW'S BODY. Your part is whole_start (and what it stands on); all else here is the same for every law, but numbers. -/
def R_law : String := "SeasonTiersLaw"
def lw_P (b : Addr) (xs : List Int32) (args : Array Value) (s : State) : Prop := args = #[.ref b] ∧ s.IntsAt b xs ∧ xs.length ≤ 3072 ∧ (Jvm.Cond.and given_1 narrow_1).before args s = true
/-- what a walk over the start with the record d0 says of its end, said of the start itself -/
theorem lw_closed {s t : State} {o : Outcome} {d0 : Drawn} {L : List Loc} {k n : Nat} (hd0 : s.drawn.sameBut d0 lw_cs) (hv : ∃ v, o = .returned v) (hW : (s.setDrawn d0).WarmedH t.vm) (hs : (s.setDrawn d0).sameButNew ({ t with vm := s.vm } : State) L k n) : State.butDraws s t lw_cs (fun t1 => Framed s o t1 L k n) := by
  have h2 : t.drawn = d0 := congrArg State.drawn hs.1
  refine ⟨⟨hv, hW, State.sameButNew.setDrawn hs s.drawn⟩, ?_, by decide⟩
  rw [h2]
  exact hd0
def lw_Q (_ : Array Value) (s : State) (o : Outcome) (t : State) : Prop := o = .returned (some (.int 1)) ∧ State.butDraws s t lw_cs (fun t1 => Framed s o t1 [] 601024 7293034)
def lw_Z (below : List Frame) (a : Array Value) (s : State) : State → Prop := fun t => ∃ o, t.status = .running ∧ Ended t below o ∧ lw_Q a s o t
/-- the law's own end, with 1 on the stack, nothing written that was there before, its room as the claim has it; d0: the record of draws at this point (at the entry s.drawn: begin with 'refine W.base ?_' and 'have hd0 := Drawn.sameBut.refl s.drawn lw_cs') -/
theorem lw_ret {p : Program} {l : Launch} {e : Env} {s : State} {m : MethodId} {below : List Frame} {meth : Method} {c : Code} {b : Nat} {d0 : Drawn} (hd0 : s.drawn.sameBut d0 lw_cs) (hx : p.tables.exec = Jvm.exec) (hb : c.code = code) (hr : meth.sig.returnType = ret) (hlocks : meth.locks = false) {pc : Nat} {H : Heap} {ls : Array Slot} (hdg : decode code pc = .ok (.ireturn, 1)) : W p l e room_1 (s.setDrawn d0) m #[Value.ref b] below meth c H [] 601024 7293034 (lw_Z below #[Value.ref b] s) (F0 m pc ls [.int 1]) := by
  intro T hT X
  obtain ⟨fs, hret, hrun, hended, hW, hframe⟩ := X.leave (v := some (.int 1)) (hlocks := hlocks) (fun h => by rw [hr] at h; cases h)
  have hmeth' : T.vm.method? m = some meth := X.method'
  refine ⟨T.setFrames fs, ?_, .returned (some (.int 1)), hrun, hended, rfl, lw_closed hd0 ⟨_, rfl⟩ hW hframe⟩
  jvm_step X.here [X.here.top, hx, hb, hdg, hmeth', hr, ret, narrow_b1]
  (try refine ⟨rfl, ?_⟩); (try refine ⟨rfl, ?_⟩)
  first | (intro acts; rw [hret _ acts rfl rfl rfl]) | rw [hret _ _ rfl rfl rfl]
  exact Steps.refl _
/-- what holds at the law's entry: the machine, the code, the tables' words (any of lw_tbl by 'hts w (by decide +kernel)'), the script of L ints xs at the cell b, what the Statement gives of the start (any of its parts by flat_of_before) -/
def lw_At (p : Program) (s : State) (m : MethodId) (meth : Method) (c : Code) (b L : Nat) (xs : Nat → Int32) : Prop :=
  p.tables.exec = Jvm.exec ∧ c.code = code ∧ meth.sig.returnType = ret ∧ c.maxLocals = 9 ∧ s.vm.findClass R_law = some m.cls ∧ (∀ w ∈ lw_tbl, w.before #[Value.ref b] s = true) ∧ va_X b L xs s s.heap ∧ b < s.heap.size ∧ meth.locks = false ∧ (Jvm.Cond.and given_1 narrow_1).before #[Value.ref b] s = true ∧ meth.name = x.name ∧ c.exceptionTable.toList = []
theorem hd_w {w : Cond} {i : Nat} (h : tables_1[i]? = some w) : w ∈ lw_tbl := List.mem_append_right _ (List.mem_of_getElem? h)
theorem hw_c0 : Cond.instantiable RX0 10 ∈ lw_tbl := hd_w (i := 184) (by decide +kernel)
theorem hw_c1 : Cond.instantiable RX1 3 ∈ lw_tbl := hd_w (i := 131) (by decide +kernel)
theorem hw_c2 : Cond.instantiable RX2 2 ∈ lw_tbl := hd_w (i := 148) (by decide +kernel)
theorem hw_c3 : Cond.instantiable RX3 12 ∈ lw_tbl := hd_w (i := 81) (by decide +kernel)
theorem hw_c4 : Cond.instantiable RX4 8 ∈ lw_tbl := hd_w (i := 32) (by decide +kernel)
theorem hw_c5 : Cond.instantiable RX5 8 ∈ lw_tbl := hd_w (i := 138) (by decide +kernel)
theorem hw_c6 : Cond.instantiable RX6 3 ∈ lw_tbl := hd_w (i := 162) (by decide +kernel)
theorem hw_c7 : Cond.instantiable RX7 2 ∈ lw_tbl := hd_w (i := 66) (by decide +kernel)
theorem hw_c8 : Cond.instantiable RX8 9 ∈ lw_tbl := hd_w (i := 24) (by decide +kernel)
theorem hw_c9 : Cond.instantiable RX9 32 ∈ lw_tbl := hd_w (i := 1087) (by decide +kernel)
theorem hw_a0 : Cond.arrayClass .int ∈ lw_tbl := hd_w (i := 64) (by decide +kernel)
theorem hw_a1 : Cond.arrayClass .long ∈ lw_tbl := hd_w (i := 128) (by decide +kernel)
theorem hw_a2 : Cond.arrayClass .boolean ∈ lw_tbl := hd_w (i := 129) (by decide +kernel)
theorem hw_a3 : Cond.arrayOver (.object RX0) ∈ lw_tbl := hd_w (i := 146) (by decide +kernel)
theorem hw_a4 : Cond.arrayOver (.object RX5) ∈ lw_tbl := hd_w (i := 137) (by decide +kernel)
theorem hw_a5 : Cond.arrayOver (.object RX6) ∈ lw_tbl := hd_w (i := 144) (by decide +kernel)
theorem hw_r0 : Cond.stringRef "SeasonTiers$Reader" 53 "cycle" ∈ lw_tbl := hd_w (i := 355) (by decide +kernel)
theorem hw_m0 : Cond.stringRef "SeasonTiersModel" 199 "cycle" ∈ lw_tbl := hd_w (i := 1260) (by decide +kernel)
theorem hw_r1 : Cond.stringRef "SeasonTiers$Reader" 63 "rate" ∈ lw_tbl := hd_w (i := 432) (by decide +kernel)
theorem hw_m1 : Cond.stringRef "SeasonTiersModel" 201 "rate" ∈ lw_tbl := hd_w (i := 1279) (by decide +kernel)
theorem hw_r2 : Cond.stringRef "SeasonTiers$Reader" 76 "tier" ∈ lw_tbl := hd_w (i := 442) (by decide +kernel)
theorem hw_m2 : Cond.stringRef "SeasonTiersModel" 157 "tier" ∈ lw_tbl := hd_w (i := 1292) (by decide +kernel)
theorem hw_r3 : Cond.stringRef "SeasonTiers$Reader" 121 "file" ∈ lw_tbl := hd_w (i := 472) (by decide +kernel)
theorem hw_m3 : Cond.stringRef "SeasonTiersModel" 206 "file" ∈ lw_tbl := hd_w (i := 1306) (by decide +kernel)
theorem hw_r4 : Cond.stringRef "SeasonTiers$Reader" 126 "on" ∈ lw_tbl := hd_w (i := 477) (by decide +kernel)
theorem hw_m4 : Cond.stringRef "SeasonTiersModel" 186 "on" ∈ lw_tbl := hd_w (i := 1324) (by decide +kernel)
theorem hw_r5 : Cond.stringRef "SeasonTiers$Reader" 131 "pin" ∈ lw_tbl := hd_w (i := 486) (by decide +kernel)
theorem hw_m5 : Cond.stringRef "SeasonTiersModel" 191 "pin" ∈ lw_tbl := hd_w (i := 1341) (by decide +kernel)
theorem hw_s0 : Cond.laysStatic "java/lang/String" "COMPACT_STRINGS" "Z" ∈ lw_tbl := hd_w (i := 381) (by decide +kernel)
theorem hw_s1 : Cond.laysStatic "java/lang/Throwable" "UNASSIGNED_STACK" "[Ljava/lang/StackTraceElement;" ∈ lw_tbl := hd_w (i := 673) (by decide +kernel)
theorem hw_s2 : Cond.laysStatic "java/lang/Throwable" "SUPPRESSED_SENTINEL" "Ljava/util/List;" ∈ lw_tbl := hd_w (i := 675) (by decide +kernel)
theorem hw_s3 : Cond.laysStatic "jdk/internal/util/Preconditions" "SIOOBE_FORMATTER" "Ljava/util/function/BiFunction;" ∈ lw_tbl := hd_w (i := 397) (by decide +kernel)
theorem hw_i0 : Cond.initialized "java/lang/String" ∈ lw_tbl := hd_w (i := 15) (by decide +kernel)
theorem hw_i1 : Cond.initialized "java/lang/Throwable" ∈ lw_tbl := hd_w (i := 11) (by decide +kernel)
theorem hw_i2 : Cond.initialized "jdk/internal/util/Preconditions" ∈ lw_tbl := hd_w (i := 17) (by decide +kernel)
theorem hd_eqr {args : Array Value} {s : State} {t t' : Term} {a : Nat} (h : (Cond.eq t t').before args s = true) (ht : t.eval args s none [] s = some (.ref a)) : t'.eval args s none [] s = some (.ref a) := by
  cases hv : t'.eval args s none [] s with
  | none => simp [Cond.before, Cond.holds, Cond.value, ht, hv] at h
  | some w =>
    simp only [Cond.before, Cond.holds, Cond.value, ht, hv] at h
    cases w <;> simp_all
theorem hd_nw {args : Array Value} {s : State} (hts : ∀ w ∈ lw_tbl, w.before args s = true) : ∀ w ∈ zNW, va_Nw w s := by
  intro w hw
  have hm := List.mem_filter.mp hw
  have hb := hts w hm.1
  have hk := hm.2
  cases w with
  | methodLinkNest _ _ _ _ => exact va_Nw.of rfl hb
  | castable _ _ => exact va_Nw.of rfl hb
  | declares _ => exact va_Nw.of rfl hb
  | arrayOver ty =>
    cases ty with
    | object C => exact va_AO.of hb
    | _ => cases hk
  | _ => cases hk
/-- the literals' terms -/
def hd_tm (i : Nat) : Term := .string "SeasonTiers$Reader" ([53, 63, 76, 121, 126, 131].getD i 0)
theorem hd_S {b : Addr} {s : State} {A : Nat → Prop} (hq : ∀ q ∈ flatC (Jvm.Cond.and given_1 narrow_1), q.before #[Value.ref b] s = true) (hA : ∀ a : Nat, a < s.heap.size → ¬ A a) : ∃ adK adV : Nat → Nat, vk_S 6 zLl zLb adK adV A s s.heap ∧ ∀ i : Nat, i < 6 → (hd_tm i).eval #[Value.ref b] s none [] s = some (.ref (adK i)) := by
  refine vk_Sof (fun i hi => ?_) (fun i hi => ?_) (fun i hi => ?_) (fun i hi => ?_) (fun i hi => ?_) (fun i hi j hj => ?_) (fun i j hi hj hij => ?_) hA
  · rcases (show i = 0 ∨ i = 1 ∨ i = 2 ∨ i = 3 ∨ i = 4 ∨ i = 5 by omega) with rfl | rfl | rfl | rfl | rfl | rfl <;> decide
  · rcases (show i = 0 ∨ i = 1 ∨ i = 2 ∨ i = 3 ∨ i = 4 ∨ i = 5 by omega) with rfl | rfl | rfl | rfl | rfl | rfl <;> exact hq _ (by decide +kernel)
  · rcases (show i = 0 ∨ i = 1 ∨ i = 2 ∨ i = 3 ∨ i = 4 ∨ i = 5 by omega) with rfl | rfl | rfl | rfl | rfl | rfl <;> exact hq _ (by decide +kernel)
  · rcases (show i = 0 ∨ i = 1 ∨ i = 2 ∨ i = 3 ∨ i = 4 ∨ i = 5 by omega) with rfl | rfl | rfl | rfl | rfl | rfl <;> exact hq _ (by decide +kernel)
  · rcases (show i = 0 ∨ i = 1 ∨ i = 2 ∨ i = 3 ∨ i = 4 ∨ i = 5 by omega) with rfl | rfl | rfl | rfl | rfl | rfl <;> exact hq _ (by decide +kernel)
  · rcases (show i = 0 ∨ i = 1 ∨ i = 2 ∨ i = 3 ∨ i = 4 ∨ i = 5 by omega) with rfl | rfl | rfl | rfl | rfl | rfl
    · have hj' : j < 5 := hj
      rcases (show j = 0 ∨ j = 1 ∨ j = 2 ∨ j = 3 ∨ j = 4 by omega) with rfl | rfl | rfl | rfl | rfl <;> exact hq _ (by decide +kernel)
    · have hj' : j < 4 := hj
      rcases (show j = 0 ∨ j = 1 ∨ j = 2 ∨ j = 3 by omega) with rfl | rfl | rfl | rfl <;> exact hq _ (by decide +kernel)
    · have hj' : j < 4 := hj
      rcases (show j = 0 ∨ j = 1 ∨ j = 2 ∨ j = 3 by omega) with rfl | rfl | rfl | rfl <;> exact hq _ (by decide +kernel)
    · have hj' : j < 4 := hj
      rcases (show j = 0 ∨ j = 1 ∨ j = 2 ∨ j = 3 by omega) with rfl | rfl | rfl | rfl <;> exact hq _ (by decide +kernel)
    · have hj' : j < 2 := hj
      rcases (show j = 0 ∨ j = 1 by omega) with rfl | rfl <;> exact hq _ (by decide +kernel)
    · have hj' : j < 3 := hj
      rcases (show j = 0 ∨ j = 1 ∨ j = 2 by omega) with rfl | rfl | rfl <;> exact hq _ (by decide +kernel)
  · rcases (show i = 0 ∨ i = 1 ∨ i = 2 ∨ i = 3 ∨ i = 4 ∨ i = 5 by omega) with rfl | rfl | rfl | rfl | rfl | rfl <;> rcases (show j = 0 ∨ j = 1 ∨ j = 2 ∨ j = 3 ∨ j = 4 ∨ j = 5 by omega) with rfl | rfl | rfl | rfl | rfl | rfl <;> first | exact absurd rfl hij | exact Or.inl (hq _ (by decide +kernel)) | exact Or.inr (hq _ (by decide +kernel))
theorem hd_R {b : Addr} {s : State} {adK : Nat → Nat} (hts : ∀ w ∈ lw_tbl, w.before #[Value.ref b] s = true) (hq : ∀ q ∈ flatC (Jvm.Cond.and given_1 narrow_1), q.before #[Value.ref b] s = true) (hK : ∀ i : Nat, i < 6 → (hd_tm i).eval #[Value.ref b] s none [] s = some (.ref (adK i))) : ∀ q ∈ zLR, vk_R q.1 q.2.1 q.2.2.1 (adK q.2.2.2) s := by
  intro q hz
  unfold zLR at hz
  simp only [List.mem_cons, List.not_mem_nil, or_false] at hz
  rcases hz with rfl | rfl | rfl | rfl | rfl | rfl | rfl | rfl | rfl | rfl | rfl | rfl
  · exact vk_R.of (hts _ hw_r0) (hK 0 (by decide))
  · exact vk_R.of (hts _ hw_r1) (hK 1 (by decide))
  · exact vk_R.of (hts _ hw_r2) (hK 2 (by decide))
  · exact vk_R.of (hts _ hw_r3) (hK 3 (by decide))
  · exact vk_R.of (hts _ hw_r4) (hK 4 (by decide))
  · exact vk_R.of (hts _ hw_r5) (hK 5 (by decide))
  · exact vk_R.of (hts _ hw_m0) (hd_eqr (t := hd_tm 0) (hq _ (by decide +kernel)) (hK 0 (by decide)))
  · exact vk_R.of (hts _ hw_m1) (hd_eqr (t := hd_tm 1) (hq _ (by decide +kernel)) (hK 1 (by decide)))
  · exact vk_R.of (hts _ hw_m2) (hd_eqr (t := hd_tm 2) (hq _ (by decide +kernel)) (hK 2 (by decide)))
  · exact vk_R.of (hts _ hw_m3) (hd_eqr (t := hd_tm 3) (hq _ (by decide +kernel)) (hK 3 (by decide)))
  · exact vk_R.of (hts _ hw_m4) (hd_eqr (t := hd_tm 4) (hq _ (by decide +kernel)) (hK 4 (by decide)))
  · exact vk_R.of (hts _ hw_m5) (hd_eqr (t := hd_tm 5) (hq _ (by decide +kernel)) (hK 5 (by decide)))
theorem hd_K {args : Array Value} {s : State} (hts : ∀ w ∈ lw_tbl, w.before args s = true) : ∃ (dC : Nat → ClassId) (dI : Nat → Nat → Nat), ∀ (k : Nat) (q : vw_C), vwCl[k]? = some q → u_Kn s q.1 q.2.1 q.2.2 (dC k) (dI k) := by
  obtain ⟨c0, i0, k0⟩ := u_known (C := RX0) (T := TX0) (N := 10) (n := 10) hts (fun w hw => (zGW_in (uw_0 w hw)).1) (hts _ hw_c0)
  obtain ⟨c1, i1, k1⟩ := u_known (C := RX1) (T := TX1) (N := 3) (n := 3) hts (fun w hw => (zGW_in (uw_1 w hw)).1) (hts _ hw_c1)
  obtain ⟨c2, i2, k2⟩ := u_known (C := RX2) (T := TX2) (N := 2) (n := 2) hts (fun w hw => (zGW_in (uw_2 w hw)).1) (hts _ hw_c2)
  obtain ⟨c3, i3, k3⟩ := u_known (C := RX3) (T := TX3) (N := 12) (n := 12) hts (fun w hw => (zGW_in (uw_3 w hw)).1) (hts _ hw_c3)
  obtain ⟨c4, i4, k4⟩ := u_known (C := RX4) (T := TX4) (N := 8) (n := 8) hts (fun w hw => (zGW_in (uw_4 w hw)).1) (hts _ hw_c4)
  obtain ⟨c5, i5, k5⟩ := u_known (C := RX5) (T := TX5) (N := 8) (n := 8) hts (fun w hw => (zGW_in (uw_5 w hw)).1) (hts _ hw_c5)
  obtain ⟨c6, i6, k6⟩ := u_known (C := RX6) (T := TX6) (N := 3) (n := 3) hts (fun w hw => (zGW_in (uw_6 w hw)).1) (hts _ hw_c6)
  obtain ⟨c7, i7, k7⟩ := u_known (C := RX7) (T := TX7) (N := 2) (n := 2) hts (fun w hw => (zGW_in (uw_7 w hw)).1) (hts _ hw_c7)
  obtain ⟨c8, i8, k8⟩ := u_known (C := RX8) (T := TX8) (N := 9) (n := 9) hts (fun w hw => (zGW_in (uw_8 w hw)).1) (hts _ hw_c8)
  obtain ⟨c9, i9, k9⟩ := u_known (C := RX9) (T := TX9) (N := 32) (n := 32) hts (fun w hw => (zGW_in (uw_9 w hw)).1) (hts _ hw_c9)
  refine ⟨fun k => if k = 0 then c0 else if k = 1 then c1 else if k = 2 then c2 else if k = 3 then c3 else if k = 4 then c4 else if k = 5 then c5 else if k = 6 then c6 else if k = 7 then c7 else if k = 8 then c8 else c9, fun k => if k = 0 then i0 else if k = 1 then i1 else if k = 2 then i2 else if k = 3 then i3 else if k = 4 then i4 else if k = 5 then i5 else if k = 6 then i6 else if k = 7 then i7 else if k = 8 then i8 else i9, ?_⟩
  intro k q hq
  match k, hq with
  | 0, hq => cases hq; exact k0
  | 1, hq => cases hq; exact k1
  | 2, hq => cases hq; exact k2
  | 3, hq => cases hq; exact k3
  | 4, hq => cases hq; exact k4
  | 5, hq => cases hq; exact k5
  | 6, hq => cases hq; exact k6
  | 7, hq => cases hq; exact k7
  | 8, hq => cases hq; exact k8
  | 9, hq => cases hq; exact k9
  | k + 10, hq => simp [vwCl] at hq
theorem hd_A {args : Array Value} {s : State} (hts : ∀ w ∈ lw_tbl, w.before args s = true) : ∃ cA : Nat → ClassId, ∀ (k : Nat) (q : ClassId × FieldType), ([(cA 0, .int), (cA 1, .long), (cA 2, .boolean), (cA 3, .object RX0), (cA 4, .object RX5), (cA 5, .object RX6)] : List (ClassId × FieldType))[k]? = some q → ArrOfT s q.1 q.2 ∧ va_RA s q.1 q.2 := by
  obtain ⟨c0, k0, m0, f0, g0, h0⟩ := Cond.arrayClass_spec (hts _ hw_a0)
  obtain ⟨c1, k1, m1, f1, g1, h1⟩ := Cond.arrayClass_spec (hts _ hw_a1)
  obtain ⟨c2, k2, m2, f2, g2, h2⟩ := Cond.arrayClass_spec (hts _ hw_a2)
  obtain ⟨m3, c3, k3, e3, -, g3, h3, f3⟩ := Cond.arrayOver_spec (hts _ hw_a3)
  obtain ⟨m4, c4, k4, e4, -, g4, h4, f4⟩ := Cond.arrayOver_spec (hts _ hw_a4)
  obtain ⟨m5, c5, k5, e5, -, g5, h5, f5⟩ := Cond.arrayOver_spec (hts _ hw_a5)
  refine ⟨fun k => if k = 0 then c0 else if k = 1 then c1 else if k = 2 then c2 else if k = 3 then c3 else if k = 4 then c4 else c5, ?_⟩
  intro k q hq
  match k, hq with
  | 0, hq => cases hq; exact ⟨fun N z => ⟨(fun k h => by cases h), k0, g0, m0, h0⟩, f0⟩
  | 1, hq => cases hq; exact ⟨fun N z => ⟨(fun k h => by cases h), k1, g1, m1, h1⟩, f1⟩
  | 2, hq => cases hq; exact ⟨fun N z => ⟨(fun k h => by cases h), k2, g2, m2, h2⟩, f2⟩
  | 3, hq => cases hq; exact ⟨fun N z => ⟨(fun k h => by cases h), k3, g3, m3, h3⟩, k3, m3, g3, h3, e3, f3⟩
  | 4, hq => cases hq; exact ⟨fun N z => ⟨(fun k h => by cases h), k4, g4, m4, h4⟩, k4, m4, g4, h4, e4, f4⟩
  | 5, hq => cases hq; exact ⟨fun N z => ⟨(fun k h => by cases h), k5, g5, m5, h5⟩, k5, m5, g5, h5, e5, f5⟩
  | k + 6, hq => simp at hq
/-- the empty world -/
def hd_M : zMem := (fun _ _ => 0, fun _ _ => 0, fun _ _ => none, fun _ => 0, fun _ => 0, 0, 0)
theorem whole_start {p : Program} {e : Env} {s : State} {m : MethodId} {below : List Frame} {meth : Method} {c : Code} (l : Launch) (hflags : l.flags = flags0) {b L : Nat} {xs : Nat → Int32} (hL : L ≤ 3072) (C0 : lw_At p s m meth c b L xs) : W p l e room_1 s m #[Value.ref b] below meth c s.heap [] 0 0 (lw_Z below #[Value.ref b] s) (entryFrame m ([Value.ref b] : List Value).toArray 9) := by
  obtain ⟨hx, hb, hr, hml, hown, hts, hX, hbl, hlocks, hgv, hnm, htab⟩ := id C0
  have hl : l.stackTraces = false := by
    unfold Launch.stackTraces
    rw [hflags]
    decide
  have hq := flat_of_before _ hgv
  have hA : ∀ a : Nat, a < s.heap.size → ¬ (fun q : Nat => s.heap.size ≤ q) a := fun a h1 h2 => by
    have h3 : s.heap.size ≤ a := h2
    omega
  obtain ⟨adK, adV, hS, hK⟩ := hd_S (A := fun q : Nat => s.heap.size ≤ q) hq hA
  obtain ⟨dC, dI, hKc⟩ := hd_K hts
  obtain ⟨cA, hKa⟩ := hd_A hts
  have z1 := vx_Zqof (A := fun q : Nat => s.heap.size ≤ q) (hts _ hw_s1) (hts _ hw_i1) (hq _ (by decide +kernel)) hA
  have z2 := vx_Zqof (A := fun q : Nat => s.heap.size ≤ q) (hts _ hw_s2) (hts _ hw_i1) (hq _ (by decide +kernel)) hA
  have z0 := va_Zof (v := .int 1) (A := fun q : Nat => s.heap.size ≤ q) (hts _ hw_s0) (hts _ hw_i0) (va_eqi (hq _ (by decide +kernel))) hA
  have z3 := va_Zqof (A := fun q : Nat => s.heap.size ≤ q) (hts _ hw_s3) (hts _ hw_i2) (hq _ (by decide +kernel)) hA
  obtain ⟨t6, h6⟩ : ∃ t6 : Nat, va_Z "jdk/internal/util/Preconditions" "SIOOBE_FORMATTER" "Ljava/util/function/BiFunction;" .null (fun q : Nat => s.heap.size ≤ q) s s.heap ∨ va_Z "jdk/internal/util/Preconditions" "SIOOBE_FORMATTER" "Ljava/util/function/BiFunction;" (.ref t6) (fun q : Nat => s.heap.size ≤ q) s s.heap := by
    rcases z3 with h | ⟨t, h⟩
    · exact ⟨0, Or.inl h⟩
    · exact ⟨t, Or.inr h⟩
  have hS' : vk_S 6 zLl zLb adK (fun k => if k = 6 then t6 else adV k) (fun q : Nat => s.heap.size ≤ q) s s.heap := ⟨fun i hi => by
    have e : (if i = 6 then t6 else adV i) = adV i := if_neg (by omega)
    show _ ∧ _ ∧ va_OF "java/lang/String" "value" "[B" (.ref (if i = 6 then t6 else adV i)) (adK i) _ s s.heap ∧ va_T .byte (if i = 6 then t6 else adV i) _ _ _ s s.heap
    rw [e]
    exact hS.1 i hi, hS.2⟩
  have hNc : ∀ x x' : Nat, x < 3 → x' < 3 → x ≠ x' → va_Nc (zXn x) (zXn x') s := by
    intro x x' h1 h2 hne
    rcases (show x = 0 ∨ x = 1 ∨ x = 2 by omega) with rfl | rfl | rfl <;> rcases (show x' = 0 ∨ x' = 1 ∨ x' = 2 by omega) with rfl | rfl | rfl <;> first | exact absurd rfl hne | exact va_Nc.of (hq _ (by decide +kernel))
  obtain ⟨G, hG⟩ : ∃ G : zG, G = (s.heap.size, (dC, dI), cA, (b, L, xs), adK, fun k => if k = 6 then t6 else adV k) := ⟨_, rfl⟩
  have hCx : zCx G s s.heap := by
    rw [hG]
    exact ⟨⟨hKc, hKa⟩, hd_nw hts, hd_R hts hq hK, hS', hX, hbl, Nat.le_refl _, z1, z2, z0, h6, hNc⟩
  have gb : gB G = s.heap.size := by rw [hG]
  have gx : gX G = (b, L, xs) := by rw [hG]
  have F : zFix l G mL_law 13 478 p room_1 s m #[Value.ref b] meth c := ⟨hx, hb, hml, hown, fun w hw => hts w (zGW_in hw).1, hlocks, hr, hnm, hl, by decide, by decide, htab, hCx⟩
  have hW : zWd G hd_M s s.heap [] 0 := ⟨⟨fun _ _ => rfl, by show 0 ≤ 1000000; omega⟩, fun k q h => by simp [zW, hd_M, zT] at h, va_S.rf, fun _ => by rw [gb]; show s.heap.size + 0 ≤ s.heap.size + 0; omega⟩
  have hla := lv_entry ([.ref b]) (n := 9) (Nat.le_of_ble_eq_true rfl)
  rw [lg_entry_eq]
  generalize (lg_sl ([.ref b]) ++ List.replicate (9 - (lg_sl ([.ref b])).length) Slot.unset).toArray = la at hla ⊢
  have hl0 : lv_has la 9 (zll G [some (.ref 2000000), none, none, none, none, none, none, none, none]) := by
    show lv_has la 9 [(0, .ref (zad G 2000000))]
    rw [zad_X, gx]
    exact hla
  refine w_L_law (G := G) hl (by rw [gx]; exact hL) (M := hd_M) rfl rfl (Q := fun o _ => o = .inl (some (.int 1))) (fun _ _ => rfl) p e room_1 s m #[Value.ref b] below meth c s.heap [] 0 0 (lw_Z below #[Value.ref b] s) la F (Nat.le_of_ble_eq_true rfl) (Nat.le_of_ble_eq_true rfl) hW hl0 ⟨?_, ?_, ?_⟩
  · intro v M' hv H locs cells slots pc la' hc hs hW' hz
    cases hv
    refine W.widen (k := 601024) (n := 7293034) hc hs ?_
    refine va_forget (fun q hq' => by
      have := hW'.2.2.1.2.2 q hq'
      unfold zA at this
      rw [gb] at this
      exact this) ?_
    exact lw_ret (Drawn.sameBut.refl s.drawn lw_cs) hx hb hr hlocks hz.1
  · intro x M' hv
    cases hv
  · intro x M' hv
    cases hv

set_option maxHeartbeats 4000000 in
theorem lw_walk (l : Launch) (hflags : l.flags = flags0) (b : Addr) (xs : List Int32) : MetFree l x (headSpec (Jvm.Cond.code x code maxLocals ret :: tables_1) room_1) (lw_P b xs) (fun _ _ _ _ _ => True) lw_Q := by
  refine MetFree.of_bodyS (code := code) (maxLocals := maxLocals) (ret := ret) (by decide) ?_ ?_
  · intro args s m h hn
    obtain ⟨meth, c, h1, h2, h3, h4, h5, h6, -, -⟩ := Cond.code_spec hn (atoms_spec (ws := Jvm.Cond.code x code maxLocals ret :: tables_1) h _ List.mem_cons_self)
    exact ⟨meth, c, h1, h2, h3, h4, h5, h6⟩
  · intro p e s m args below meth c s₁ B hml0 hP _
    obtain ⟨rfl, hx, hbd, hgv⟩ := hP
    obtain ⟨scr, harrAt, hlist, hof, hsmall⟩ := hx
    obtain ⟨hcb, hkn, -, -⟩ := State.arrayAt?_spec harrAt
    have hown : s.vm.findClass R_law = some m.cls := findClass_of_methodNamed B.named
    have hts0 : ∀ c ∈ (Jvm.Cond.code x code maxLocals ret :: tables_1), c.before #[Value.ref b] s = true := atoms_spec (ws := Jvm.Cond.code x code maxLocals ret :: tables_1) B.pre
    have hts : ∀ w ∈ lw_tbl, w.before #[Value.ref b] s = true := k2_hts_sels lw_privs (fun w hw => hts0 w (List.mem_cons_of_mem _ hw)) lw_privs_ok
    have hml : c.maxLocals = 9 := B.maxLocals_eq (hts0 _ List.mem_cons_self)
    have htab : c.exceptionTable.toList = [] := by
      obtain ⟨meth9, c9, h1, h2, -, -, -, -, h7, -⟩ := Cond.code_spec B.named (hts0 _ List.mem_cons_self)
      cases Option.some.inj (h1.symm.trans B.method)
      cases Option.some.inj (h2.symm.trans (Stand.of_body B).code)
      rw [Array.isEmpty_iff.mp h7]
    have X₀ : Stand p l e room_1 s m #[Value.ref b] below meth c s₁ [] 0 0 := Stand.of_body B
    have hh0 : s₁.heap = s.heap := by rw [B.state]; rfl
    have hsz : scr.slots.size = xs.length := by rw [← Array.length_toList, hlist, List.length_map]
    have hval : ∀ j : Nat, j < xs.length → scr.slots[j]? = some (.int (xs.getD j 0)) := fun j hj => by
      rw [← Array.getElem?_toList, hlist]
      simp [hj]
    have hbl : b < s.heap.size := (Array.getElem?_eq_some_iff.mp hcb).1
    have hX : va_X b xs.length (fun j => xs.getD j 0) s s.heap := ⟨scr, hcb, hof, hkn, hsz, hval⟩
    have K : W p l e room_1 s m #[Value.ref b] below meth c s₁.heap [] 0 0 (lw_Z below #[Value.ref b] s) (entryFrame m ([Value.ref b] : List Value).toArray 9) := by
      rw [hh0]
      exact whole_start l hflags hbd ⟨B.exec, B.bytes, B.returns, hml, hown, hts, hX, hbl, B.notSynchronized, hgv, (name_of_methodNamed B.named B.method).1, htab⟩
    obtain ⟨t, a1, o, b1, b2, b3⟩ := K s₁ rfl X₀
    exact ⟨t, o, a1, b1, b2, b3⟩
theorem lw_pre_spec {args : Array Value} {s : State} (h : (Jvm.Cond.and given_1 narrow_1).before args s = true) (hr : rest_1_c.before args s = true) : ∃ (b : Addr) (xs : List Int32), lw_P b xs args s := by
  have hs := flat_of_before _ h
  have hq := flat_of_before _ hr
  have hc : (Cond.count 1).before args s = true := hs _ (by decide +kernel)
  have harr : (Cond.arrayOf (.arg 0) .int).before args s = true := hs _ (by decide +kernel)
  have hle : (Cond.le (.length (.arg 0)) (.int 3072)).before args s = true := hs _ (by decide +kernel)
  have hlen : (Cond.isInt (.length (.arg 0))).before args s = true := hq _ (by decide +kernel)
  have hall : (Cond.all (.arg 0) (.isInt (.elem (.arg 0) (.index 0)))).before args s = true := hq _ (by decide +kernel)
  obtain ⟨b, xs, hb, hx⟩ := State.ints_of_pre rfl harr hlen hall
  have hsm : xs.length < 2 ^ 31 := hx.choose_spec.2.2.2
  have hev : (Term.length (.arg 0)).eval args s none [] s = some (.int xs.length.toInt32) := hx.length_eval hb
  have hv := Cond.le_ints hev (show (Term.int 3072).eval args s none [] s = some (.int 3072) from rfl)
  have hd : xs.length.toInt32 ≤ 3072 := by
    simpa [Cond.before, Cond.holds, hv] using hle
  have hN : xs.length ≤ 3072 := (Int32.ofNat_le_ofNat hsm (by decide)).mp (show Int32.ofNat xs.length ≤ Int32.ofNat 3072 from hd)
  exact ⟨b, xs, Cond.one_arg hc (show args[0]? = some (.ref b) from hb), hx, hN, h⟩
theorem lw_comes (l : Launch) (hflags : l.flags = flags0) : Comes l x (Jvm.Cond.code x code maxLocals ret :: tables_1) room_1 (fun tb e args s => Calls_1 tb e args s ∧ rest_1 tb e args s ∧ Pre_1 tb e args s)
    (fun _ _ args s o t => lw_Q args s o t) := by
  intro p e ha hc hk s m args below hf hfit hheap happ hpre
  obtain ⟨b, xs, hP⟩ := lw_pre_spec hpre.2.2 hpre.2.1
  obtain ⟨k, o, h1, h2, h3, hQ⟩ := lw_walk l hflags b xs p e ha hc hk s m args below hf ((Spec.applies_iff_loose hf).mp happ).1 hP trivial
  exact ⟨k, o, h1, h2, h3, hQ⟩
theorem lw_frame {s t : State} {o : Outcome} {args : Array Value} (h : State.butDraws s t lw_cs (fun t1 => Framed s o t1 [] 601024 7293034)) :
    State.butDraws s t [Jvm.Choice.named "NaN.bits"] (fun t1 => Framed s o t1 (fieldLocs frame_1_writes args s ++ arrayLocs frame_1_arrays args s ++ staticLocs frame_1_statics s) 601024 7293034) := h
theorem lw_limb (L : Cond) (hL : ∀ (args : Array Value) (s t : State), L.after args s (.returned (some (.int 1))) t = true) :
    ArmFor flags0 classFile x code maxLocals ret World_1 tables_1 room_1 Calls_1 rest_1 Pre_1
      (fun tb e a s o t => postC L tb e a s o t ∧ State.butDraws s t [Jvm.Choice.named "NaN.bits"] (fun t1 => Framed s o t1 (fieldLocs frame_1_writes a s ++ arrayLocs frame_1_arrays a s ++ staticLocs frame_1_statics s) 601024 7293034)) := by
  intro l hflags _ _ p e ha hc hk s m args below hf hfit hheap happ hpre
  obtain ⟨k, o, h1, h2, h3, rfl, hF⟩ := lw_comes l hflags p e ha hc hk s m args below hf hfit hheap happ hpre
  exact ⟨k, _, h1, h2, h3, hL args s _, lw_frame hF⟩
theorem i_vc : Claimed_1_1 ∧ Claimed_1_2 := ⟨lw_limb limb_1_1 (fun args s t => by simp [limb_1_1, Cond.after, Cond.holds, Cond.value]), lw_limb limb_1_2 (fun args s t => Cond.after_iff.mpr (by
  first | (rw [show limb_1_2 = Cond.eq .result (.int 1) from rfl, Cond.eq_ints (x := 1) (y := 1) rfl rfl]; simp; done) | (simp [limb_1_2, Cond.value, Term.eval]; done)))⟩
