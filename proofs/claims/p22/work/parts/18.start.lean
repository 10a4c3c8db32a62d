-- ===== end of PART A; then your names; then what follows =====
/-! THE CLAIM OUT OF ONE WALK OF THE LAW'S BODY. Your part is whole_start (and what it stands on); all else here is the same for every law, but numbers. -/
def R_law : String := "MissingLampsLaw"
def lw_P (b : Addr) (xs : List Int32) (args : Array Value) (s : State) : Prop := args = #[.ref b] ∧ s.IntsAt b xs ∧ xs.length ≤ 3072 ∧ (Jvm.Cond.and given_1 narrow_1).before args s = true
def lw_Q (_ : Array Value) (s : State) (o : Outcome) (t : State) : Prop := o = .returned (some (.int 1)) ∧ Framed s o t [] 600000 7302250
def lw_Z (below : List Frame) (a : Array Value) (s : State) : State → Prop := fun t => ∃ o, t.status = .running ∧ Ended t below o ∧ lw_Q a s o t
/-- the law's own end, with 1 on the stack, nothing written that was there before, its room as the claim has it -/
theorem lw_ret {p : Program} {l : Launch} {e : Env} {s : State} {m : MethodId} {below : List Frame} {meth : Method} {c : Code} {b : Nat} (hx : p.tables.exec = Jvm.exec) (hb : c.code = code) (hr : meth.sig.returnType = ret) (hlocks : meth.locks = false) {pc : Nat} {H : Heap} {ls : Array Slot} (hdg : decode code pc = .ok (.ireturn, 1)) : W p l e room_1 s m #[Value.ref b] below meth c H [] 600000 7302250 (lw_Z below #[Value.ref b] s) (F0 m pc ls [.int 1]) := by
  intro T hT X
  obtain ⟨fs, hret, hrun, hended, hW, hframe⟩ := X.leave (v := some (.int 1)) (hlocks := hlocks) (fun h => by rw [hr] at h; cases h)
  have hmeth' : T.vm.method? m = some meth := X.method'
  refine ⟨T.setFrames fs, ?_, .returned (some (.int 1)), hrun, hended, rfl, ⟨_, rfl⟩, hW, hframe⟩
  jvm_step X.here [X.here.top, hx, hb, hdg, hmeth', hr, ret, narrow_b1]
  (try refine ⟨rfl, ?_⟩); (try refine ⟨rfl, ?_⟩)
  first | (intro acts; rw [hret _ acts rfl rfl rfl]) | rw [hret _ _ rfl rfl rfl]
  exact Steps.refl _
/-- what holds at the law's entry: the machine, the code, the tables' words (any of lw_tbl by 'hts w (by decide +kernel)'), the script of L ints xs at the cell b, what the Statement gives of the start (any of its parts by flat_of_before) -/
def lw_At (p : Program) (s : State) (m : MethodId) (meth : Method) (c : Code) (b L : Nat) (xs : Nat → Int32) : Prop :=
  p.tables.exec = Jvm.exec ∧ c.code = code ∧ meth.sig.returnType = ret ∧ c.maxLocals = 4 ∧ s.vm.findClass R_law = some m.cls ∧ (∀ w ∈ lw_tbl, w.before #[Value.ref b] s = true) ∧ va_X b L xs s s.heap ∧ b < s.heap.size ∧ meth.locks = false ∧ (Jvm.Cond.and given_1 narrow_1).before #[Value.ref b] s = true

theorem z_nw : ∀ w ∈ znest, (w.onTables = true) ∧ ∀ s U : State, s.WarmedH U.vm → va_Nw w s → va_Nw w U := List.forall_mem_cons.mpr ⟨⟨rfl, fun _ _ hW hZ => va_Nw.warmM hW hZ⟩, List.forall_mem_cons.mpr ⟨⟨rfl, fun _ _ hW hZ => va_Nw.warmM hW hZ⟩, List.forall_mem_cons.mpr ⟨⟨rfl, fun _ _ hW hZ => va_Nw.warmM hW hZ⟩, List.forall_mem_cons.mpr ⟨⟨rfl, fun _ _ hW hZ => va_Nw.warmM hW hZ⟩, List.forall_mem_cons.mpr ⟨⟨rfl, fun _ _ hW hZ => va_Nw.warmM hW hZ⟩, List.forall_mem_cons.mpr ⟨⟨rfl, fun _ _ hW hZ => va_Nw.warmM hW hZ⟩, List.forall_mem_cons.mpr ⟨⟨rfl, fun _ _ hW hZ => va_Nw.warmM hW hZ⟩, List.forall_mem_cons.mpr ⟨⟨rfl, fun _ _ hW hZ => va_Nw.warmM hW hZ⟩, List.forall_mem_cons.mpr ⟨⟨rfl, fun _ _ hW hZ => va_Nw.warmM hW hZ⟩, List.forall_mem_cons.mpr ⟨⟨rfl, fun _ _ hW hZ => va_Nw.warmM hW hZ⟩, List.forall_mem_cons.mpr ⟨⟨rfl, fun _ _ hW hZ => va_Nw.warmM hW hZ⟩, List.forall_mem_cons.mpr ⟨⟨rfl, fun _ _ hW hZ => va_Nw.warmM hW hZ⟩, List.forall_mem_cons.mpr ⟨⟨rfl, fun _ _ hW hZ => va_Nw.warmM hW hZ⟩, List.forall_mem_cons.mpr ⟨⟨rfl, fun _ _ hW hZ => va_Nw.warmM hW hZ⟩, List.forall_mem_cons.mpr ⟨⟨rfl, fun _ _ hW hZ => va_Nw.warmM hW hZ⟩, List.forall_mem_cons.mpr ⟨⟨rfl, fun _ _ hW hZ => va_Nw.warmM hW hZ⟩, fun _ h => absurd h List.not_mem_nil⟩⟩⟩⟩⟩⟩⟩⟩⟩⟩⟩⟩⟩⟩⟩⟩
theorem zex_ok (X : zX) : zExOk zg X := by
  refine ⟨fun U f mk a h => ?_, fun s U hw hq h => ?_⟩
  · obtain ⟨h1, h2, h3, h4, h5, a', b, h6, h7, h8, h9, h10, h11, h12⟩ := h
    have al := Vm.Alike.refl U.vm
    exact ⟨fun w hw => va_Nw.same (u := U) (z_nw w hw).1 rfl (h1 w hw), va_AO.moved (u := U) al h2, va_AO.moved (u := U) al h3, va_Z.moved (u := U) al h4, va_Z.moved (u := U) al h5, a', b, h6, h7, vk_R.same (u := U) rfl h8, va_O.moved (u := U) al h9, va_OF.moved (u := U) al h10, va_OF.moved (u := U) al h11, va_T.moved (u := U) al h12⟩
  · obtain ⟨h1, h2, h3, h4, h5, a', b, h6, h7, h8, h9, h10, h11, h12⟩ := h
    have al := hw.alike
    have hk : ∀ q : Nat, q < s.heap.size → ¬ zH X ≤ q → U.heap[q]? = s.heap[q]? := fun q _ hn => hq q (by omega)
    exact ⟨fun w hw' => (z_nw w hw').2 s U hw (h1 w hw'), va_AO.moved al h2, va_AO.moved al h3, (va_Z.moved al h4).kept hk, (va_Z.moved al h5).kept hk, a', b, h6, h7, vk_R.warm hw h8, (va_O.moved al h9).kept hk, (va_OF.moved al h10).kept hk, (va_OF.moved al h11).kept hk, (va_T.moved al h12).kept hk⟩
theorem zexL_ok (L : Nat) (xs : Nat → Int32) (X : zX) : zExOk (zgL L xs) X := by
  refine ⟨fun U f mk a h => ?_, fun s U hw hq h => ?_⟩
  · obtain ⟨h1, b, h2, h3, h4⟩ := h
    exact ⟨(zex_ok X).1 U f mk a h1, b, h2, h3, va_X.moved (u := U) (Vm.Alike.refl U.vm) h4⟩
  · obtain ⟨h1, b, h2, h3, h4⟩ := h
    exact ⟨(zex_ok X).2 s U hw hq h1, b, h2, h3, (va_X.moved hw.alike h4).kept (hq b h3)⟩
set_option maxRecDepth 100000 in
theorem zel_in : ∀ j, j < 118 → Cond.eq (.elem (.field (Term.string "MissingLamps$Reader" 18) "java/lang/String" "value" "[B") (.int (Int32.ofNat j))) (.int (zxl.getD j 0)) ∈ flatC (Jvm.Cond.and given_1 narrow_1) := by decide +kernel
/-- the start: classes, arrays, the outer facts -/
theorem z_start {s : State} {b L : Nat} {xs : Nat → Int32} (l : Launch) (hts : ∀ w ∈ lw_tbl, w.before #[Value.ref b] s = true) (hX : va_X b L xs s s.heap) (hbl : b < s.heap.size) (hgv : (Jvm.Cond.and given_1 narrow_1).before #[Value.ref b] s = true) :
    ∃ X : zX, zL X = l ∧ zH X = s.heap.size ∧ zx X 3 = some b ∧ va_K (zD X) vwCl (zTy (zK X) 0 ztl) s ∧ zEE X s := by
  have htz : ∀ w ∈ ztb, w.before #[Value.ref b] s = true := fun w h => hts w (List.mem_filter.mp h).1
  have hs := flat_of_before _ hgv
  obtain ⟨c0, iS0, hKn0⟩ := u_known (C := RX0) (T := TX0) (N := 5) (n := 5) htz zinX0 (hts (Cond.instantiable "MissingLamps$Harbour" (5 : Nat)) (List.mem_append_right _ (List.mem_append_right _ (List.mem_append_left _ (List.mem_of_getElem? (i := 154) rfl)))))
  obtain ⟨c1, iS1, hKn1⟩ := u_known (C := RX1) (T := TX1) (N := 4) (n := 4) htz zinX1 (hts (Cond.instantiable "MissingLamps$KeptRows" (4 : Nat)) (List.mem_append_right _ (List.mem_append_right _ (List.mem_append_left _ (List.mem_of_getElem? (i := 105) rfl)))))
  obtain ⟨c2, iS2, hKn2⟩ := u_known (C := RX2) (T := TX2) (N := 4) (n := 4) htz zinX2 (hts (Cond.instantiable "MissingLamps$Past" (4 : Nat)) (List.mem_append_right _ (List.mem_append_right _ (List.mem_append_left _ (List.mem_of_getElem? (i := 128) rfl)))))
  obtain ⟨c3, iS3, hKn3⟩ := u_known (C := RX3) (T := TX3) (N := 13) (n := 13) htz zinX3 (hts (Cond.instantiable "MissingLamps$Planner" (13 : Nat)) (List.mem_append_right _ (List.mem_append_right _ (List.mem_append_left _ (List.mem_of_getElem? (i := 214) rfl)))))
  obtain ⟨c4, iS4, hKn4⟩ := u_known (C := RX4) (T := TX4) (N := 18) (n := 18) htz zinX4 (hts (Cond.instantiable "MissingLamps$Quay" (18 : Nat)) (List.mem_append_right _ (List.mem_append_left _ (List.mem_of_getElem? (i := 31) rfl))))
  obtain ⟨c5, iS5, hKn5⟩ := u_known (C := RX5) (T := TX5) (N := 12) (n := 12) htz zinX5 (hts (Cond.instantiable "MissingLamps$Reader" (12 : Nat)) (List.mem_append_right _ (List.mem_append_left _ (List.mem_of_getElem? (i := 168) rfl))))
  obtain ⟨c6, iS6, hKn6⟩ := u_known (C := RX6) (T := TX6) (N := 7) (n := 7) htz zinX6 (hts (Cond.instantiable "MissingLamps$Reckoner" (7 : Nat)) (List.mem_append_right _ (List.mem_append_right _ (List.mem_append_left _ (List.mem_of_getElem? (i := 160) rfl)))))
  obtain ⟨c7, iS7, hKn7⟩ := u_known (C := RX7) (T := TX7) (N := 4) (n := 4) htz zinX7 (hts (Cond.instantiable "MissingLamps$Rules" (4 : Nat)) (List.mem_append_right _ (List.mem_append_left _ (List.mem_of_getElem? (i := 37) rfl))))
  obtain ⟨c8, iS8, hKn8⟩ := u_known (C := RX8) (T := TX8) (N := 6) (n := 6) htz zinX8 (hts (Cond.instantiable "MissingLamps$State" (6 : Nat)) (List.mem_append_right _ (List.mem_append_right _ (List.mem_append_left _ (List.mem_of_getElem? (i := 61) rfl)))))
  obtain ⟨c9, iS9, hKn9⟩ := u_known (C := RX9) (T := TX9) (N := 4) (n := 4) htz zinX9 (hts (Cond.instantiable "MissingLamps$StatementReader" (4 : Nat)) (List.mem_append_right _ (List.mem_append_left _ (List.mem_of_getElem? (i := 162) rfl))))
  obtain ⟨c10, iS10, hKn10⟩ := u_known (C := RX10) (T := TX10) (N := 3) (n := 3) htz zinX10 (hts (Cond.instantiable "MissingLamps$SumReader" (3 : Nat)) (List.mem_append_right _ (List.mem_append_right _ (List.mem_append_left _ (List.mem_of_getElem? (i := 32) rfl)))))
  obtain ⟨c11, iS11, hKn11⟩ := u_known (C := RX11) (T := TX11) (N := 16) (n := 16) htz zinX11 (hts (Cond.instantiable "MissingLamps" (16 : Nat)) (List.mem_append_right _ (List.mem_append_left _ (List.mem_of_getElem? (i := 23) rfl))))
  obtain ⟨c12, iS12, hKn12⟩ := u_known (C := RX12) (T := TX12) (N := 73) (n := 73) htz zinX12 (hts (Cond.instantiable "MissingLampsModel" (73 : Nat)) (List.mem_append_right _ (List.mem_append_right _ (List.mem_append_right _ (List.mem_append_right _ (List.mem_append_right _ (List.mem_append_right _ (List.mem_append_left _ (List.mem_of_getElem? (i := 36) rfl)))))))))
  obtain ⟨cA0, kA0, cm0, fa0, fb0, fc0⟩ := Cond.arrayClass_spec (type := .int) (hts (Cond.arrayClass .int) (List.mem_append_right _ (List.mem_append_left _ (List.mem_of_getElem? (i := 58) rfl))))
  obtain ⟨cA1, kA1, cm1, fa1, fb1, fc1⟩ := Cond.arrayClass_spec (type := .long) (hts (Cond.arrayClass .long) (List.mem_append_right _ (List.mem_append_right _ (List.mem_append_left _ (List.mem_of_getElem? (i := 212) rfl)))))
  obtain ⟨cA2, kA2, cm2, fa2, fb2, fc2⟩ := Cond.arrayClass_spec (type := .boolean) (hts (Cond.arrayClass .boolean) (List.mem_append_right _ (List.mem_append_right _ (List.mem_append_right _ (List.mem_append_right _ (List.mem_append_right _ (List.mem_append_right _ (List.mem_append_right _ (List.mem_append_left _ (List.mem_of_getElem? (i := 21) rfl))))))))))
  have hao3 := hts (Cond.arrayOver (.object "MissingLamps$State")) (List.mem_append_right _ (List.mem_append_right _ (List.mem_append_left _ (List.mem_of_getElem? (i := 134) rfl))))
  obtain ⟨cm3, cA3, kA3, fa3, -, fb3, fc3, fd3⟩ := Cond.arrayOver_spec hao3
  have hao4 := hts (Cond.arrayOver (.object "MissingLamps$KeptRows")) (List.mem_append_right _ (List.mem_append_right _ (List.mem_append_left _ (List.mem_of_getElem? (i := 136) rfl))))
  obtain ⟨cm4, cA4, kA4, fa4, -, fb4, fc4, fd4⟩ := Cond.arrayOver_spec hao4
  obtain ⟨adK, adV, hVS, hVe⟩ := vk_Sof (N := 1) (tm := fun _ => (Term.string "MissingLamps$Reader" 18)) (len := [118]) (byt := [zxl]) (A := fun q => s.heap.size ≤ q) (args := #[Value.ref b]) (s := s)
    (fun i hi => by rw [show i = 0 by omega]; decide) (fun i hi => hs _ (by decide +kernel)) (fun i hi => hs _ (by decide +kernel)) (fun i hi => hs _ (by decide +kernel))
    (fun i hi => by rw [show i = 0 by omega]; exact hs _ (by decide +kernel))
    (fun i hi j hj => by
      obtain rfl : i = 0 := by omega
      exact hs _ (zel_in j hj))
    (fun i j hi hj hne => absurd (by omega) hne) (fun a ha => by omega)
  have hZ1 : va_Z "java/lang/String" "COMPACT_STRINGS" "Z" (.int 1) (fun q => s.heap.size ≤ q) s s.heap := va_Zof (args := #[Value.ref b]) (hts (Cond.laysStatic "java/lang/String" "COMPACT_STRINGS" "Z") (List.mem_append_right _ (List.mem_append_left _ (List.mem_of_getElem? (i := 183) rfl)))) (hts (Cond.initialized "java/lang/String") (List.mem_append_right _ (List.mem_append_left _ (List.mem_of_getElem? (i := 6) rfl)))) (va_eqt (hs (Cond.eq (.static "java/lang/String" "COMPACT_STRINGS" "Z") (.int 1)) (by decide +kernel))) (fun a ha => by omega)
  have hZ2 : va_Zq "jdk/internal/util/Preconditions" "SIOOBE_FORMATTER" "Ljava/util/function/BiFunction;" (fun q => s.heap.size ≤ q) s s.heap := va_Zqof (args := #[Value.ref b]) (hts (Cond.laysStatic "jdk/internal/util/Preconditions" "SIOOBE_FORMATTER" "Ljava/util/function/BiFunction;") (List.mem_append_right _ (List.mem_append_left _ (List.mem_of_getElem? (i := 199) rfl)))) (hts (Cond.initialized "jdk/internal/util/Preconditions") (List.mem_append_right _ (List.mem_append_left _ (List.mem_of_getElem? (i := 8) rfl)))) (hs (Cond.isRef (.static "jdk/internal/util/Preconditions" "SIOOBE_FORMATTER" "Ljava/util/function/BiFunction;")) (by decide +kernel)) (fun a ha => by omega)
  obtain ⟨fo, hfo⟩ : ∃ fo : Option Nat, va_Z "jdk/internal/util/Preconditions" "SIOOBE_FORMATTER" "Ljava/util/function/BiFunction;" (va_rf fo) (fun q => s.heap.size ≤ q) s s.heap := by
    rcases hZ2 with h | ⟨t, h⟩
    · exact ⟨none, h⟩
    · exact ⟨some t, h⟩
  have hSR : vk_R "MissingLamps$Reader" 18 "quay by pace gale wall lack at hue high has folk home glows finds loses night age lost near if or and not all min max " (adK 0) s := vk_R.of (A := #[Value.ref b]) (hts (Cond.stringRef "MissingLamps$Reader" (18 : Nat) "quay by pace gale wall lack at hue high has folk home glows finds loses night age lost near if or and not all min max ") (List.mem_append_right _ (List.mem_append_left _ (List.mem_of_getElem? (i := 173) rfl)))) (by first | exact hVe 0 (by decide) | (have := hVe 0 (by decide); simpa using this))
  have hV := hVS.1 0 (by decide)
  refine ⟨(l, (fun k => [c0, c1, c2, c3, c4, c5, c6, c7, c8, c9, c10, c11, c12].getD k 0, fun k => [iS0, iS1, iS2, iS3, iS4, iS5, iS6, iS7, iS8, iS9, iS10, iS11, iS12].getD k (fun _ => 0)), fun k => [cA0, cA1, cA2, cA3, cA4].getD k 0, s.heap.size, fun k => [some (adK 0), some (adV 0), fo, some b].getD k none), rfl, rfl, rfl, ⟨?_, ?_⟩, ?_⟩
  · intro k q hq
    match k, hq with
    | 0, hq => cases hq; exact hKn0
    | 1, hq => cases hq; exact hKn1
    | 2, hq => cases hq; exact hKn2
    | 3, hq => cases hq; exact hKn3
    | 4, hq => cases hq; exact hKn4
    | 5, hq => cases hq; exact hKn5
    | 6, hq => cases hq; exact hKn6
    | 7, hq => cases hq; exact hKn7
    | 8, hq => cases hq; exact hKn8
    | 9, hq => cases hq; exact hKn9
    | 10, hq => cases hq; exact hKn10
    | 11, hq => cases hq; exact hKn11
    | 12, hq => cases hq; exact hKn12
    | k + 13, hq => simp [vwCl] at hq
  · intro k q hq
    match k, hq with
    | 0, hq => cases hq; exact ⟨fun n z => ⟨fun _ h => (by cases h), kA0, fb0, cm0, fc0⟩, fa0⟩
    | 1, hq => cases hq; exact ⟨fun n z => ⟨fun _ h => (by cases h), kA1, fb1, cm1, fc1⟩, fa1⟩
    | 2, hq => cases hq; exact ⟨fun n z => ⟨fun _ h => (by cases h), kA2, fb2, cm2, fc2⟩, fa2⟩
    | 3, hq => cases hq; exact ⟨fun n z => ⟨fun _ h => (by cases h), kA3, fb3, cm3, fc3⟩, kA3, cm3, fb3, fc3, fa3, fd3⟩
    | 4, hq => cases hq; exact ⟨fun n z => ⟨fun _ h => (by cases h), kA4, fb4, cm4, fc4⟩, kA4, cm4, fb4, fc4, fa4, fd4⟩
    | k + 5, hq => simp [ztl, zTy] at hq
  · refine ⟨?_, va_AO.of hao3, va_AO.of hao4, hZ1, hfo, adK 0, adV 0, rfl, rfl, hSR, hV.1, hV.2.1, hV.2.2.1, hV.2.2.2⟩
    exact List.forall_mem_cons.mpr ⟨va_Nw.of rfl (hts _ (List.mem_append_right _ (List.mem_append_left _ (List.mem_of_getElem? (i := 32) rfl)))), List.forall_mem_cons.mpr ⟨va_Nw.of rfl (hts _ (List.mem_append_right _ (List.mem_append_right _ (List.mem_append_left _ (List.mem_of_getElem? (i := 62) rfl))))), List.forall_mem_cons.mpr ⟨va_Nw.of rfl (hts _ (List.mem_append_right _ (List.mem_append_right _ (List.mem_append_left _ (List.mem_of_getElem? (i := 106) rfl))))), List.forall_mem_cons.mpr ⟨va_Nw.of rfl (hts _ (List.mem_append_right _ (List.mem_append_right _ (List.mem_append_left _ (List.mem_of_getElem? (i := 161) rfl))))), List.forall_mem_cons.mpr ⟨va_Nw.of rfl (hts _ (List.mem_append_right _ (List.mem_append_right _ (List.mem_append_right _ (List.mem_append_right _ (List.mem_append_left _ (List.mem_of_getElem? (i := 168) rfl))))))), List.forall_mem_cons.mpr ⟨va_Nw.of rfl (hts _ (List.mem_append_right _ (List.mem_append_right _ (List.mem_append_left _ (List.mem_of_getElem? (i := 137) rfl))))), List.forall_mem_cons.mpr ⟨va_Nw.of rfl (hts _ (List.mem_append_right _ (List.mem_append_right _ (List.mem_append_left _ (List.mem_of_getElem? (i := 138) rfl))))), List.forall_mem_cons.mpr ⟨va_Nw.of rfl (hts _ (List.mem_append_right _ (List.mem_append_right _ (List.mem_append_left _ (List.mem_of_getElem? (i := 220) rfl))))), List.forall_mem_cons.mpr ⟨va_Nw.of rfl (hts _ (List.mem_append_right _ (List.mem_append_right _ (List.mem_append_right _ (List.mem_append_right _ (List.mem_append_right _ (List.mem_append_left _ (List.mem_of_getElem? (i := 153) rfl)))))))), List.forall_mem_cons.mpr ⟨va_Nw.of rfl (hts _ (List.mem_append_right _ (List.mem_append_left _ (List.mem_of_getElem? (i := 38) rfl)))), List.forall_mem_cons.mpr ⟨va_Nw.of rfl (hts _ (List.mem_append_right _ (List.mem_append_right _ (List.mem_append_right _ (List.mem_append_right _ (List.mem_append_right _ (List.mem_append_left _ (List.mem_of_getElem? (i := 231) rfl)))))))), List.forall_mem_cons.mpr ⟨va_Nw.of rfl (hts _ (List.mem_append_right _ (List.mem_append_right _ (List.mem_append_right _ (List.mem_append_left _ (List.mem_of_getElem? (i := 189) rfl)))))), List.forall_mem_cons.mpr ⟨va_Nw.of rfl (hts _ (List.mem_append_right _ (List.mem_append_right _ (List.mem_append_right _ (List.mem_append_left _ (List.mem_of_getElem? (i := 199) rfl)))))), List.forall_mem_cons.mpr ⟨va_Nw.of rfl (hts _ (List.mem_append_right _ (List.mem_append_right _ (List.mem_append_right _ (List.mem_append_right _ (List.mem_append_left _ (List.mem_of_getElem? (i := 6) rfl))))))), List.forall_mem_cons.mpr ⟨va_Nw.of rfl (hts _ (List.mem_append_right _ (List.mem_append_right _ (List.mem_append_right _ (List.mem_append_right _ (List.mem_append_left _ (List.mem_of_getElem? (i := 60) rfl))))))), List.forall_mem_cons.mpr ⟨va_Nw.of rfl (hts _ (List.mem_append_right _ (List.mem_append_right _ (List.mem_append_right _ (List.mem_append_left _ (List.mem_of_getElem? (i := 196) rfl)))))), fun _ h => absurd h List.not_mem_nil⟩⟩⟩⟩⟩⟩⟩⟩⟩⟩⟩⟩⟩⟩⟩⟩
def zfy : zM := zfx ++ [.inr (12, zdfX12)]
theorem z_ix (X : zX) : zle [.inr (11, zdfX11)] zfx ∧ zMet zg X 100 111 [.ref 0] [.inr (11, zdfX11)] none zfx := by
  obtain ⟨r1, m1, e1, l1, M1⟩ := z_sound (zex_ok X) zpok 100 _ _ _ _ _ _ zfx_ok
  obtain ⟨e2, e3⟩ := (Bool.and_eq_true _ _).mp (Option.some.inj e1)
  have e2 := Option.isNone_iff_eq_none.mp e2
  have e3 := zqM_s e3
  subst e2
  subst e3
  exact ⟨l1, M1⟩
theorem z_im (X : zX) : zle zfy zfm ∧ zMet zg X 100 164 [.ref 221] zfy none zfm := by
  obtain ⟨r1, m1, e1, l1, M1⟩ := z_sound (zex_ok X) zpok 100 _ _ _ zfy _ _ zfm_ok
  obtain ⟨e2, e3⟩ := (Bool.and_eq_true _ _).mp (Option.some.inj e1)
  have e2 := Option.isNone_iff_eq_none.mp e2
  have e3 := zqM_s e3
  subst e2
  subst e3
  exact ⟨l1, M1⟩
set_option maxRecDepth 100000 in
theorem zlaw_pre {Y : Type} {L N : Nat} {xs : Nat → Int32} {rec : zRec Y} {ρ : Option Value → zM → Option Y} (h1 : ∀ κ, rec 111 [.ref 0] [.inr (11, zdfX11)] κ = κ none zfx) (h2 : ∀ κ, rec 164 [.ref 221] zfy κ = κ none zfm) : zgo (tL L xs) rec ρ (N + 10) (0, [(0, .retAddr 3)], [], []) = zgo (tL L xs) rec ρ N (18, zlo 0, [], zfm) :=
  Eq.trans (h1 _) (Eq.trans (h2 _) rfl)

