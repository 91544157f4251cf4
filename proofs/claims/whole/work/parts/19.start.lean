theorem ul_Z : Cond.laysStatic "java/util/ArrayList" "DEFAULTCAPACITY_EMPTY_ELEMENTDATA" "[Ljava/lang/Object;" ∈ lw_tbl := List.mem_append_right _ (List.mem_append_left _ (List.mem_of_getElem? (i := 49) rfl))
theorem ul_U : Cond.laysStatic "java/lang/Throwable" "UNASSIGNED_STACK" "[Ljava/lang/StackTraceElement;" ∈ lw_tbl := List.mem_append_right _ (List.mem_append_left _ (List.mem_of_getElem? (i := 145) rfl))
theorem ul_S : Cond.laysStatic "java/lang/Throwable" "SUPPRESSED_SENTINEL" "Ljava/util/List;" ∈ lw_tbl := List.mem_append_right _ (List.mem_append_left _ (List.mem_of_getElem? (i := 147) rfl))
theorem ul_O : Cond.arrayOver (FieldType.object "java/lang/Object") ∈ lw_tbl := List.mem_append_right _ (List.mem_append_right _ (List.mem_append_left _ (List.mem_of_getElem? (i := 51) rfl)))
theorem ul_D : Cond.declares ⟨"java/lang/Object", "getClass", "()Ljava/lang/Class;"⟩ ∈ lw_tbl := List.mem_append_right _ (List.mem_append_right _ (List.mem_append_right _ (List.mem_append_right _ (List.mem_append_right _ (List.mem_append_right _ (List.mem_of_getElem? (i := 14) rfl))))))
theorem dNW_in : ∀ w ∈ dNW, w ∈ lw_tbl := by decide +kernel
theorem ulx_0 : Cond.stringRef "PromiseDesk" 242 "no room for more objects" ∈ lw_tbl := List.mem_append_right _ (List.mem_append_left _ (List.mem_of_getElem? (i := 158) rfl))
theorem ulx_1 : Cond.stringRef "PromiseDesk" 218 "out of range" ∈ lw_tbl := List.mem_append_right _ (List.mem_append_right _ (List.mem_append_left _ (List.mem_of_getElem? (i := 96) rfl)))
theorem ulx_2 : Cond.stringRef "PromiseDesk" 223 "no value" ∈ lw_tbl := List.mem_append_right _ (List.mem_append_right _ (List.mem_append_left _ (List.mem_of_getElem? (i := 126) rfl)))
theorem ulx_3 : Cond.stringRef "PromiseDesk" 227 "no promise" ∈ lw_tbl := List.mem_append_right _ (List.mem_append_right _ (List.mem_append_left _ (List.mem_of_getElem? (i := 135) rfl)))
theorem ulx_4 : Cond.stringRef "PromiseDesk" 231 "not made by promise" ∈ lw_tbl := List.mem_append_right _ (List.mem_append_right _ (List.mem_append_left _ (List.mem_of_getElem? (i := 136) rfl)))
theorem ulx_5 : Cond.stringRef "PromiseDesk" 67 "no more handlers" ∈ lw_tbl := List.mem_append_right _ (List.mem_append_right _ (List.mem_append_left _ (List.mem_of_getElem? (i := 137) rfl)))
theorem ulx_6 : Cond.stringRef "PromiseDesk" 229 "no thenable" ∈ lw_tbl := List.mem_append_right _ (List.mem_append_right _ (List.mem_append_right _ (List.mem_append_left _ (List.mem_of_getElem? (i := 55) rfl))))
theorem ulx_7 : Cond.stringRef "PromiseDesk" 138 "the list is full" ∈ lw_tbl := List.mem_append_right _ (List.mem_append_right _ (List.mem_append_right _ (List.mem_append_left _ (List.mem_of_getElem? (i := 123) rfl))))
theorem ulx_8 : Cond.stringRef "PromiseDesk" 244 "the log is full" ∈ lw_tbl := List.mem_append_right _ (List.mem_append_right _ (List.mem_append_right _ (List.mem_append_right _ (List.mem_append_left _ (List.mem_of_getElem? (i := 17) rfl)))))
theorem ulx_9 : Cond.stringRef "PromiseDesk" 225 "no object" ∈ lw_tbl := List.mem_append_right _ (List.mem_append_right _ (List.mem_append_right _ (List.mem_append_right _ (List.mem_append_left _ (List.mem_of_getElem? (i := 95) rfl)))))
theorem ulx_10 : Cond.stringRef "PromiseDesk" 240 "it has no parts" ∈ lw_tbl := List.mem_append_right _ (List.mem_append_right _ (List.mem_append_right _ (List.mem_append_right _ (List.mem_append_left _ (List.mem_of_getElem? (i := 107) rfl)))))
theorem ulx_11 : Cond.stringRef "PromiseDesk" 215 "nothing of that number is counted" ∈ lw_tbl := List.mem_append_right _ (List.mem_append_right _ (List.mem_append_right _ (List.mem_append_right _ (List.mem_append_left _ (List.mem_of_getElem? (i := 115) rfl)))))
abbrev ST : Term := .static "java/util/ArrayList" "DEFAULTCAPACITY_EMPTY_ELEMENTDATA" "[Ljava/lang/Object;"
/-- what is there at the start: ArrayList's empty array alone -/
theorem st_arr {s : State} {args : Array Value} {ty : FieldType} (h : (Cond.arrayClass ty).before args s = true) : ∃ cA : ClassId, s.vm.findClass ("[" ++ ty.toString) = some cA ∧ ArrOfT s cA ty := by
  obtain ⟨cA, k, comp, h1, h2, h3⟩ := Cond.arrayClass_spec h
  exact ⟨cA, h1, fun N z => ⟨(fun k h => by cases h), k, h2, comp, h3⟩⟩
set_option maxHeartbeats 8000000 in
set_option maxRecDepth 100000 in
/-- the tables' words out of the start -/
theorem st_tables {s : State} {args : Array Value} (hts : ∀ w ∈ lw_tbl, w.before args s = true) (hgv : (Jvm.Cond.and given_1 narrow_1).before args s = true) :
    ∃ (D : va_G) (cI cZ cO cJ : ClassId) (e0 : Nat), dV D (cI, cO, e0) s ∧ va_K D vwCl [(cI, .int), (cZ, .boolean)] s ∧ (ArrOfT s cJ .long ∧ va_RA s cJ .long) ∧
      (va_Z "java/util/ArrayList" "DEFAULTCAPACITY_EMPTY_ELEMENTDATA" "[Ljava/lang/Object;" (.ref e0) (fun q => s.heap.size ≤ q) s s.heap ∧ vx_Zq Bundle.tN "UNASSIGNED_STACK" Bundle.steD (fun q => s.heap.size ≤ q) s s.heap ∧ vx_Zq Bundle.tN "SUPPRESSED_SENTINEL" Bundle.listD (fun q => s.heap.size ≤ q) s s.heap ∧ va_T (.object "java/lang/Object") e0 0 (fun _ => .null) (fun q => s.heap.size ≤ q) s s.heap) ∧ e0 < s.heap.size := by
  have htw : ∀ w ∈ Tw, w.before args s = true := fun w h => hts w (List.mem_filter.mp h).1
  have hs := flat_of_before _ hgv
  have hA : ∀ a : Nat, a < s.heap.size → ¬ (fun q : Nat => s.heap.size ≤ q) a := fun a h => Nat.not_le.mpr h
  obtain ⟨c0, iS0, hKn0⟩ := u_known (C := RJx4a65c) (T := TJx4a65c) (N := 3) (n := 3) htw inT_0 (htw _ u_37)
  obtain ⟨c1, iS1, hKn1⟩ := u_known (C := RX0) (T := TX0) (N := 5) (n := 5) htw inT_1 (htw _ u_694)
  obtain ⟨c2, iS2, hKn2⟩ := u_known (C := RX1) (T := TX1) (N := 4) (n := 4) htw inT_2 (htw _ u_626)
  obtain ⟨c3, iS3, hKn3⟩ := u_known (C := RX2) (T := TX2) (N := 3) (n := 3) htw inT_3 (htw _ u_655)
  obtain ⟨c4, iS4, hKn4⟩ := u_known (C := RX4) (T := TX4) (N := 8) (n := 8) htw inT_4 (htw _ u_485)
  obtain ⟨c5, iS5, hKn5⟩ := u_known (C := RX5) (T := TX5) (N := 2) (n := 2) htw inT_5 (htw _ u_566)
  obtain ⟨c6, iS6, hKn6⟩ := u_known (C := RX6) (T := TX6) (N := 9) (n := 9) htw inT_6 (htw _ u_190)
  obtain ⟨c7, iS7, hKn7⟩ := u_known (C := RX7) (T := TX7) (N := 2) (n := 2) htw inT_7 (htw _ u_302)
  obtain ⟨c8, iS8, hKn8⟩ := u_known (C := RX8) (T := TX8) (N := 4) (n := 4) htw inT_8 (htw _ u_379)
  obtain ⟨c9, iS9, hKn9⟩ := u_known (C := RX9) (T := TX9) (N := 9) (n := 9) htw inT_9 (htw _ u_408)
  obtain ⟨c10, iS10, hKn10⟩ := u_known (C := RX10) (T := TX10) (N := 3) (n := 3) htw inT_10 (htw _ u_471)
  obtain ⟨c11, iS11, hKn11⟩ := u_known (C := RX11) (T := TX11) (N := 10) (n := 10) htw inT_11 (htw _ u_29)
  obtain ⟨c12, iS12, hKn12⟩ := u_known (C := RX12) (T := TX12) (N := 52) (n := 52) htw inT12 (htw _ u_837)
  obtain ⟨cI, hI1, hI2⟩ := st_arr (htw _ u_96)
  obtain ⟨cZ, hZ1, hZ2⟩ := st_arr (htw _ u_999)
  obtain ⟨cJ, hJ1, hJ2⟩ := st_arr (htw _ u_1204)
  have hov := hts _ ul_O
  obtain ⟨comp, cO, kO, o1, -, o3, o4, o5⟩ := Cond.arrayOver_spec hov
  have hKc : ∀ (k : Nat) (q : vw_C), vwCl[k]? = some q → u_Kn s q.1 q.2.1 q.2.2 ([c0, c1, c2, c3, c4, c5, c6, c7, c8, c9, c10, c11, c12].getD k c0) ([iS0, iS1, iS2, iS3, iS4, iS5, iS6, iS7, iS8, iS9, iS10, iS11, iS12].getD k iS0) := by
    intro k q hq
    match k, hq with
    | 0, hq => cases hq; exact hKn0
    | 1, hq => cases hq; exact hKn1
    | 2, hq => cases hq; exact hKn2
    | 3, hq => cases hq; exact hKn3
    | 4, hq => cases hq; exact hKn4
    | 5, hq => cases hq; exact hKn5
    | 6, hq => cases hq; exact hKn6
    | 7, hq => cases hq; exact hKn7
    | 8, hq => cases hq; exact hKn8
    | 9, hq => cases hq; exact hKn9
    | 10, hq => cases hq; exact hKn10
    | 11, hq => cases hq; exact hKn11
    | 12, hq => cases hq; exact hKn12
    | k + 13, hq => simp [vwCl] at hq
  have hlen := va_eqt (hs (Cond.eq (.length ST) (.int 0)) (by decide +kernel))
  obtain ⟨e0, he0, hT0⟩ := va_Tof (A := fun q : Nat => s.heap.size ≤ q) (N := 0) (f := fun _ => .null) (by decide) (hs (Cond.arrayOf ST (.object "java/lang/Object")) (by decide +kernel)) hlen (fun j h => absurd h (Nat.not_lt_zero j)) hA
  have hlt : e0 < s.heap.size := by
    obtain ⟨cell, h1, -⟩ := hT0
    exact (Array.getElem?_eq_some_iff.mp h1).1
  obtain ⟨mi, hmi⟩ := va_Mi.of (hs (Cond.isRef (.mirror "[Ljava/lang/Object;")) (by decide +kernel))
  refine ⟨(fun k => [c0, c1, c2, c3, c4, c5, c6, c7, c8, c9, c10, c11, c12].getD k c0, fun k => [iS0, iS1, iS2, iS3, iS4, iS5, iS6, iS7, iS8, iS9, iS10, iS11, iS12].getD k iS0), cI, cZ, cO, cJ, e0, ⟨⟨hKc, ?_⟩, va_AO.of hov, fun w hw => va_Nw.of (dNW_tab w hw) (hts w (dNW_in w hw)), ?_, ?_, ⟨mi, hmi⟩, va_Dc.of (hts _ ul_D)⟩, ⟨hKc, ?_⟩, ⟨hJ2, hJ1⟩, ⟨va_Zref (hts _ ul_Z) (htw _ u_4) he0 hA, vx_Zqof (hts _ ul_U) (htw _ u_6) (hs (Cond.isRef (.static "java/lang/Throwable" "UNASSIGNED_STACK" "[Ljava/lang/StackTraceElement;")) (by decide +kernel)) hA, vx_Zqof (hts _ ul_S) (htw _ u_6) (hs (Cond.isRef (.static "java/lang/Throwable" "SUPPRESSED_SENTINEL" "Ljava/util/List;")) (by decide +kernel)) hA, hT0⟩, hlt⟩
  · intro k q hk
    match k, hk with
    | 0, hk => cases hk; exact ⟨hI2, hI1⟩
    | 1, hk => cases hk; exact ⟨fun N z => ⟨(fun k h => by cases h), kO, o3, comp, o4⟩, kO, comp, o3, o4, o1, o5⟩
    | k + 2, hk => simp at hk
  · intro q hq
    unfold dNC at hq
    simp only [List.mem_cons, List.not_mem_nil, or_false] at hq
    rcases hq with rfl | rfl | rfl | rfl | rfl <;> exact va_Nc.of (hs _ (by decide +kernel))
  · intro q hq
    unfold dTx at hq
    simp only [List.mem_cons, List.not_mem_nil, or_false] at hq
    rcases hq with rfl | rfl | rfl | rfl | rfl | rfl | rfl | rfl | rfl | rfl | rfl | rfl
    · obtain ⟨a, c, cell, k, h1, -⟩ := Cond.exactly_spec (hs (Cond.exactly (.string "PromiseDesk" 242) "java/lang/String") (by decide +kernel))
      exact ⟨a, vk_R.of (hts _ ulx_0) h1⟩
    · obtain ⟨a, c, cell, k, h1, -⟩ := Cond.exactly_spec (hs (Cond.exactly (.string "PromiseDesk" 218) "java/lang/String") (by decide +kernel))
      exact ⟨a, vk_R.of (hts _ ulx_1) h1⟩
    · obtain ⟨a, c, cell, k, h1, -⟩ := Cond.exactly_spec (hs (Cond.exactly (.string "PromiseDesk" 223) "java/lang/String") (by decide +kernel))
      exact ⟨a, vk_R.of (hts _ ulx_2) h1⟩
    · obtain ⟨a, c, cell, k, h1, -⟩ := Cond.exactly_spec (hs (Cond.exactly (.string "PromiseDesk" 227) "java/lang/String") (by decide +kernel))
      exact ⟨a, vk_R.of (hts _ ulx_3) h1⟩
    · obtain ⟨a, c, cell, k, h1, -⟩ := Cond.exactly_spec (hs (Cond.exactly (.string "PromiseDesk" 231) "java/lang/String") (by decide +kernel))
      exact ⟨a, vk_R.of (hts _ ulx_4) h1⟩
    · obtain ⟨a, c, cell, k, h1, -⟩ := Cond.exactly_spec (hs (Cond.exactly (.string "PromiseDesk" 67) "java/lang/String") (by decide +kernel))
      exact ⟨a, vk_R.of (hts _ ulx_5) h1⟩
    · obtain ⟨a, c, cell, k, h1, -⟩ := Cond.exactly_spec (hs (Cond.exactly (.string "PromiseDesk" 229) "java/lang/String") (by decide +kernel))
      exact ⟨a, vk_R.of (hts _ ulx_6) h1⟩
    · obtain ⟨a, c, cell, k, h1, -⟩ := Cond.exactly_spec (hs (Cond.exactly (.string "PromiseDesk" 138) "java/lang/String") (by decide +kernel))
      exact ⟨a, vk_R.of (hts _ ulx_7) h1⟩
    · obtain ⟨a, c, cell, k, h1, -⟩ := Cond.exactly_spec (hs (Cond.exactly (.string "PromiseDesk" 244) "java/lang/String") (by decide +kernel))
      exact ⟨a, vk_R.of (hts _ ulx_8) h1⟩
    · obtain ⟨a, c, cell, k, h1, -⟩ := Cond.exactly_spec (hs (Cond.exactly (.string "PromiseDesk" 225) "java/lang/String") (by decide +kernel))
      exact ⟨a, vk_R.of (hts _ ulx_9) h1⟩
    · obtain ⟨a, c, cell, k, h1, -⟩ := Cond.exactly_spec (hs (Cond.exactly (.string "PromiseDesk" 240) "java/lang/String") (by decide +kernel))
      exact ⟨a, vk_R.of (hts _ ulx_10) h1⟩
    · obtain ⟨a, c, cell, k, h1, -⟩ := Cond.exactly_spec (hs (Cond.exactly (.string "PromiseDesk" 215) "java/lang/String") (by decide +kernel))
      exact ⟨a, vk_R.of (hts _ ulx_11) h1⟩
  · intro k q hk
    match k, hk with
    | 0, hk => cases hk; exact ⟨hI2, hI1⟩
    | 1, hk => cases hk; exact ⟨hZ2, hZ1⟩
    | k + 2, hk => simp at hk
