theorem bz_B (x : Int32) : isB (bz x) := by
  unfold bz
  split
  · exact Or.inl rfl
  · exact Or.inr rfl
section LX
variable {p : Program} {l : Launch} {e : Env} {s : State} {m : MethodId} {below : List Frame} {meth : Method} {c : Code} {H : Heap} {cells slots : Nat} {Q : State → Prop}
variable {pc : Nat} {ls : Array Slot} {rest : List Value} {D : va_G} {G : DG} {Gm : MG} {S : DS} {M : MS} {o : Nat} {cJ : ClassId} {f : Nat → Int64} {b L : Nat} {xs : Nat → Int32}
theorem L_rd (F : LF p l s m #[Value.ref b] meth c D G Gm cJ o) (hW : LW D G Gm cJ o s S M f H) (hX : va_X b L xs s s.heap) (hbl : b < s.heap.size) (hL : L ≤ 3072) {i k : Nat} (hik : i + k < L) {kz : Int} (hkz : Int32.ofInt kz = nI k) (hl0 : ls[0]? = some (.val (.ref b))) (hl4 : ls[4]? = some (.val (.int (nI i)))) (d0 : decode code pc = .ok (.aload_n 0, 1)) (d1 : decode code (pc + 1) = .ok (.iload 4, 2)) (d2 : decode code (pc + 1 + 2) = .ok (.iconst kz, 1)) (d3 : decode code (pc + 1 + 2 + 1) = .ok (.iadd, 1)) (d4 : decode code (pc + 1 + 2 + 1 + 1) = .ok (.iaload, 1))
    (kk : W p l e room_1 s m #[Value.ref b] below meth c H [] cells slots Q (F0 m (pc + 1 + 2 + 1 + 1 + 1) ls (.int (xs (i + k)) :: rest))) : W p l e room_1 s m #[Value.ref b] below meth c H [] cells slots Q (F0 m pc ls rest) := by
  have hx := F.1
  have hb := F.2.1
  refine lv_aload_n hx hb d0 rfl hl0 ?_
  refine lv_iload hx hb d1 hl4 ?_
  refine lv_iconst (v := nI k) hx hb d2 hkz ?_
  refine lv_iadd hx hb d3 ?_
  rw [nI_add]
  have hS9 : va_S (fun q => s.heap.size ≤ q) s.heap H [] := ⟨hW.2.2.2.2.1, fun q h1 _ => hW.2.2.2.2.2.1 q h1, fun _ h => nomatch h⟩
  refine va_sld (A := fun q => s.heap.size ≤ q) hx hb hX hbl (Nat.not_le.mpr hbl) hS9 (vp_in_nI hik (by omega)) d4 ?_
  rw [nI_clamp (by omega)]
  exact kk
end LX
theorem lcmp_eq {x y : Int64} (h : x = y) : lg_cmp x y = 0 := by
  subst h
  unfold lg_cmp
  rw [if_neg (show ¬ x > x from Int64.lt_irrefl), if_pos rfl]
theorem ym_promise : dY1 yX12_promise 0 := by unfold dY1; decide +kernel
theorem ym_L_promise : dY1 yL_promise 2 := by unfold dY1; decide +kernel
theorem ym_handler : dY1 yX12_handler 2 := by unfold dY1; decide +kernel
theorem ym_L_handler : dY1 yL_handler 4 := by unfold dY1; decide +kernel
theorem ym_thenable : dY1 yX12_thenable 5 := by unfold dY1; decide +kernel
theorem ym_L_thenable : dY1 yL_thenable 7 := by unfold dY1; decide +kernel
theorem ym_settle_ : dY1 yX12_settle_ 3 := by unfold dY1; decide +kernel
theorem ym_L_settle : dY1 yL_settle 5 := by unfold dY1; decide +kernel
theorem ym_later : dY1 yX12_later 3 := by unfold dY1; decide +kernel
theorem ym_L_later : dY1 yL_later 5 := by unfold dY1; decide +kernel
theorem ym_then_ : dY1 yX12_then_ 4 := by unfold dY1; decide +kernel
theorem ym_L_then : dY1 yL_then 6 := by unfold dY1; decide +kernel
theorem ym_lastly : dY1 yX12_lastly 2 := by unfold dY1; decide +kernel
theorem ym_L_lastly : dY1 yL_lastly 4 := by unfold dY1; decide +kernel
theorem ym_wrap : dY1 yX12_wrap 1 := by unfold dY1; decide +kernel
theorem ym_L_wrap : dY1 yL_wrap 3 := by unfold dY1; decide +kernel
theorem ym_broken : dY1 yX12_broken 1 := by unfold dY1; decide +kernel
theorem ym_L_broken : dY1 yL_broken 3 := by unfold dY1; decide +kernel
theorem ym_item : dY1 yX12_item 1 := by unfold dY1; decide +kernel
theorem ym_L_item : dY1 yL_item 3 := by unfold dY1; decide +kernel
theorem ym_combine : dY1 yX12_combine 1 := by unfold dY1; decide +kernel
theorem ym_L_combine : dY1 yL_combine 3 := by unfold dY1; decide +kernel
theorem ym_async : dY1 yX12_async 2 := by unfold dY1; decide +kernel
theorem ym_L_async : dY1 yL_async 4 := by unfold dY1; decide +kernel
theorem ym_jobs : dY1 yX12_jobs 1 := by unfold dY1; decide +kernel
theorem ym_L_jobs : dY1 yL_jobs 3 := by unfold dY1; decide +kernel
theorem ym_state : dY1 yX12_state 1 := by unfold dY1; decide +kernel
theorem ym_L_state : dY1 yL_state 3 := by unfold dY1; decide +kernel
theorem ym_result : dY1 yX12_result 1 := by unfold dY1; decide +kernel
theorem ym_L_result : dY1 yL_result 3 := by unfold dY1; decide +kernel
theorem ym_kind : dY1 yX12_kind 1 := by unfold dY1; decide +kernel
theorem ym_L_kind : dY1 yL_kind 3 := by unfold dY1; decide +kernel
theorem ym_part : dY1 yX12_part 2 := by unfold dY1; decide +kernel
theorem ym_L_part : dY1 yL_part 4 := by unfold dY1; decide +kernel
theorem ym_log : dY1 yX12_log 2 := by unfold dY1; decide +kernel
theorem ym_count : dY1 yX12_count 1 := by unfold dY1; decide +kernel
theorem ym_L_count : dY1 yL_count 3 := by unfold dY1; decide +kernel
theorem ym_thrown : dY1 yX12_thrown 0 := by unfold dY1; decide +kernel
