section D1
variable {p : Program} {l : Launch} {e : Env} {R : Room} {s : State} {m : MethodId} {args : Array Value} {below : List Frame} {meth : Method} {c : Code} {H : Heap} {locs : List Loc} {cells slots : Nat} {Q : State → Prop}
variable {cc : ByteArray} {pc : Nat} {ls : Array Slot} {rest : List Value} {D : va_G} {cl : List vw_C} {a : Nat} {tys : List (ClassId × FieldType)}
theorem d_newI0 (hexec : p.tables.exec = Jvm.exec) (hb : c.code = cc) (harr : (Cond.arrayClass .int).before args s = true) {cA : ClassId} (hcA : s.vm.findClass ("[" ++ FieldType.int.toString) = some cA) {n : Int32} (hn : 0 ≤ n.toInt) (hbytes : n.toInt < 100000) (hcells : cells + 1 ≤ R.cells) (hslots : slots + n.toNatClampNeg ≤ R.slots) (hdg : decode cc pc = .ok (.newarray .int, 2))
    (kk : ∀ H1 : Heap, va_at D cl (H.size, .inl (cA, n.toNatClampNeg, .inl (fun _ => 0))) H1 → H1.size = H.size + 1 → (∀ q, q < H.size → H1[q]? = H[q]?) → W p l e R s m args below meth c H1 locs (cells + 1) (slots + n.toNatClampNeg) Q (F0 m (pc + 2) ls (.ref H.size :: rest))) : W p l e R s m args below meth c H locs cells slots Q (F0 m pc ls (.int n :: rest)) := by
  have h0 : ¬ n < 0 := fun q => by
    have := Int32.lt_iff_toInt_lt.mp q
    have z : (0 : Int32).toInt = 0 := by decide
    omega
  have hb2 : n.toNatClampNeg * 4 ≤ 536870912 := by
    have e0 : n.toNatClampNeg = n.toInt.toNat := rfl
    rw [e0]
    omega
  obtain ⟨N, hN⟩ : ∃ N, N = n.toNatClampNeg := ⟨_, rfl⟩
  rw [← hN] at hb2 hslots kk
  refine va_newaK (atype := .int) (N := N) hexec hb harr rfl hdg rfl h0 hN.symm hb2 hcells hslots rfl fun H1 cB e1 z1 o1 hAr hNm => ?_
  have hc2 : cB = cA := Option.some.inj (hNm.symm.trans hcA)
  rw [hc2] at e1
  have e2 : H1[H.size]? = some (arrV cA N (fun _ => .int 0)) := e1
  exact kk H1 e2 z1 o1
end D1
