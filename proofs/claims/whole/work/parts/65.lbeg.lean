set_option maxHeartbeats 4000000 in
set_option maxRecDepth 100000 in
theorem lw_zL {args : Array Value} {s : State} (hts : ∀ w ∈ lw_tbl, w.before args s = true) (hgv : (Jvm.Cond.and given_1 narrow_1).before args s = true) : zL_ s := by
  have hs := flat_of_before _ hgv
  refine ⟨⟨⟨va_Nw.of rfl (hts (.methodLinkNest RX1 33 yX2_isKind "HouseLog") (by decide +kernel)), va_Nw.of rfl (hts (.fieldLinkNest RX2 112 "HouseLog$Sectors" "bytes" "LHouseLog$Bytes;" "HouseLog") (by decide +kernel))⟩, ?_, ?_, ?_⟩, ?_⟩
  · intro E hE
    simp only [xE, List.mem_cons, List.not_mem_nil, or_false] at hE
    rcases hE with rfl | rfl | rfl | rfl
    · exact va_Nw.of rfl (hts (.castable "java/lang/IllegalStateException" "java/lang/IllegalStateException") (by decide +kernel))
    · exact va_Nw.of rfl (hts (.castable "java/lang/IllegalArgumentException" "java/lang/IllegalArgumentException") (by decide +kernel))
    · exact va_Nw.of rfl (hts (.castable "java/util/NoSuchElementException" "java/util/NoSuchElementException") (by decide +kernel))
    · exact va_Nw.of rfl (hts (.castable "java/lang/ArrayIndexOutOfBoundsException" "java/lang/ArrayIndexOutOfBoundsException") (by decide +kernel))
  · intro Y hY
    simp only [xY, List.mem_cons, List.not_mem_nil, or_false] at hY
    rcases hY with rfl | rfl | rfl | rfl
    · exact va_Nw.of rfl (hts (.declares (Bundle.initS "java/lang/RuntimeException")) (by decide +kernel))
    · exact va_Nw.of rfl (hts (.declares (Bundle.initS "java/lang/Exception")) (by decide +kernel))
    · exact va_Nw.of rfl (hts (.declares (Bundle.initS "java/lang/Throwable")) (by decide +kernel))
    · exact va_Nw.of rfl (hts (.declares (Bundle.initS "java/lang/IndexOutOfBoundsException")) (by decide +kernel))
  · intro q hq
    simp only [xT, List.mem_cons, List.not_mem_nil, or_false] at hq
    rcases hq with rfl | rfl | rfl | rfl | rfl | rfl | rfl | rfl
    · obtain ⟨sa, -, -, -, ha, -⟩ := Cond.exactly_spec (hs (.exactly (.string "HouseLog" 64) "java/lang/String") (by decide +kernel))
      exact ⟨sa, vk_R.of (A := args) (hts (.stringRef RX2 64 "no such kind") (by decide +kernel)) ha⟩
    · obtain ⟨sa, -, -, -, ha, -⟩ := Cond.exactly_spec (hs (.exactly (.string "HouseLog" 161) "java/lang/String") (by decide +kernel))
      exact ⟨sa, vk_R.of (A := args) (hts (.stringRef RX2 161 "the log is down") (by decide +kernel)) ha⟩
    · obtain ⟨sa, -, -, -, ha, -⟩ := Cond.exactly_spec (hs (.exactly (.string "HouseLog" 119) "java/lang/String") (by decide +kernel))
      exact ⟨sa, vk_R.of (A := args) (hts (.stringRef RX2 119 "no such copy") (by decide +kernel)) ha⟩
    · obtain ⟨sa, -, -, -, ha, -⟩ := Cond.exactly_spec (hs (.exactly (.string "HouseLog" 123) "java/lang/String") (by decide +kernel))
      exact ⟨sa, vk_R.of (A := args) (hts (.stringRef RX2 123 "no such place") (by decide +kernel)) ha⟩
    · obtain ⟨sa, -, -, -, ha, -⟩ := Cond.exactly_spec (hs (.exactly (.string "HouseLog" 131) "java/lang/String") (by decide +kernel))
      exact ⟨sa, vk_R.of (A := args) (hts (.stringRef RX2 131 "no such row") (by decide +kernel)) ha⟩
    · obtain ⟨sa, -, -, -, ha, -⟩ := Cond.exactly_spec (hs (.exactly (.string "HouseLog" 137) "java/lang/String") (by decide +kernel))
      exact ⟨sa, vk_R.of (A := args) (hts (.stringRef RX2 137 "no such byte") (by decide +kernel)) ha⟩
    · obtain ⟨sa, -, -, -, ha, -⟩ := Cond.exactly_spec (hs (.exactly (.string "HouseLog" 145) "java/lang/String") (by decide +kernel))
      exact ⟨sa, vk_R.of (A := args) (hts (.stringRef RX2 145 "no such rows") (by decide +kernel)) ha⟩
    · obtain ⟨sa, -, -, -, ha, -⟩ := Cond.exactly_spec (hs (.exactly (.string "HouseLog" 154) "java/lang/String") (by decide +kernel))
      exact ⟨sa, vk_R.of (A := args) (hts (.stringRef RX2 154 "no such what") (by decide +kernel)) ha⟩
  · intro q hq
    simp only [xNc, List.mem_cons, List.not_mem_nil, or_false] at hq
    rcases hq with rfl | rfl | rfl | rfl | rfl
    · exact va_Nc.of (hs (.not (.castable "java/lang/IllegalStateException" "java/lang/IllegalArgumentException")) (by decide +kernel))
    · exact va_Nc.of (hs (.not (.castable "java/lang/ArrayIndexOutOfBoundsException" "java/lang/IllegalArgumentException")) (by decide +kernel))
    · exact va_Nc.of (hs (.not (.castable "java/util/NoSuchElementException" "java/lang/IllegalStateException")) (by decide +kernel))
    · exact va_Nc.of (hs (.not (.castable "java/lang/ArrayIndexOutOfBoundsException" "java/lang/IllegalStateException")) (by decide +kernel))
    · exact va_Nc.of (hs (.not (.castable "java/lang/ArrayIndexOutOfBoundsException" "java/util/NoSuchElementException")) (by decide +kernel))
set_option maxHeartbeats 4000000 in
set_option maxRecDepth 100000 in
theorem lw_zq {args : Array Value} {s : State} (hts : ∀ w ∈ lw_tbl, w.before args s = true) (hgv : (Jvm.Cond.and given_1 narrow_1).before args s = true) : Zq_ (fun q : Nat => s.heap.size ≤ q) s := by
  have hs := flat_of_before _ hgv
  have hA : ∀ a : Nat, a < s.heap.size → ¬ (fun q : Nat => s.heap.size ≤ q) a := fun a h => Nat.not_le.mpr h
  exact ⟨vx_Zqof (hts (.laysStatic Bundle.tN "UNASSIGNED_STACK" Bundle.steD) (by decide +kernel)) (hts (.initialized Bundle.tN) (by decide +kernel)) (hs (.isRef (.static Bundle.tN "UNASSIGNED_STACK" Bundle.steD)) (by decide +kernel)) hA, vx_Zqof (hts (.laysStatic Bundle.tN "SUPPRESSED_SENTINEL" Bundle.listD) (by decide +kernel)) (hts (.initialized Bundle.tN) (by decide +kernel)) (hs (.isRef (.static Bundle.tN "SUPPRESSED_SENTINEL" Bundle.listD)) (by decide +kernel)) hA⟩
theorem rel_0 {n : Nat} (h4 : 4 ≤ n) (h64 : n ≤ 64) : Rel n (fun _ => 0) (fun _ => 0) (fun _ => 0) (fun _ => 0) (fun _ => 0) (fun _ => 0) (fun _ => 0) (fun _ => 0) (fun _ => 0) 0 0 0 0 0 0 (-1) := by
  have e0 : ∀ j : Nat, bv (fun _ => 0) j = 0 := fun j => show (0 : Int32) &&& 255 = 0 by decide
  refine ⟨⟨h4, h64, fun j _ => ?_⟩, fun j _ => e0 j, fun j _ => e0 j, ⟨by omega, fun i hi => absurd hi (by omega)⟩, ⟨Nat.le_refl _, by omega, by omega, Or.inl rfl⟩, fun _ => ⟨rfl, fun k hk => absurd hk (by omega)⟩, fun h => absurd rfl h⟩
  exact ⟨show (0 : Int32) = nI (Int32.toNatClampNeg 0) by decide, show Int32.toNatClampNeg 0 < 256 by decide⟩

