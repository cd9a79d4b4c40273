set_option maxRecDepth 20000 in
set_option maxHeartbeats 2000000 in
theorem kJ_bitCount {D : va_G} {G : gh} {x : BitVec 64} : CP ⟨"java/lang/Long", "bitCount", "(J)I"⟩ prog_15_method_50_code 2 (some .int) 0 0 D [.long (lB x)] G (pI (fun z => z = cB x)) := by
  refine CP.enter (by decide +kernel) (Nat.le_of_ble_eq_true rfl) (fun F S ret => ?_)
  show V F 2 G 0 0 0 [(0, .long (lB x))] []
  refine r_lload_n S dJ13_bitCount_95d88_0 0 rfl ?_
  refine r_lload_n S dJ13_bitCount_95d88_1 0 rfl ?_
  refine r_iconst S dJ13_bitCount_95d88_2 ?_
  refine r_lushr S ⟨by decide, by decide⟩ dJ13_bitCount_95d88_3 ?_
  refine r_ldc2 (BitVec.ofInt 64 (6148914691236517205)) w265 (by decide) S dJ13_bitCount_95d88_4 ?_
  rw [show BitVec.ofInt 64 (6148914691236517205) = 6148914691236517205#64 from by decide]
  refine r_land S dJ13_bitCount_95d88_7 ?_
  refine r_lsub S dJ13_bitCount_95d88_8 ?_
  refine r_lstore_n (L' := [(0, .long (lB (x - ((x >>> (Int.toNat 1)) &&& (6148914691236517205#64)))))]) S dJ13_bitCount_95d88_9 (by decide) rfl ?_
  refine r_lload_n S dJ13_bitCount_95d88_10 0 rfl ?_
  refine r_ldc2 (BitVec.ofInt 64 (3689348814741910323)) w266 (by decide) S dJ13_bitCount_95d88_11 ?_
  rw [show BitVec.ofInt 64 (3689348814741910323) = 3689348814741910323#64 from by decide]
  refine r_land S dJ13_bitCount_95d88_14 ?_
  refine r_lload_n S dJ13_bitCount_95d88_15 0 rfl ?_
  refine r_iconst S dJ13_bitCount_95d88_16 ?_
  refine r_lushr S ⟨by decide, by decide⟩ dJ13_bitCount_95d88_17 ?_
  refine r_ldc2 (BitVec.ofInt 64 (3689348814741910323)) w266 (by decide) S dJ13_bitCount_95d88_18 ?_
  rw [show BitVec.ofInt 64 (3689348814741910323) = 3689348814741910323#64 from by decide]
  refine r_land S dJ13_bitCount_95d88_21 ?_
  refine r_ladd S dJ13_bitCount_95d88_22 ?_
  refine r_lstore_n (L' := [(0, .long (lB (((x - ((x >>> (Int.toNat 1)) &&& (6148914691236517205#64))) &&& (3689348814741910323#64)) + (((x - ((x >>> (Int.toNat 1)) &&& (6148914691236517205#64))) >>> (Int.toNat 2)) &&& (3689348814741910323#64)))))]) S dJ13_bitCount_95d88_23 (by decide) rfl ?_
  refine r_lload_n S dJ13_bitCount_95d88_24 0 rfl ?_
  refine r_lload_n S dJ13_bitCount_95d88_25 0 rfl ?_
  refine r_iconst S dJ13_bitCount_95d88_26 ?_
  refine r_lushr S ⟨by decide, by decide⟩ dJ13_bitCount_95d88_27 ?_
  refine r_ladd S dJ13_bitCount_95d88_28 ?_
  refine r_ldc2 (BitVec.ofInt 64 (1085102592571150095)) w267 (by decide) S dJ13_bitCount_95d88_29 ?_
  rw [show BitVec.ofInt 64 (1085102592571150095) = 1085102592571150095#64 from by decide]
  refine r_land S dJ13_bitCount_95d88_32 ?_
  refine r_lstore_n (L' := [(0, .long (lB (((((x - ((x >>> (Int.toNat 1)) &&& (6148914691236517205#64))) &&& (3689348814741910323#64)) + (((x - ((x >>> (Int.toNat 1)) &&& (6148914691236517205#64))) >>> (Int.toNat 2)) &&& (3689348814741910323#64))) + ((((x - ((x >>> (Int.toNat 1)) &&& (6148914691236517205#64))) &&& (3689348814741910323#64)) + (((x - ((x >>> (Int.toNat 1)) &&& (6148914691236517205#64))) >>> (Int.toNat 2)) &&& (3689348814741910323#64))) >>> (Int.toNat 4))) &&& (1085102592571150095#64))))]) S dJ13_bitCount_95d88_33 (by decide) rfl ?_
  obtain ⟨t34, ht34⟩ : ∃ y : BitVec 64, y = ((((x - ((x >>> (Int.toNat 1)) &&& (6148914691236517205#64))) &&& (3689348814741910323#64)) + (((x - ((x >>> (Int.toNat 1)) &&& (6148914691236517205#64))) >>> (Int.toNat 2)) &&& (3689348814741910323#64))) + ((((x - ((x >>> (Int.toNat 1)) &&& (6148914691236517205#64))) &&& (3689348814741910323#64)) + (((x - ((x >>> (Int.toNat 1)) &&& (6148914691236517205#64))) >>> (Int.toNat 2)) &&& (3689348814741910323#64))) >>> (Int.toNat 4))) &&& (1085102592571150095#64) := ⟨_, rfl⟩
  rw [← ht34]
  replace ht34 : t34 = v3B x := ht34.trans (by rfl)
  refine r_lload_n S dJ13_bitCount_95d88_34 0 rfl ?_
  refine r_lload_n S dJ13_bitCount_95d88_35 0 rfl ?_
  refine r_bipush S dJ13_bitCount_95d88_36 (by decide) ?_
  refine r_lushr S ⟨by decide, by decide⟩ dJ13_bitCount_95d88_38 ?_
  refine r_ladd S dJ13_bitCount_95d88_39 ?_
  refine r_lstore_n (L' := [(0, .long (lB (t34 + (t34 >>> (Int.toNat 8)))))]) S dJ13_bitCount_95d88_40 (by decide) rfl ?_
  obtain ⟨v42, hv42⟩ : ∃ y : BitVec 64, y = t34 + (t34 >>> (Int.toNat 8)) := ⟨_, rfl⟩
  rw [← hv42]
  replace hv42 : v42 = v3B x + (v3B x >>> 8) := hv42.trans (by rw [ht34]; rfl)
  refine r_lload_n S dJ13_bitCount_95d88_41 0 rfl ?_
  refine r_lload_n S dJ13_bitCount_95d88_42 0 rfl ?_
  refine r_bipush S dJ13_bitCount_95d88_43 (by decide) ?_
  refine r_lushr S ⟨by decide, by decide⟩ dJ13_bitCount_95d88_45 ?_
  refine r_ladd S dJ13_bitCount_95d88_46 ?_
  refine r_lstore_n (L' := [(0, .long (lB (v42 + (v42 >>> (Int.toNat 16)))))]) S dJ13_bitCount_95d88_47 (by decide) rfl ?_
  obtain ⟨w48, hw48⟩ : ∃ y : BitVec 64, y = v42 + (v42 >>> (Int.toNat 16)) := ⟨_, rfl⟩
  rw [← hw48]
  replace hw48 : w48 = v42 + (v42 >>> 16) := hw48.trans (by rfl)
  refine r_lload_n S dJ13_bitCount_95d88_48 0 rfl ?_
  refine r_lload_n S dJ13_bitCount_95d88_49 0 rfl ?_
  refine r_bipush S dJ13_bitCount_95d88_50 (by decide) ?_
  refine r_lushr S ⟨by decide, by decide⟩ dJ13_bitCount_95d88_52 ?_
  refine r_ladd S dJ13_bitCount_95d88_53 ?_
  refine r_lstore_n (L' := [(0, .long (lB (w48 + (w48 >>> (Int.toNat 32)))))]) S dJ13_bitCount_95d88_54 (by decide) rfl ?_
  obtain ⟨u54, hu54⟩ : ∃ y : BitVec 64, y = w48 + (w48 >>> (Int.toNat 32)) := ⟨_, rfl⟩
  rw [← hu54]
  replace hu54 : u54 = w48 + (w48 >>> 32) := hu54.trans (by rfl)
  refine r_lload_n S dJ13_bitCount_95d88_55 0 rfl ?_
  refine r_l2i S dJ13_bitCount_95d88_56 ?_
  refine r_bipush S dJ13_bitCount_95d88_57 (by decide) ?_
  refine r_iand S dJ13_bitCount_95d88_59 (fun z59 hz59 ez59 => ?_)
  exact ret.i z59 dJ13_bitCount_95d88_60 (by
      have e1 : iI z59 = iI ((u54.toNat % 128 : Nat) : Int) := by rw [ez59]; unfold l2I; rw [iI_of]; exact l2i_and _
      have e2 := cB_val x v42 w48 u54 hv42 hw48 hu54
      have e3 := cB_bd x
      rw [e2] at e1
      exact (iI_eq hz59 ⟨by omega, by omega⟩).mp e1)
