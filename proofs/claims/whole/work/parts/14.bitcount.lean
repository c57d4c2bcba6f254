section NAMING
variable {X : Ev} {d : Nat} {J : Jt} {M0 M M' : Hp} {pc : Nat} {ls : List (Option Value)} {st : List Value} {v : Option Value}
theorem x_nmi {x : Int32} (k : ∀ y : Int32, y = x → G X d J M0 pc ls (.int y :: st) M v M') : G X d J M0 pc ls (.int x :: st) M v M' := k x rfl
theorem x_nml {x : Int64} (k : ∀ y : Int64, y = x → G X d J M0 pc ls (.long y :: st) M v M') : G X d J M0 pc ls (.long x :: st) M v M' := k x rfl
end NAMING
theorem bc_sum (n : Nat) {c e f g : Nat} (hc : c = bw p8 8 n) (he : e = c + c / 256) (hf : f = e + e / 65536) (hg : g = f + f / 4294967296) : e < 18446744073709551616 ∧ f < 18446744073709551616 ∧ g < 18446744073709551616 ∧ g % 128 = cnt n.testBit 64 := by
  obtain ⟨d0, d1, d2, d3, d4, d5, d6, d7, k0, k1, k2, k3, k4, k5, k6, k7, e1, e2⟩ := pop_sum n
  obtain ⟨r6, e6⟩ : ∃ r, r = d6 + 256 * d7 := ⟨_, rfl⟩
  obtain ⟨r5, e5⟩ : ∃ r, r = d5 + 256 * r6 := ⟨_, rfl⟩
  obtain ⟨r4, e4⟩ : ∃ r, r = d4 + 256 * r5 := ⟨_, rfl⟩
  obtain ⟨r3, e3⟩ : ∃ r, r = d3 + 256 * r4 := ⟨_, rfl⟩
  obtain ⟨r2, e2'⟩ : ∃ r, r = d2 + 256 * r3 := ⟨_, rfl⟩
  obtain ⟨r1, e1'⟩ : ∃ r, r = d1 + 256 * r2 := ⟨_, rfl⟩
  have q := bc_num k0 k1 k2 k3 k4 k5 k6 k7 e6 e5 e4 e3 e2' e1' (c := c) (by rw [hc, e1, e1', e2', e3, e4, e5, e6]) he hf hg
  rw [e2]
  exact ⟨Nat.lt_trans q.2.1 (by decide), Nat.lt_trans q.2.2.1 (by decide), Nat.lt_trans q.2.2.2.1 (by decide), q.2.2.2.2⟩
theorem mod7 (z : Nat) : z % 2 ^ 32 % 2 ^ 7 = z % 128 := by omega
theorem b16_lt {b : Nat} (h : b ≤ 4919131752989213764) : b < 18446744073709551616 ∧ b + b / 2 ^ 4 < 18446744073709551616 := by omega
theorem bc_all {x y1 y2 y3 y4 y5 y6 : Int64} (h1 : y1 = x - ((x.toUInt64 >>> ((nI 1).toInt64.toUInt64 &&& Int64.toUInt64 63)).toInt64 &&& 6148914691236517205)) (h2 : y2 = (y1 &&& 3689348814741910323) + ((y1.toUInt64 >>> ((nI 2).toInt64.toUInt64 &&& Int64.toUInt64 63)).toInt64 &&& 3689348814741910323)) (h3 : y3 = (y2 + (y2.toUInt64 >>> ((nI 4).toInt64.toUInt64 &&& Int64.toUInt64 63)).toInt64) &&& 1085102592571150095)
    (h4 : y4 = y3 + (y3.toUInt64 >>> ((nI 8).toInt64.toUInt64 &&& Int64.toUInt64 63)).toInt64) (h5 : y5 = y4 + (y4.toUInt64 >>> ((nI 16).toInt64.toUInt64 &&& Int64.toUInt64 63)).toInt64) (h6 : y6 = y5 + (y5.toUInt64 >>> ((nI 32).toInt64.toUInt64 &&& Int64.toUInt64 63)).toInt64) : y6.toInt32 &&& nI 127 = nI (pc64 x) := by
  have hx : uN x < 256 ^ 8 := uN_lt x
  obtain ⟨a, b, c, ea, hle, hal, eb, hb, ec, ep⟩ := popN (uN x) hx
  obtain ⟨e, he⟩ : ∃ e, e = c + c / 256 := ⟨_, rfl⟩
  obtain ⟨f, hf⟩ : ∃ f, f = e + e / 65536 := ⟨_, rfl⟩
  obtain ⟨g, hg⟩ : ∃ g, g = f + f / 4294967296 := ⟨_, rfl⟩
  obtain ⟨q1, q2, q3, q4⟩ := bc_sum (uN x) ep he hf hg
  have hb3 := b16_lt (b := b) (by rw [show (4919131752989213764 : Nat) = mk8 68 8 by decide +kernel]; exact hb)
  have n1 : uN y1 = a := by
    rw [h1, uN_sub, uN_and, uN_sk x (by decide), uN_65]
    · exact ea
    · rw [uN_and, uN_sk x (by decide), uN_65]
      exact hle
  have n2 : uN y2 = b := by
    rw [h2, uN_add, uN_and, uN_and, uN_sk y1 (by decide), uN_33, n1, show (2 : Nat) ^ 2 = 4 from rfl, eb]
    exact Nat.mod_eq_of_lt hb3.1
  have n3 : uN y3 = c := by
    rw [h3, uN_and, uN_add, uN_sk y2 (by decide), uN_0f, n2, Nat.mod_eq_of_lt hb3.2]
    exact ec
  have n4 : uN y4 = e := by
    rw [h4, uN_add, uN_sk y3 (by decide), n3, show (2 : Nat) ^ 8 = 256 from rfl, ← he, Nat.mod_eq_of_lt q1]
  have n5 : uN y5 = f := by
    rw [h5, uN_add, uN_sk y4 (by decide), n4, show (2 : Nat) ^ 16 = 65536 from rfl, ← hf, Nat.mod_eq_of_lt q2]
  have n6 : uN y6 = g := by
    rw [h6, uN_add, uN_sk y5 (by decide), n5, show (2 : Nat) ^ 32 = 4294967296 from rfl, ← hg, Nat.mod_eq_of_lt q3]
  rw [uN_i32, n6]
  have e7 : (nI 127).toBitVec.toNat = 2 ^ 7 - 1 := by decide +kernel
  rw [pk_and _ 7 e7]
  have e8 : (nI g).toBitVec.toNat = g % 2 ^ 32 := BitVec.toNat_ofNat g 32
  rw [e8, mod7, q4]
  rfl
theorem c_bitCount {X : Ev} {M : Hp} {x : Int64} : Cl X 0 jJ13_bitCount_95d88 [.long x] M (some (.int (nI (pc64 x)))) M := by
  refine Cl.of (ls := [some (.long (x)), none]) (by decide) rfl (Nat.le_of_ble_eq_true rfl) ?_
  refine x_lload_n dJ13_bitCount_95d88_0 rfl rfl ?_
  refine x_lload_n dJ13_bitCount_95d88_1 rfl rfl ?_
  refine x_iconst (y := nI 1) dJ13_bitCount_95d88_2 rfl ?_
  refine x_lushr dJ13_bitCount_95d88_3 ?_
  refine x_ldc2 (y := (6148914691236517205)) dJ13_bitCount_95d88_4 kl_RJ13_314 ?_
  refine x_land dJ13_bitCount_95d88_7 ?_
  refine x_lsub dJ13_bitCount_95d88_8 ?_
  refine x_nml (fun y1 hy1 => ?_)
  refine x_lstore_n (ls' := [some (.long (y1)), none]) dJ13_bitCount_95d88_9 rfl (by decide) rfl rfl ?_
  refine x_lload_n dJ13_bitCount_95d88_10 rfl rfl ?_
  refine x_ldc2 (y := (3689348814741910323)) dJ13_bitCount_95d88_11 kl_RJ13_316 ?_
  refine x_land dJ13_bitCount_95d88_14 ?_
  refine x_lload_n dJ13_bitCount_95d88_15 rfl rfl ?_
  refine x_iconst (y := nI 2) dJ13_bitCount_95d88_16 rfl ?_
  refine x_lushr dJ13_bitCount_95d88_17 ?_
  refine x_ldc2 (y := (3689348814741910323)) dJ13_bitCount_95d88_18 kl_RJ13_316 ?_
  refine x_land dJ13_bitCount_95d88_21 ?_
  refine x_ladd dJ13_bitCount_95d88_22 ?_
  refine x_nml (fun y2 hy2 => ?_)
  refine x_lstore_n (ls' := [some (.long (y2)), none]) dJ13_bitCount_95d88_23 rfl (by decide) rfl rfl ?_
  refine x_lload_n dJ13_bitCount_95d88_24 rfl rfl ?_
  refine x_lload_n dJ13_bitCount_95d88_25 rfl rfl ?_
  refine x_iconst (y := nI 4) dJ13_bitCount_95d88_26 rfl ?_
  refine x_lushr dJ13_bitCount_95d88_27 ?_
  refine x_ladd dJ13_bitCount_95d88_28 ?_
  refine x_ldc2 (y := (1085102592571150095)) dJ13_bitCount_95d88_29 kl_RJ13_318 ?_
  refine x_land dJ13_bitCount_95d88_32 ?_
  refine x_nml (fun y3 hy3 => ?_)
  refine x_lstore_n (ls' := [some (.long (y3)), none]) dJ13_bitCount_95d88_33 rfl (by decide) rfl rfl ?_
  refine x_lload_n dJ13_bitCount_95d88_34 rfl rfl ?_
  refine x_lload_n dJ13_bitCount_95d88_35 rfl rfl ?_
  refine x_bipush (y := nI 8) dJ13_bitCount_95d88_36 rfl ?_
  refine x_lushr dJ13_bitCount_95d88_38 ?_
  refine x_ladd dJ13_bitCount_95d88_39 ?_
  refine x_nml (fun y4 hy4 => ?_)
  refine x_lstore_n (ls' := [some (.long (y4)), none]) dJ13_bitCount_95d88_40 rfl (by decide) rfl rfl ?_
  refine x_lload_n dJ13_bitCount_95d88_41 rfl rfl ?_
  refine x_lload_n dJ13_bitCount_95d88_42 rfl rfl ?_
  refine x_bipush (y := nI 16) dJ13_bitCount_95d88_43 rfl ?_
  refine x_lushr dJ13_bitCount_95d88_45 ?_
  refine x_ladd dJ13_bitCount_95d88_46 ?_
  refine x_nml (fun y5 hy5 => ?_)
  refine x_lstore_n (ls' := [some (.long (y5)), none]) dJ13_bitCount_95d88_47 rfl (by decide) rfl rfl ?_
  refine x_lload_n dJ13_bitCount_95d88_48 rfl rfl ?_
  refine x_lload_n dJ13_bitCount_95d88_49 rfl rfl ?_
  refine x_bipush (y := nI 32) dJ13_bitCount_95d88_50 rfl ?_
  refine x_lushr dJ13_bitCount_95d88_52 ?_
  refine x_ladd dJ13_bitCount_95d88_53 ?_
  refine x_nml (fun y6 hy6 => ?_)
  refine x_lstore_n (ls' := [some (.long (y6)), none]) dJ13_bitCount_95d88_54 rfl (by decide) rfl rfl ?_
  refine x_lload_n dJ13_bitCount_95d88_55 rfl rfl ?_
  refine x_l2i dJ13_bitCount_95d88_56 ?_
  refine x_bipush (y := nI 127) dJ13_bitCount_95d88_57 rfl ?_
  refine x_iand dJ13_bitCount_95d88_59 ?_
  exact x_ireturn_eq dJ13_bitCount_95d88_60 rfl (bc_all hy1 hy2 hy3 hy4 hy5 hy6)
