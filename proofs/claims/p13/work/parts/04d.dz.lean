section
variable {c : ByteArray} {p : Nat} {b x y : UInt8} {r : List UInt8}
theorem dz_u1 (h : c.data.toList.drop p = b :: r) : (Jvm.ClassFile.Reader.u1 : Jvm.ClassFile.Decoder Nat) c p = .ok (b.toNat, p + 1) := by
  have h2 : (c.data.toList.drop p)[0]? = some b := by rw [h]; rfl
  rw [List.getElem?_drop] at h2
  obtain ⟨hp, hb⟩ := List.getElem?_eq_some_iff.mp h2
  have hp2 : p < c.size := by
    have h3 : p + 0 < c.data.toList.length := hp
    show p < c.data.size
    rw [Array.length_toList] at h3
    omega
  have hb2 : c[p]'hp2 = b := by
    show c.data[p] = b
    rw [← hb]
    simp
  unfold Jvm.ClassFile.Reader.u1
  show (dite (p < c.size) (fun h => (do set (p + 1); pure (c[p]'h).toNat : Jvm.ClassFile.Decoder Nat)) (fun _ => throw (Jvm.ClassFile.HasTruncated.truncated p))) c p = _
  rw [dif_pos hp2]
  show Except.ok ((c[p]'hp2).toNat, p + 1) = _
  rw [hb2]
theorem dz_dr (h : c.data.toList.drop p = b :: r) : c.data.toList.drop (p + 1) = r := by
  have e : c.data.toList.drop (p + 1) = (c.data.toList.drop p).drop 1 := by rw [List.drop_drop]
  rw [e, h]; rfl
theorem dz_u2 (h : c.data.toList.drop p = x :: y :: r) : (Jvm.ClassFile.Reader.u2 : Jvm.ClassFile.Decoder Nat) c p = .ok (x.toNat * 256 + y.toNat, p + 2) := by
  unfold Jvm.ClassFile.Reader.u2
  change Except.bind ((Jvm.ClassFile.Reader.u1 : Jvm.ClassFile.Decoder Nat) c p) _ = _
  rw [dz_u1 h]
  change Except.bind ((Jvm.ClassFile.Reader.u1 : Jvm.ClassFile.Decoder Nat) c (p + 1)) _ = _
  rw [dz_u1 (dz_dr h)]
  rfl
theorem dz_s1 (h : c.data.toList.drop p = x :: r) : (Jvm.ClassFile.Reader.s1 : Jvm.ClassFile.Decoder Int) c p = .ok (Jvm.ClassFile.Reader.signed 8 x.toNat, p + 1) := by
  unfold Jvm.ClassFile.Reader.s1
  change Except.bind ((Jvm.ClassFile.Reader.u1 : Jvm.ClassFile.Decoder Nat) c p) _ = _
  rw [dz_u1 h]
  rfl
theorem dz_s2 (h : c.data.toList.drop p = x :: y :: r) : (Jvm.ClassFile.Reader.s2 : Jvm.ClassFile.Decoder Int) c p = .ok (Jvm.ClassFile.Reader.signed 16 (x.toNat * 256 + y.toNat), p + 2) := by
  unfold Jvm.ClassFile.Reader.s2
  change Except.bind ((Jvm.ClassFile.Reader.u2 : Jvm.ClassFile.Decoder Nat) c p) _ = _
  rw [dz_u2 h]
  rfl
theorem dz_fin {i : Jvm.ClassFile.Instr} {n : Nat} (h : (Jvm.ClassFile.Decoder.instr p) c p = .ok (i, p + n)) : Jvm.ClassFile.decode c p = .ok (i, n) := by
  unfold Jvm.ClassFile.decode
  change Except.bind ((Jvm.ClassFile.Decoder.instr p) c p) _ = _
  rw [h]
  change Except.ok (i, p + n - p) = _
  rw [Nat.add_sub_cancel_left]
theorem dz_26 (h : c.data.toList.drop p = b :: r) (hb : b.toNat = 26) : Jvm.ClassFile.decode c p = .ok (.iload_n 0, 1) := by
  refine dz_fin ?_
  unfold Jvm.ClassFile.Decoder.instr
  change Except.bind ((Jvm.ClassFile.Reader.u1 : Jvm.ClassFile.Decoder Nat) c p) _ = _
  rw [dz_u1 h, hb]
  rfl
theorem dz_42 (h : c.data.toList.drop p = b :: r) (hb : b.toNat = 42) : Jvm.ClassFile.decode c p = .ok (.aload_n 0, 1) := by
  refine dz_fin ?_
  unfold Jvm.ClassFile.Decoder.instr
  change Except.bind ((Jvm.ClassFile.Reader.u1 : Jvm.ClassFile.Decoder Nat) c p) _ = _
  rw [dz_u1 h, hb]
  rfl
theorem dz_59 (h : c.data.toList.drop p = b :: r) (hb : b.toNat = 59) : Jvm.ClassFile.decode c p = .ok (.istore_n 0, 1) := by
  refine dz_fin ?_
  unfold Jvm.ClassFile.Decoder.instr
  change Except.bind ((Jvm.ClassFile.Reader.u1 : Jvm.ClassFile.Decoder Nat) c p) _ = _
  rw [dz_u1 h, hb]
  rfl
theorem dz_75 (h : c.data.toList.drop p = b :: r) (hb : b.toNat = 75) : Jvm.ClassFile.decode c p = .ok (.astore_n 0, 1) := by
  refine dz_fin ?_
  unfold Jvm.ClassFile.Decoder.instr
  change Except.bind ((Jvm.ClassFile.Reader.u1 : Jvm.ClassFile.Decoder Nat) c p) _ = _
  rw [dz_u1 h, hb]
  rfl
theorem dz_30 (h : c.data.toList.drop p = b :: r) (hb : b.toNat = 30) : Jvm.ClassFile.decode c p = .ok (.lload_n 0, 1) := by
  refine dz_fin ?_
  unfold Jvm.ClassFile.Decoder.instr
  change Except.bind ((Jvm.ClassFile.Reader.u1 : Jvm.ClassFile.Decoder Nat) c p) _ = _
  rw [dz_u1 h, hb]
  rfl
theorem dz_63 (h : c.data.toList.drop p = b :: r) (hb : b.toNat = 63) : Jvm.ClassFile.decode c p = .ok (.lstore_n 0, 1) := by
  refine dz_fin ?_
  unfold Jvm.ClassFile.Decoder.instr
  change Except.bind ((Jvm.ClassFile.Reader.u1 : Jvm.ClassFile.Decoder Nat) c p) _ = _
  rw [dz_u1 h, hb]
  rfl
theorem dz_27 (h : c.data.toList.drop p = b :: r) (hb : b.toNat = 27) : Jvm.ClassFile.decode c p = .ok (.iload_n 1, 1) := by
  refine dz_fin ?_
  unfold Jvm.ClassFile.Decoder.instr
  change Except.bind ((Jvm.ClassFile.Reader.u1 : Jvm.ClassFile.Decoder Nat) c p) _ = _
  rw [dz_u1 h, hb]
  rfl
theorem dz_43 (h : c.data.toList.drop p = b :: r) (hb : b.toNat = 43) : Jvm.ClassFile.decode c p = .ok (.aload_n 1, 1) := by
  refine dz_fin ?_
  unfold Jvm.ClassFile.Decoder.instr
  change Except.bind ((Jvm.ClassFile.Reader.u1 : Jvm.ClassFile.Decoder Nat) c p) _ = _
  rw [dz_u1 h, hb]
  rfl
theorem dz_60 (h : c.data.toList.drop p = b :: r) (hb : b.toNat = 60) : Jvm.ClassFile.decode c p = .ok (.istore_n 1, 1) := by
  refine dz_fin ?_
  unfold Jvm.ClassFile.Decoder.instr
  change Except.bind ((Jvm.ClassFile.Reader.u1 : Jvm.ClassFile.Decoder Nat) c p) _ = _
  rw [dz_u1 h, hb]
  rfl
theorem dz_76 (h : c.data.toList.drop p = b :: r) (hb : b.toNat = 76) : Jvm.ClassFile.decode c p = .ok (.astore_n 1, 1) := by
  refine dz_fin ?_
  unfold Jvm.ClassFile.Decoder.instr
  change Except.bind ((Jvm.ClassFile.Reader.u1 : Jvm.ClassFile.Decoder Nat) c p) _ = _
  rw [dz_u1 h, hb]
  rfl
theorem dz_31 (h : c.data.toList.drop p = b :: r) (hb : b.toNat = 31) : Jvm.ClassFile.decode c p = .ok (.lload_n 1, 1) := by
  refine dz_fin ?_
  unfold Jvm.ClassFile.Decoder.instr
  change Except.bind ((Jvm.ClassFile.Reader.u1 : Jvm.ClassFile.Decoder Nat) c p) _ = _
  rw [dz_u1 h, hb]
  rfl
theorem dz_64 (h : c.data.toList.drop p = b :: r) (hb : b.toNat = 64) : Jvm.ClassFile.decode c p = .ok (.lstore_n 1, 1) := by
  refine dz_fin ?_
  unfold Jvm.ClassFile.Decoder.instr
  change Except.bind ((Jvm.ClassFile.Reader.u1 : Jvm.ClassFile.Decoder Nat) c p) _ = _
  rw [dz_u1 h, hb]
  rfl
theorem dz_28 (h : c.data.toList.drop p = b :: r) (hb : b.toNat = 28) : Jvm.ClassFile.decode c p = .ok (.iload_n 2, 1) := by
  refine dz_fin ?_
  unfold Jvm.ClassFile.Decoder.instr
  change Except.bind ((Jvm.ClassFile.Reader.u1 : Jvm.ClassFile.Decoder Nat) c p) _ = _
  rw [dz_u1 h, hb]
  rfl
theorem dz_44 (h : c.data.toList.drop p = b :: r) (hb : b.toNat = 44) : Jvm.ClassFile.decode c p = .ok (.aload_n 2, 1) := by
  refine dz_fin ?_
  unfold Jvm.ClassFile.Decoder.instr
  change Except.bind ((Jvm.ClassFile.Reader.u1 : Jvm.ClassFile.Decoder Nat) c p) _ = _
  rw [dz_u1 h, hb]
  rfl
theorem dz_61 (h : c.data.toList.drop p = b :: r) (hb : b.toNat = 61) : Jvm.ClassFile.decode c p = .ok (.istore_n 2, 1) := by
  refine dz_fin ?_
  unfold Jvm.ClassFile.Decoder.instr
  change Except.bind ((Jvm.ClassFile.Reader.u1 : Jvm.ClassFile.Decoder Nat) c p) _ = _
  rw [dz_u1 h, hb]
  rfl
theorem dz_77 (h : c.data.toList.drop p = b :: r) (hb : b.toNat = 77) : Jvm.ClassFile.decode c p = .ok (.astore_n 2, 1) := by
  refine dz_fin ?_
  unfold Jvm.ClassFile.Decoder.instr
  change Except.bind ((Jvm.ClassFile.Reader.u1 : Jvm.ClassFile.Decoder Nat) c p) _ = _
  rw [dz_u1 h, hb]
  rfl
theorem dz_32 (h : c.data.toList.drop p = b :: r) (hb : b.toNat = 32) : Jvm.ClassFile.decode c p = .ok (.lload_n 2, 1) := by
  refine dz_fin ?_
  unfold Jvm.ClassFile.Decoder.instr
  change Except.bind ((Jvm.ClassFile.Reader.u1 : Jvm.ClassFile.Decoder Nat) c p) _ = _
  rw [dz_u1 h, hb]
  rfl
theorem dz_65 (h : c.data.toList.drop p = b :: r) (hb : b.toNat = 65) : Jvm.ClassFile.decode c p = .ok (.lstore_n 2, 1) := by
  refine dz_fin ?_
  unfold Jvm.ClassFile.Decoder.instr
  change Except.bind ((Jvm.ClassFile.Reader.u1 : Jvm.ClassFile.Decoder Nat) c p) _ = _
  rw [dz_u1 h, hb]
  rfl
theorem dz_29 (h : c.data.toList.drop p = b :: r) (hb : b.toNat = 29) : Jvm.ClassFile.decode c p = .ok (.iload_n 3, 1) := by
  refine dz_fin ?_
  unfold Jvm.ClassFile.Decoder.instr
  change Except.bind ((Jvm.ClassFile.Reader.u1 : Jvm.ClassFile.Decoder Nat) c p) _ = _
  rw [dz_u1 h, hb]
  rfl
theorem dz_45 (h : c.data.toList.drop p = b :: r) (hb : b.toNat = 45) : Jvm.ClassFile.decode c p = .ok (.aload_n 3, 1) := by
  refine dz_fin ?_
  unfold Jvm.ClassFile.Decoder.instr
  change Except.bind ((Jvm.ClassFile.Reader.u1 : Jvm.ClassFile.Decoder Nat) c p) _ = _
  rw [dz_u1 h, hb]
  rfl
theorem dz_62 (h : c.data.toList.drop p = b :: r) (hb : b.toNat = 62) : Jvm.ClassFile.decode c p = .ok (.istore_n 3, 1) := by
  refine dz_fin ?_
  unfold Jvm.ClassFile.Decoder.instr
  change Except.bind ((Jvm.ClassFile.Reader.u1 : Jvm.ClassFile.Decoder Nat) c p) _ = _
  rw [dz_u1 h, hb]
  rfl
theorem dz_78 (h : c.data.toList.drop p = b :: r) (hb : b.toNat = 78) : Jvm.ClassFile.decode c p = .ok (.astore_n 3, 1) := by
  refine dz_fin ?_
  unfold Jvm.ClassFile.Decoder.instr
  change Except.bind ((Jvm.ClassFile.Reader.u1 : Jvm.ClassFile.Decoder Nat) c p) _ = _
  rw [dz_u1 h, hb]
  rfl
theorem dz_33 (h : c.data.toList.drop p = b :: r) (hb : b.toNat = 33) : Jvm.ClassFile.decode c p = .ok (.lload_n 3, 1) := by
  refine dz_fin ?_
  unfold Jvm.ClassFile.Decoder.instr
  change Except.bind ((Jvm.ClassFile.Reader.u1 : Jvm.ClassFile.Decoder Nat) c p) _ = _
  rw [dz_u1 h, hb]
  rfl
theorem dz_66 (h : c.data.toList.drop p = b :: r) (hb : b.toNat = 66) : Jvm.ClassFile.decode c p = .ok (.lstore_n 3, 1) := by
  refine dz_fin ?_
  unfold Jvm.ClassFile.Decoder.instr
  change Except.bind ((Jvm.ClassFile.Reader.u1 : Jvm.ClassFile.Decoder Nat) c p) _ = _
  rw [dz_u1 h, hb]
  rfl
theorem dz_2 (h : c.data.toList.drop p = b :: r) (hb : b.toNat = 2) : Jvm.ClassFile.decode c p = .ok (.iconst (-1), 1) := by
  refine dz_fin ?_
  unfold Jvm.ClassFile.Decoder.instr
  change Except.bind ((Jvm.ClassFile.Reader.u1 : Jvm.ClassFile.Decoder Nat) c p) _ = _
  rw [dz_u1 h, hb]
  rfl
theorem dz_3 (h : c.data.toList.drop p = b :: r) (hb : b.toNat = 3) : Jvm.ClassFile.decode c p = .ok (.iconst 0, 1) := by
  refine dz_fin ?_
  unfold Jvm.ClassFile.Decoder.instr
  change Except.bind ((Jvm.ClassFile.Reader.u1 : Jvm.ClassFile.Decoder Nat) c p) _ = _
  rw [dz_u1 h, hb]
  rfl
theorem dz_4 (h : c.data.toList.drop p = b :: r) (hb : b.toNat = 4) : Jvm.ClassFile.decode c p = .ok (.iconst 1, 1) := by
  refine dz_fin ?_
  unfold Jvm.ClassFile.Decoder.instr
  change Except.bind ((Jvm.ClassFile.Reader.u1 : Jvm.ClassFile.Decoder Nat) c p) _ = _
  rw [dz_u1 h, hb]
  rfl
theorem dz_5 (h : c.data.toList.drop p = b :: r) (hb : b.toNat = 5) : Jvm.ClassFile.decode c p = .ok (.iconst 2, 1) := by
  refine dz_fin ?_
  unfold Jvm.ClassFile.Decoder.instr
  change Except.bind ((Jvm.ClassFile.Reader.u1 : Jvm.ClassFile.Decoder Nat) c p) _ = _
  rw [dz_u1 h, hb]
  rfl
theorem dz_6 (h : c.data.toList.drop p = b :: r) (hb : b.toNat = 6) : Jvm.ClassFile.decode c p = .ok (.iconst 3, 1) := by
  refine dz_fin ?_
  unfold Jvm.ClassFile.Decoder.instr
  change Except.bind ((Jvm.ClassFile.Reader.u1 : Jvm.ClassFile.Decoder Nat) c p) _ = _
  rw [dz_u1 h, hb]
  rfl
theorem dz_7 (h : c.data.toList.drop p = b :: r) (hb : b.toNat = 7) : Jvm.ClassFile.decode c p = .ok (.iconst 4, 1) := by
  refine dz_fin ?_
  unfold Jvm.ClassFile.Decoder.instr
  change Except.bind ((Jvm.ClassFile.Reader.u1 : Jvm.ClassFile.Decoder Nat) c p) _ = _
  rw [dz_u1 h, hb]
  rfl
theorem dz_8 (h : c.data.toList.drop p = b :: r) (hb : b.toNat = 8) : Jvm.ClassFile.decode c p = .ok (.iconst 5, 1) := by
  refine dz_fin ?_
  unfold Jvm.ClassFile.Decoder.instr
  change Except.bind ((Jvm.ClassFile.Reader.u1 : Jvm.ClassFile.Decoder Nat) c p) _ = _
  rw [dz_u1 h, hb]
  rfl
theorem dz_9 (h : c.data.toList.drop p = b :: r) (hb : b.toNat = 9) : Jvm.ClassFile.decode c p = .ok (.lconst 0, 1) := by
  refine dz_fin ?_
  unfold Jvm.ClassFile.Decoder.instr
  change Except.bind ((Jvm.ClassFile.Reader.u1 : Jvm.ClassFile.Decoder Nat) c p) _ = _
  rw [dz_u1 h, hb]
  rfl
theorem dz_10 (h : c.data.toList.drop p = b :: r) (hb : b.toNat = 10) : Jvm.ClassFile.decode c p = .ok (.lconst 1, 1) := by
  refine dz_fin ?_
  unfold Jvm.ClassFile.Decoder.instr
  change Except.bind ((Jvm.ClassFile.Reader.u1 : Jvm.ClassFile.Decoder Nat) c p) _ = _
  rw [dz_u1 h, hb]
  rfl
theorem dz_46 (h : c.data.toList.drop p = b :: r) (hb : b.toNat = 46) : Jvm.ClassFile.decode c p = .ok (.iaload, 1) := by
  refine dz_fin ?_
  unfold Jvm.ClassFile.Decoder.instr
  change Except.bind ((Jvm.ClassFile.Reader.u1 : Jvm.ClassFile.Decoder Nat) c p) _ = _
  rw [dz_u1 h, hb]
  rfl
theorem dz_47 (h : c.data.toList.drop p = b :: r) (hb : b.toNat = 47) : Jvm.ClassFile.decode c p = .ok (.laload, 1) := by
  refine dz_fin ?_
  unfold Jvm.ClassFile.Decoder.instr
  change Except.bind ((Jvm.ClassFile.Reader.u1 : Jvm.ClassFile.Decoder Nat) c p) _ = _
  rw [dz_u1 h, hb]
  rfl
theorem dz_50 (h : c.data.toList.drop p = b :: r) (hb : b.toNat = 50) : Jvm.ClassFile.decode c p = .ok (.aaload, 1) := by
  refine dz_fin ?_
  unfold Jvm.ClassFile.Decoder.instr
  change Except.bind ((Jvm.ClassFile.Reader.u1 : Jvm.ClassFile.Decoder Nat) c p) _ = _
  rw [dz_u1 h, hb]
  rfl
theorem dz_51 (h : c.data.toList.drop p = b :: r) (hb : b.toNat = 51) : Jvm.ClassFile.decode c p = .ok (.baload, 1) := by
  refine dz_fin ?_
  unfold Jvm.ClassFile.Decoder.instr
  change Except.bind ((Jvm.ClassFile.Reader.u1 : Jvm.ClassFile.Decoder Nat) c p) _ = _
  rw [dz_u1 h, hb]
  rfl
theorem dz_52 (h : c.data.toList.drop p = b :: r) (hb : b.toNat = 52) : Jvm.ClassFile.decode c p = .ok (.caload, 1) := by
  refine dz_fin ?_
  unfold Jvm.ClassFile.Decoder.instr
  change Except.bind ((Jvm.ClassFile.Reader.u1 : Jvm.ClassFile.Decoder Nat) c p) _ = _
  rw [dz_u1 h, hb]
  rfl
theorem dz_79 (h : c.data.toList.drop p = b :: r) (hb : b.toNat = 79) : Jvm.ClassFile.decode c p = .ok (.iastore, 1) := by
  refine dz_fin ?_
  unfold Jvm.ClassFile.Decoder.instr
  change Except.bind ((Jvm.ClassFile.Reader.u1 : Jvm.ClassFile.Decoder Nat) c p) _ = _
  rw [dz_u1 h, hb]
  rfl
theorem dz_80 (h : c.data.toList.drop p = b :: r) (hb : b.toNat = 80) : Jvm.ClassFile.decode c p = .ok (.lastore, 1) := by
  refine dz_fin ?_
  unfold Jvm.ClassFile.Decoder.instr
  change Except.bind ((Jvm.ClassFile.Reader.u1 : Jvm.ClassFile.Decoder Nat) c p) _ = _
  rw [dz_u1 h, hb]
  rfl
theorem dz_83 (h : c.data.toList.drop p = b :: r) (hb : b.toNat = 83) : Jvm.ClassFile.decode c p = .ok (.aastore, 1) := by
  refine dz_fin ?_
  unfold Jvm.ClassFile.Decoder.instr
  change Except.bind ((Jvm.ClassFile.Reader.u1 : Jvm.ClassFile.Decoder Nat) c p) _ = _
  rw [dz_u1 h, hb]
  rfl
theorem dz_84 (h : c.data.toList.drop p = b :: r) (hb : b.toNat = 84) : Jvm.ClassFile.decode c p = .ok (.bastore, 1) := by
  refine dz_fin ?_
  unfold Jvm.ClassFile.Decoder.instr
  change Except.bind ((Jvm.ClassFile.Reader.u1 : Jvm.ClassFile.Decoder Nat) c p) _ = _
  rw [dz_u1 h, hb]
  rfl
theorem dz_85 (h : c.data.toList.drop p = b :: r) (hb : b.toNat = 85) : Jvm.ClassFile.decode c p = .ok (.castore, 1) := by
  refine dz_fin ?_
  unfold Jvm.ClassFile.Decoder.instr
  change Except.bind ((Jvm.ClassFile.Reader.u1 : Jvm.ClassFile.Decoder Nat) c p) _ = _
  rw [dz_u1 h, hb]
  rfl
theorem dz_87 (h : c.data.toList.drop p = b :: r) (hb : b.toNat = 87) : Jvm.ClassFile.decode c p = .ok (.pop, 1) := by
  refine dz_fin ?_
  unfold Jvm.ClassFile.Decoder.instr
  change Except.bind ((Jvm.ClassFile.Reader.u1 : Jvm.ClassFile.Decoder Nat) c p) _ = _
  rw [dz_u1 h, hb]
  rfl
theorem dz_88 (h : c.data.toList.drop p = b :: r) (hb : b.toNat = 88) : Jvm.ClassFile.decode c p = .ok (.pop2, 1) := by
  refine dz_fin ?_
  unfold Jvm.ClassFile.Decoder.instr
  change Except.bind ((Jvm.ClassFile.Reader.u1 : Jvm.ClassFile.Decoder Nat) c p) _ = _
  rw [dz_u1 h, hb]
  rfl
theorem dz_89 (h : c.data.toList.drop p = b :: r) (hb : b.toNat = 89) : Jvm.ClassFile.decode c p = .ok (.dup, 1) := by
  refine dz_fin ?_
  unfold Jvm.ClassFile.Decoder.instr
  change Except.bind ((Jvm.ClassFile.Reader.u1 : Jvm.ClassFile.Decoder Nat) c p) _ = _
  rw [dz_u1 h, hb]
  rfl
theorem dz_92 (h : c.data.toList.drop p = b :: r) (hb : b.toNat = 92) : Jvm.ClassFile.decode c p = .ok (.dup2, 1) := by
  refine dz_fin ?_
  unfold Jvm.ClassFile.Decoder.instr
  change Except.bind ((Jvm.ClassFile.Reader.u1 : Jvm.ClassFile.Decoder Nat) c p) _ = _
  rw [dz_u1 h, hb]
  rfl
theorem dz_96 (h : c.data.toList.drop p = b :: r) (hb : b.toNat = 96) : Jvm.ClassFile.decode c p = .ok (.iadd, 1) := by
  refine dz_fin ?_
  unfold Jvm.ClassFile.Decoder.instr
  change Except.bind ((Jvm.ClassFile.Reader.u1 : Jvm.ClassFile.Decoder Nat) c p) _ = _
  rw [dz_u1 h, hb]
  rfl
theorem dz_97 (h : c.data.toList.drop p = b :: r) (hb : b.toNat = 97) : Jvm.ClassFile.decode c p = .ok (.ladd, 1) := by
  refine dz_fin ?_
  unfold Jvm.ClassFile.Decoder.instr
  change Except.bind ((Jvm.ClassFile.Reader.u1 : Jvm.ClassFile.Decoder Nat) c p) _ = _
  rw [dz_u1 h, hb]
  rfl
theorem dz_100 (h : c.data.toList.drop p = b :: r) (hb : b.toNat = 100) : Jvm.ClassFile.decode c p = .ok (.isub, 1) := by
  refine dz_fin ?_
  unfold Jvm.ClassFile.Decoder.instr
  change Except.bind ((Jvm.ClassFile.Reader.u1 : Jvm.ClassFile.Decoder Nat) c p) _ = _
  rw [dz_u1 h, hb]
  rfl
theorem dz_101 (h : c.data.toList.drop p = b :: r) (hb : b.toNat = 101) : Jvm.ClassFile.decode c p = .ok (.lsub, 1) := by
  refine dz_fin ?_
  unfold Jvm.ClassFile.Decoder.instr
  change Except.bind ((Jvm.ClassFile.Reader.u1 : Jvm.ClassFile.Decoder Nat) c p) _ = _
  rw [dz_u1 h, hb]
  rfl
theorem dz_104 (h : c.data.toList.drop p = b :: r) (hb : b.toNat = 104) : Jvm.ClassFile.decode c p = .ok (.imul, 1) := by
  refine dz_fin ?_
  unfold Jvm.ClassFile.Decoder.instr
  change Except.bind ((Jvm.ClassFile.Reader.u1 : Jvm.ClassFile.Decoder Nat) c p) _ = _
  rw [dz_u1 h, hb]
  rfl
theorem dz_105 (h : c.data.toList.drop p = b :: r) (hb : b.toNat = 105) : Jvm.ClassFile.decode c p = .ok (.lmul, 1) := by
  refine dz_fin ?_
  unfold Jvm.ClassFile.Decoder.instr
  change Except.bind ((Jvm.ClassFile.Reader.u1 : Jvm.ClassFile.Decoder Nat) c p) _ = _
  rw [dz_u1 h, hb]
  rfl
theorem dz_108 (h : c.data.toList.drop p = b :: r) (hb : b.toNat = 108) : Jvm.ClassFile.decode c p = .ok (.idiv, 1) := by
  refine dz_fin ?_
  unfold Jvm.ClassFile.Decoder.instr
  change Except.bind ((Jvm.ClassFile.Reader.u1 : Jvm.ClassFile.Decoder Nat) c p) _ = _
  rw [dz_u1 h, hb]
  rfl
theorem dz_109 (h : c.data.toList.drop p = b :: r) (hb : b.toNat = 109) : Jvm.ClassFile.decode c p = .ok (.ldiv, 1) := by
  refine dz_fin ?_
  unfold Jvm.ClassFile.Decoder.instr
  change Except.bind ((Jvm.ClassFile.Reader.u1 : Jvm.ClassFile.Decoder Nat) c p) _ = _
  rw [dz_u1 h, hb]
  rfl
theorem dz_112 (h : c.data.toList.drop p = b :: r) (hb : b.toNat = 112) : Jvm.ClassFile.decode c p = .ok (.irem, 1) := by
  refine dz_fin ?_
  unfold Jvm.ClassFile.Decoder.instr
  change Except.bind ((Jvm.ClassFile.Reader.u1 : Jvm.ClassFile.Decoder Nat) c p) _ = _
  rw [dz_u1 h, hb]
  rfl
theorem dz_113 (h : c.data.toList.drop p = b :: r) (hb : b.toNat = 113) : Jvm.ClassFile.decode c p = .ok (.lrem, 1) := by
  refine dz_fin ?_
  unfold Jvm.ClassFile.Decoder.instr
  change Except.bind ((Jvm.ClassFile.Reader.u1 : Jvm.ClassFile.Decoder Nat) c p) _ = _
  rw [dz_u1 h, hb]
  rfl
theorem dz_120 (h : c.data.toList.drop p = b :: r) (hb : b.toNat = 120) : Jvm.ClassFile.decode c p = .ok (.ishl, 1) := by
  refine dz_fin ?_
  unfold Jvm.ClassFile.Decoder.instr
  change Except.bind ((Jvm.ClassFile.Reader.u1 : Jvm.ClassFile.Decoder Nat) c p) _ = _
  rw [dz_u1 h, hb]
  rfl
theorem dz_122 (h : c.data.toList.drop p = b :: r) (hb : b.toNat = 122) : Jvm.ClassFile.decode c p = .ok (.ishr, 1) := by
  refine dz_fin ?_
  unfold Jvm.ClassFile.Decoder.instr
  change Except.bind ((Jvm.ClassFile.Reader.u1 : Jvm.ClassFile.Decoder Nat) c p) _ = _
  rw [dz_u1 h, hb]
  rfl
theorem dz_124 (h : c.data.toList.drop p = b :: r) (hb : b.toNat = 124) : Jvm.ClassFile.decode c p = .ok (.iushr, 1) := by
  refine dz_fin ?_
  unfold Jvm.ClassFile.Decoder.instr
  change Except.bind ((Jvm.ClassFile.Reader.u1 : Jvm.ClassFile.Decoder Nat) c p) _ = _
  rw [dz_u1 h, hb]
  rfl
theorem dz_126 (h : c.data.toList.drop p = b :: r) (hb : b.toNat = 126) : Jvm.ClassFile.decode c p = .ok (.iand, 1) := by
  refine dz_fin ?_
  unfold Jvm.ClassFile.Decoder.instr
  change Except.bind ((Jvm.ClassFile.Reader.u1 : Jvm.ClassFile.Decoder Nat) c p) _ = _
  rw [dz_u1 h, hb]
  rfl
theorem dz_127 (h : c.data.toList.drop p = b :: r) (hb : b.toNat = 127) : Jvm.ClassFile.decode c p = .ok (.land, 1) := by
  refine dz_fin ?_
  unfold Jvm.ClassFile.Decoder.instr
  change Except.bind ((Jvm.ClassFile.Reader.u1 : Jvm.ClassFile.Decoder Nat) c p) _ = _
  rw [dz_u1 h, hb]
  rfl
theorem dz_128 (h : c.data.toList.drop p = b :: r) (hb : b.toNat = 128) : Jvm.ClassFile.decode c p = .ok (.ior, 1) := by
  refine dz_fin ?_
  unfold Jvm.ClassFile.Decoder.instr
  change Except.bind ((Jvm.ClassFile.Reader.u1 : Jvm.ClassFile.Decoder Nat) c p) _ = _
  rw [dz_u1 h, hb]
  rfl
theorem dz_130 (h : c.data.toList.drop p = b :: r) (hb : b.toNat = 130) : Jvm.ClassFile.decode c p = .ok (.ixor, 1) := by
  refine dz_fin ?_
  unfold Jvm.ClassFile.Decoder.instr
  change Except.bind ((Jvm.ClassFile.Reader.u1 : Jvm.ClassFile.Decoder Nat) c p) _ = _
  rw [dz_u1 h, hb]
  rfl
theorem dz_133 (h : c.data.toList.drop p = b :: r) (hb : b.toNat = 133) : Jvm.ClassFile.decode c p = .ok (.i2l, 1) := by
  refine dz_fin ?_
  unfold Jvm.ClassFile.Decoder.instr
  change Except.bind ((Jvm.ClassFile.Reader.u1 : Jvm.ClassFile.Decoder Nat) c p) _ = _
  rw [dz_u1 h, hb]
  rfl
theorem dz_136 (h : c.data.toList.drop p = b :: r) (hb : b.toNat = 136) : Jvm.ClassFile.decode c p = .ok (.l2i, 1) := by
  refine dz_fin ?_
  unfold Jvm.ClassFile.Decoder.instr
  change Except.bind ((Jvm.ClassFile.Reader.u1 : Jvm.ClassFile.Decoder Nat) c p) _ = _
  rw [dz_u1 h, hb]
  rfl
theorem dz_146 (h : c.data.toList.drop p = b :: r) (hb : b.toNat = 146) : Jvm.ClassFile.decode c p = .ok (.i2c, 1) := by
  refine dz_fin ?_
  unfold Jvm.ClassFile.Decoder.instr
  change Except.bind ((Jvm.ClassFile.Reader.u1 : Jvm.ClassFile.Decoder Nat) c p) _ = _
  rw [dz_u1 h, hb]
  rfl
theorem dz_148 (h : c.data.toList.drop p = b :: r) (hb : b.toNat = 148) : Jvm.ClassFile.decode c p = .ok (.lcmp, 1) := by
  refine dz_fin ?_
  unfold Jvm.ClassFile.Decoder.instr
  change Except.bind ((Jvm.ClassFile.Reader.u1 : Jvm.ClassFile.Decoder Nat) c p) _ = _
  rw [dz_u1 h, hb]
  rfl
theorem dz_172 (h : c.data.toList.drop p = b :: r) (hb : b.toNat = 172) : Jvm.ClassFile.decode c p = .ok (.ireturn, 1) := by
  refine dz_fin ?_
  unfold Jvm.ClassFile.Decoder.instr
  change Except.bind ((Jvm.ClassFile.Reader.u1 : Jvm.ClassFile.Decoder Nat) c p) _ = _
  rw [dz_u1 h, hb]
  rfl
theorem dz_173 (h : c.data.toList.drop p = b :: r) (hb : b.toNat = 173) : Jvm.ClassFile.decode c p = .ok (.lreturn, 1) := by
  refine dz_fin ?_
  unfold Jvm.ClassFile.Decoder.instr
  change Except.bind ((Jvm.ClassFile.Reader.u1 : Jvm.ClassFile.Decoder Nat) c p) _ = _
  rw [dz_u1 h, hb]
  rfl
theorem dz_176 (h : c.data.toList.drop p = b :: r) (hb : b.toNat = 176) : Jvm.ClassFile.decode c p = .ok (.areturn, 1) := by
  refine dz_fin ?_
  unfold Jvm.ClassFile.Decoder.instr
  change Except.bind ((Jvm.ClassFile.Reader.u1 : Jvm.ClassFile.Decoder Nat) c p) _ = _
  rw [dz_u1 h, hb]
  rfl
theorem dz_177 (h : c.data.toList.drop p = b :: r) (hb : b.toNat = 177) : Jvm.ClassFile.decode c p = .ok (.return_, 1) := by
  refine dz_fin ?_
  unfold Jvm.ClassFile.Decoder.instr
  change Except.bind ((Jvm.ClassFile.Reader.u1 : Jvm.ClassFile.Decoder Nat) c p) _ = _
  rw [dz_u1 h, hb]
  rfl
theorem dz_190 (h : c.data.toList.drop p = b :: r) (hb : b.toNat = 190) : Jvm.ClassFile.decode c p = .ok (.arraylength, 1) := by
  refine dz_fin ?_
  unfold Jvm.ClassFile.Decoder.instr
  change Except.bind ((Jvm.ClassFile.Reader.u1 : Jvm.ClassFile.Decoder Nat) c p) _ = _
  rw [dz_u1 h, hb]
  rfl
theorem dz_191 (h : c.data.toList.drop p = b :: r) (hb : b.toNat = 191) : Jvm.ClassFile.decode c p = .ok (.athrow, 1) := by
  refine dz_fin ?_
  unfold Jvm.ClassFile.Decoder.instr
  change Except.bind ((Jvm.ClassFile.Reader.u1 : Jvm.ClassFile.Decoder Nat) c p) _ = _
  rw [dz_u1 h, hb]
  rfl
theorem dz_1 (h : c.data.toList.drop p = b :: r) (hb : b.toNat = 1) : Jvm.ClassFile.decode c p = .ok (.aconst_null, 1) := by
  refine dz_fin ?_
  unfold Jvm.ClassFile.Decoder.instr
  change Except.bind ((Jvm.ClassFile.Reader.u1 : Jvm.ClassFile.Decoder Nat) c p) _ = _
  rw [dz_u1 h, hb]
  rfl
theorem dz_18 (h : c.data.toList.drop p = b :: x :: r) (hb : b.toNat = 18) : Jvm.ClassFile.decode c p = .ok (.ldc x.toNat, 2) := by
  refine dz_fin ?_
  unfold Jvm.ClassFile.Decoder.instr
  change Except.bind ((Jvm.ClassFile.Reader.u1 : Jvm.ClassFile.Decoder Nat) c p) _ = _
  rw [dz_u1 h, hb]
  change Except.bind ((Jvm.ClassFile.Reader.u1 : Jvm.ClassFile.Decoder Nat) c (p + 1)) _ = _
  rw [dz_u1 (dz_dr h)]
  rfl
theorem dz_21 (h : c.data.toList.drop p = b :: x :: r) (hb : b.toNat = 21) : Jvm.ClassFile.decode c p = .ok (.iload x.toNat, 2) := by
  refine dz_fin ?_
  unfold Jvm.ClassFile.Decoder.instr
  change Except.bind ((Jvm.ClassFile.Reader.u1 : Jvm.ClassFile.Decoder Nat) c p) _ = _
  rw [dz_u1 h, hb]
  change Except.bind ((Jvm.ClassFile.Reader.u1 : Jvm.ClassFile.Decoder Nat) c (p + 1)) _ = _
  rw [dz_u1 (dz_dr h)]
  rfl
theorem dz_22 (h : c.data.toList.drop p = b :: x :: r) (hb : b.toNat = 22) : Jvm.ClassFile.decode c p = .ok (.lload x.toNat, 2) := by
  refine dz_fin ?_
  unfold Jvm.ClassFile.Decoder.instr
  change Except.bind ((Jvm.ClassFile.Reader.u1 : Jvm.ClassFile.Decoder Nat) c p) _ = _
  rw [dz_u1 h, hb]
  change Except.bind ((Jvm.ClassFile.Reader.u1 : Jvm.ClassFile.Decoder Nat) c (p + 1)) _ = _
  rw [dz_u1 (dz_dr h)]
  rfl
theorem dz_25 (h : c.data.toList.drop p = b :: x :: r) (hb : b.toNat = 25) : Jvm.ClassFile.decode c p = .ok (.aload x.toNat, 2) := by
  refine dz_fin ?_
  unfold Jvm.ClassFile.Decoder.instr
  change Except.bind ((Jvm.ClassFile.Reader.u1 : Jvm.ClassFile.Decoder Nat) c p) _ = _
  rw [dz_u1 h, hb]
  change Except.bind ((Jvm.ClassFile.Reader.u1 : Jvm.ClassFile.Decoder Nat) c (p + 1)) _ = _
  rw [dz_u1 (dz_dr h)]
  rfl
theorem dz_54 (h : c.data.toList.drop p = b :: x :: r) (hb : b.toNat = 54) : Jvm.ClassFile.decode c p = .ok (.istore x.toNat, 2) := by
  refine dz_fin ?_
  unfold Jvm.ClassFile.Decoder.instr
  change Except.bind ((Jvm.ClassFile.Reader.u1 : Jvm.ClassFile.Decoder Nat) c p) _ = _
  rw [dz_u1 h, hb]
  change Except.bind ((Jvm.ClassFile.Reader.u1 : Jvm.ClassFile.Decoder Nat) c (p + 1)) _ = _
  rw [dz_u1 (dz_dr h)]
  rfl
theorem dz_55 (h : c.data.toList.drop p = b :: x :: r) (hb : b.toNat = 55) : Jvm.ClassFile.decode c p = .ok (.lstore x.toNat, 2) := by
  refine dz_fin ?_
  unfold Jvm.ClassFile.Decoder.instr
  change Except.bind ((Jvm.ClassFile.Reader.u1 : Jvm.ClassFile.Decoder Nat) c p) _ = _
  rw [dz_u1 h, hb]
  change Except.bind ((Jvm.ClassFile.Reader.u1 : Jvm.ClassFile.Decoder Nat) c (p + 1)) _ = _
  rw [dz_u1 (dz_dr h)]
  rfl
theorem dz_58 (h : c.data.toList.drop p = b :: x :: r) (hb : b.toNat = 58) : Jvm.ClassFile.decode c p = .ok (.astore x.toNat, 2) := by
  refine dz_fin ?_
  unfold Jvm.ClassFile.Decoder.instr
  change Except.bind ((Jvm.ClassFile.Reader.u1 : Jvm.ClassFile.Decoder Nat) c p) _ = _
  rw [dz_u1 h, hb]
  change Except.bind ((Jvm.ClassFile.Reader.u1 : Jvm.ClassFile.Decoder Nat) c (p + 1)) _ = _
  rw [dz_u1 (dz_dr h)]
  rfl
theorem dz_19 (h : c.data.toList.drop p = b :: x :: y :: r) (hb : b.toNat = 19) : Jvm.ClassFile.decode c p = .ok (.ldc_w (x.toNat * 256 + y.toNat), 3) := by
  refine dz_fin ?_
  unfold Jvm.ClassFile.Decoder.instr
  change Except.bind ((Jvm.ClassFile.Reader.u1 : Jvm.ClassFile.Decoder Nat) c p) _ = _
  rw [dz_u1 h, hb]
  change Except.bind ((Jvm.ClassFile.Reader.u2 : Jvm.ClassFile.Decoder Nat) c (p + 1)) _ = _
  rw [dz_u2 (dz_dr h)]
  rfl
theorem dz_20 (h : c.data.toList.drop p = b :: x :: y :: r) (hb : b.toNat = 20) : Jvm.ClassFile.decode c p = .ok (.ldc2_w (x.toNat * 256 + y.toNat), 3) := by
  refine dz_fin ?_
  unfold Jvm.ClassFile.Decoder.instr
  change Except.bind ((Jvm.ClassFile.Reader.u1 : Jvm.ClassFile.Decoder Nat) c p) _ = _
  rw [dz_u1 h, hb]
  change Except.bind ((Jvm.ClassFile.Reader.u2 : Jvm.ClassFile.Decoder Nat) c (p + 1)) _ = _
  rw [dz_u2 (dz_dr h)]
  rfl
theorem dz_178 (h : c.data.toList.drop p = b :: x :: y :: r) (hb : b.toNat = 178) : Jvm.ClassFile.decode c p = .ok (.getstatic (x.toNat * 256 + y.toNat), 3) := by
  refine dz_fin ?_
  unfold Jvm.ClassFile.Decoder.instr
  change Except.bind ((Jvm.ClassFile.Reader.u1 : Jvm.ClassFile.Decoder Nat) c p) _ = _
  rw [dz_u1 h, hb]
  change Except.bind ((Jvm.ClassFile.Reader.u2 : Jvm.ClassFile.Decoder Nat) c (p + 1)) _ = _
  rw [dz_u2 (dz_dr h)]
  rfl
theorem dz_179 (h : c.data.toList.drop p = b :: x :: y :: r) (hb : b.toNat = 179) : Jvm.ClassFile.decode c p = .ok (.putstatic (x.toNat * 256 + y.toNat), 3) := by
  refine dz_fin ?_
  unfold Jvm.ClassFile.Decoder.instr
  change Except.bind ((Jvm.ClassFile.Reader.u1 : Jvm.ClassFile.Decoder Nat) c p) _ = _
  rw [dz_u1 h, hb]
  change Except.bind ((Jvm.ClassFile.Reader.u2 : Jvm.ClassFile.Decoder Nat) c (p + 1)) _ = _
  rw [dz_u2 (dz_dr h)]
  rfl
theorem dz_180 (h : c.data.toList.drop p = b :: x :: y :: r) (hb : b.toNat = 180) : Jvm.ClassFile.decode c p = .ok (.getfield (x.toNat * 256 + y.toNat), 3) := by
  refine dz_fin ?_
  unfold Jvm.ClassFile.Decoder.instr
  change Except.bind ((Jvm.ClassFile.Reader.u1 : Jvm.ClassFile.Decoder Nat) c p) _ = _
  rw [dz_u1 h, hb]
  change Except.bind ((Jvm.ClassFile.Reader.u2 : Jvm.ClassFile.Decoder Nat) c (p + 1)) _ = _
  rw [dz_u2 (dz_dr h)]
  rfl
theorem dz_181 (h : c.data.toList.drop p = b :: x :: y :: r) (hb : b.toNat = 181) : Jvm.ClassFile.decode c p = .ok (.putfield (x.toNat * 256 + y.toNat), 3) := by
  refine dz_fin ?_
  unfold Jvm.ClassFile.Decoder.instr
  change Except.bind ((Jvm.ClassFile.Reader.u1 : Jvm.ClassFile.Decoder Nat) c p) _ = _
  rw [dz_u1 h, hb]
  change Except.bind ((Jvm.ClassFile.Reader.u2 : Jvm.ClassFile.Decoder Nat) c (p + 1)) _ = _
  rw [dz_u2 (dz_dr h)]
  rfl
theorem dz_182 (h : c.data.toList.drop p = b :: x :: y :: r) (hb : b.toNat = 182) : Jvm.ClassFile.decode c p = .ok (.invokevirtual (x.toNat * 256 + y.toNat), 3) := by
  refine dz_fin ?_
  unfold Jvm.ClassFile.Decoder.instr
  change Except.bind ((Jvm.ClassFile.Reader.u1 : Jvm.ClassFile.Decoder Nat) c p) _ = _
  rw [dz_u1 h, hb]
  change Except.bind ((Jvm.ClassFile.Reader.u2 : Jvm.ClassFile.Decoder Nat) c (p + 1)) _ = _
  rw [dz_u2 (dz_dr h)]
  rfl
theorem dz_183 (h : c.data.toList.drop p = b :: x :: y :: r) (hb : b.toNat = 183) : Jvm.ClassFile.decode c p = .ok (.invokespecial (x.toNat * 256 + y.toNat), 3) := by
  refine dz_fin ?_
  unfold Jvm.ClassFile.Decoder.instr
  change Except.bind ((Jvm.ClassFile.Reader.u1 : Jvm.ClassFile.Decoder Nat) c p) _ = _
  rw [dz_u1 h, hb]
  change Except.bind ((Jvm.ClassFile.Reader.u2 : Jvm.ClassFile.Decoder Nat) c (p + 1)) _ = _
  rw [dz_u2 (dz_dr h)]
  rfl
theorem dz_184 (h : c.data.toList.drop p = b :: x :: y :: r) (hb : b.toNat = 184) : Jvm.ClassFile.decode c p = .ok (.invokestatic (x.toNat * 256 + y.toNat), 3) := by
  refine dz_fin ?_
  unfold Jvm.ClassFile.Decoder.instr
  change Except.bind ((Jvm.ClassFile.Reader.u1 : Jvm.ClassFile.Decoder Nat) c p) _ = _
  rw [dz_u1 h, hb]
  change Except.bind ((Jvm.ClassFile.Reader.u2 : Jvm.ClassFile.Decoder Nat) c (p + 1)) _ = _
  rw [dz_u2 (dz_dr h)]
  rfl
theorem dz_187 (h : c.data.toList.drop p = b :: x :: y :: r) (hb : b.toNat = 187) : Jvm.ClassFile.decode c p = .ok (.new (x.toNat * 256 + y.toNat), 3) := by
  refine dz_fin ?_
  unfold Jvm.ClassFile.Decoder.instr
  change Except.bind ((Jvm.ClassFile.Reader.u1 : Jvm.ClassFile.Decoder Nat) c p) _ = _
  rw [dz_u1 h, hb]
  change Except.bind ((Jvm.ClassFile.Reader.u2 : Jvm.ClassFile.Decoder Nat) c (p + 1)) _ = _
  rw [dz_u2 (dz_dr h)]
  rfl
theorem dz_189 (h : c.data.toList.drop p = b :: x :: y :: r) (hb : b.toNat = 189) : Jvm.ClassFile.decode c p = .ok (.anewarray (x.toNat * 256 + y.toNat), 3) := by
  refine dz_fin ?_
  unfold Jvm.ClassFile.Decoder.instr
  change Except.bind ((Jvm.ClassFile.Reader.u1 : Jvm.ClassFile.Decoder Nat) c p) _ = _
  rw [dz_u1 h, hb]
  change Except.bind ((Jvm.ClassFile.Reader.u2 : Jvm.ClassFile.Decoder Nat) c (p + 1)) _ = _
  rw [dz_u2 (dz_dr h)]
  rfl
theorem dz_192 (h : c.data.toList.drop p = b :: x :: y :: r) (hb : b.toNat = 192) : Jvm.ClassFile.decode c p = .ok (.checkcast (x.toNat * 256 + y.toNat), 3) := by
  refine dz_fin ?_
  unfold Jvm.ClassFile.Decoder.instr
  change Except.bind ((Jvm.ClassFile.Reader.u1 : Jvm.ClassFile.Decoder Nat) c p) _ = _
  rw [dz_u1 h, hb]
  change Except.bind ((Jvm.ClassFile.Reader.u2 : Jvm.ClassFile.Decoder Nat) c (p + 1)) _ = _
  rw [dz_u2 (dz_dr h)]
  rfl
theorem dz_16 (h : c.data.toList.drop p = b :: x :: r) (hb : b.toNat = 16) : Jvm.ClassFile.decode c p = .ok (.bipush (Jvm.ClassFile.Reader.signed 8 x.toNat), 2) := by
  refine dz_fin ?_
  unfold Jvm.ClassFile.Decoder.instr
  change Except.bind ((Jvm.ClassFile.Reader.u1 : Jvm.ClassFile.Decoder Nat) c p) _ = _
  rw [dz_u1 h, hb]
  change Except.bind ((Jvm.ClassFile.Reader.s1 : Jvm.ClassFile.Decoder Int) c (p + 1)) _ = _
  rw [dz_s1 (dz_dr h)]
  rfl
theorem dz_17 (h : c.data.toList.drop p = b :: x :: y :: r) (hb : b.toNat = 17) : Jvm.ClassFile.decode c p = .ok (.sipush (Jvm.ClassFile.Reader.signed 16 (x.toNat * 256 + y.toNat)), 3) := by
  refine dz_fin ?_
  unfold Jvm.ClassFile.Decoder.instr
  change Except.bind ((Jvm.ClassFile.Reader.u1 : Jvm.ClassFile.Decoder Nat) c p) _ = _
  rw [dz_u1 h, hb]
  change Except.bind ((Jvm.ClassFile.Reader.s2 : Jvm.ClassFile.Decoder Int) c (p + 1)) _ = _
  rw [dz_s2 (dz_dr h)]
  rfl
theorem dz_167 (h : c.data.toList.drop p = b :: x :: y :: r) (hb : b.toNat = 167) : Jvm.ClassFile.decode c p = .ok (.goto (Jvm.ClassFile.Reader.signed 16 (x.toNat * 256 + y.toNat)), 3) := by
  refine dz_fin ?_
  unfold Jvm.ClassFile.Decoder.instr
  change Except.bind ((Jvm.ClassFile.Reader.u1 : Jvm.ClassFile.Decoder Nat) c p) _ = _
  rw [dz_u1 h, hb]
  change Except.bind ((Jvm.ClassFile.Reader.s2 : Jvm.ClassFile.Decoder Int) c (p + 1)) _ = _
  rw [dz_s2 (dz_dr h)]
  rfl
theorem dz_153 (h : c.data.toList.drop p = b :: x :: y :: r) (hb : b.toNat = 153) : Jvm.ClassFile.decode c p = .ok (.ifCond .eq (Jvm.ClassFile.Reader.signed 16 (x.toNat * 256 + y.toNat)), 3) := by
  refine dz_fin ?_
  unfold Jvm.ClassFile.Decoder.instr
  change Except.bind ((Jvm.ClassFile.Reader.u1 : Jvm.ClassFile.Decoder Nat) c p) _ = _
  rw [dz_u1 h, hb]
  change Except.bind ((Jvm.ClassFile.Reader.s2 : Jvm.ClassFile.Decoder Int) c (p + 1)) _ = _
  rw [dz_s2 (dz_dr h)]
  rfl
theorem dz_154 (h : c.data.toList.drop p = b :: x :: y :: r) (hb : b.toNat = 154) : Jvm.ClassFile.decode c p = .ok (.ifCond .ne (Jvm.ClassFile.Reader.signed 16 (x.toNat * 256 + y.toNat)), 3) := by
  refine dz_fin ?_
  unfold Jvm.ClassFile.Decoder.instr
  change Except.bind ((Jvm.ClassFile.Reader.u1 : Jvm.ClassFile.Decoder Nat) c p) _ = _
  rw [dz_u1 h, hb]
  change Except.bind ((Jvm.ClassFile.Reader.s2 : Jvm.ClassFile.Decoder Int) c (p + 1)) _ = _
  rw [dz_s2 (dz_dr h)]
  rfl
theorem dz_155 (h : c.data.toList.drop p = b :: x :: y :: r) (hb : b.toNat = 155) : Jvm.ClassFile.decode c p = .ok (.ifCond .lt (Jvm.ClassFile.Reader.signed 16 (x.toNat * 256 + y.toNat)), 3) := by
  refine dz_fin ?_
  unfold Jvm.ClassFile.Decoder.instr
  change Except.bind ((Jvm.ClassFile.Reader.u1 : Jvm.ClassFile.Decoder Nat) c p) _ = _
  rw [dz_u1 h, hb]
  change Except.bind ((Jvm.ClassFile.Reader.s2 : Jvm.ClassFile.Decoder Int) c (p + 1)) _ = _
  rw [dz_s2 (dz_dr h)]
  rfl
theorem dz_156 (h : c.data.toList.drop p = b :: x :: y :: r) (hb : b.toNat = 156) : Jvm.ClassFile.decode c p = .ok (.ifCond .ge (Jvm.ClassFile.Reader.signed 16 (x.toNat * 256 + y.toNat)), 3) := by
  refine dz_fin ?_
  unfold Jvm.ClassFile.Decoder.instr
  change Except.bind ((Jvm.ClassFile.Reader.u1 : Jvm.ClassFile.Decoder Nat) c p) _ = _
  rw [dz_u1 h, hb]
  change Except.bind ((Jvm.ClassFile.Reader.s2 : Jvm.ClassFile.Decoder Int) c (p + 1)) _ = _
  rw [dz_s2 (dz_dr h)]
  rfl
theorem dz_157 (h : c.data.toList.drop p = b :: x :: y :: r) (hb : b.toNat = 157) : Jvm.ClassFile.decode c p = .ok (.ifCond .gt (Jvm.ClassFile.Reader.signed 16 (x.toNat * 256 + y.toNat)), 3) := by
  refine dz_fin ?_
  unfold Jvm.ClassFile.Decoder.instr
  change Except.bind ((Jvm.ClassFile.Reader.u1 : Jvm.ClassFile.Decoder Nat) c p) _ = _
  rw [dz_u1 h, hb]
  change Except.bind ((Jvm.ClassFile.Reader.s2 : Jvm.ClassFile.Decoder Int) c (p + 1)) _ = _
  rw [dz_s2 (dz_dr h)]
  rfl
theorem dz_158 (h : c.data.toList.drop p = b :: x :: y :: r) (hb : b.toNat = 158) : Jvm.ClassFile.decode c p = .ok (.ifCond .le (Jvm.ClassFile.Reader.signed 16 (x.toNat * 256 + y.toNat)), 3) := by
  refine dz_fin ?_
  unfold Jvm.ClassFile.Decoder.instr
  change Except.bind ((Jvm.ClassFile.Reader.u1 : Jvm.ClassFile.Decoder Nat) c p) _ = _
  rw [dz_u1 h, hb]
  change Except.bind ((Jvm.ClassFile.Reader.s2 : Jvm.ClassFile.Decoder Int) c (p + 1)) _ = _
  rw [dz_s2 (dz_dr h)]
  rfl
theorem dz_159 (h : c.data.toList.drop p = b :: x :: y :: r) (hb : b.toNat = 159) : Jvm.ClassFile.decode c p = .ok (.if_icmp .eq (Jvm.ClassFile.Reader.signed 16 (x.toNat * 256 + y.toNat)), 3) := by
  refine dz_fin ?_
  unfold Jvm.ClassFile.Decoder.instr
  change Except.bind ((Jvm.ClassFile.Reader.u1 : Jvm.ClassFile.Decoder Nat) c p) _ = _
  rw [dz_u1 h, hb]
  change Except.bind ((Jvm.ClassFile.Reader.s2 : Jvm.ClassFile.Decoder Int) c (p + 1)) _ = _
  rw [dz_s2 (dz_dr h)]
  rfl
theorem dz_160 (h : c.data.toList.drop p = b :: x :: y :: r) (hb : b.toNat = 160) : Jvm.ClassFile.decode c p = .ok (.if_icmp .ne (Jvm.ClassFile.Reader.signed 16 (x.toNat * 256 + y.toNat)), 3) := by
  refine dz_fin ?_
  unfold Jvm.ClassFile.Decoder.instr
  change Except.bind ((Jvm.ClassFile.Reader.u1 : Jvm.ClassFile.Decoder Nat) c p) _ = _
  rw [dz_u1 h, hb]
  change Except.bind ((Jvm.ClassFile.Reader.s2 : Jvm.ClassFile.Decoder Int) c (p + 1)) _ = _
  rw [dz_s2 (dz_dr h)]
  rfl
theorem dz_161 (h : c.data.toList.drop p = b :: x :: y :: r) (hb : b.toNat = 161) : Jvm.ClassFile.decode c p = .ok (.if_icmp .lt (Jvm.ClassFile.Reader.signed 16 (x.toNat * 256 + y.toNat)), 3) := by
  refine dz_fin ?_
  unfold Jvm.ClassFile.Decoder.instr
  change Except.bind ((Jvm.ClassFile.Reader.u1 : Jvm.ClassFile.Decoder Nat) c p) _ = _
  rw [dz_u1 h, hb]
  change Except.bind ((Jvm.ClassFile.Reader.s2 : Jvm.ClassFile.Decoder Int) c (p + 1)) _ = _
  rw [dz_s2 (dz_dr h)]
  rfl
theorem dz_162 (h : c.data.toList.drop p = b :: x :: y :: r) (hb : b.toNat = 162) : Jvm.ClassFile.decode c p = .ok (.if_icmp .ge (Jvm.ClassFile.Reader.signed 16 (x.toNat * 256 + y.toNat)), 3) := by
  refine dz_fin ?_
  unfold Jvm.ClassFile.Decoder.instr
  change Except.bind ((Jvm.ClassFile.Reader.u1 : Jvm.ClassFile.Decoder Nat) c p) _ = _
  rw [dz_u1 h, hb]
  change Except.bind ((Jvm.ClassFile.Reader.s2 : Jvm.ClassFile.Decoder Int) c (p + 1)) _ = _
  rw [dz_s2 (dz_dr h)]
  rfl
theorem dz_163 (h : c.data.toList.drop p = b :: x :: y :: r) (hb : b.toNat = 163) : Jvm.ClassFile.decode c p = .ok (.if_icmp .gt (Jvm.ClassFile.Reader.signed 16 (x.toNat * 256 + y.toNat)), 3) := by
  refine dz_fin ?_
  unfold Jvm.ClassFile.Decoder.instr
  change Except.bind ((Jvm.ClassFile.Reader.u1 : Jvm.ClassFile.Decoder Nat) c p) _ = _
  rw [dz_u1 h, hb]
  change Except.bind ((Jvm.ClassFile.Reader.s2 : Jvm.ClassFile.Decoder Int) c (p + 1)) _ = _
  rw [dz_s2 (dz_dr h)]
  rfl
theorem dz_164 (h : c.data.toList.drop p = b :: x :: y :: r) (hb : b.toNat = 164) : Jvm.ClassFile.decode c p = .ok (.if_icmp .le (Jvm.ClassFile.Reader.signed 16 (x.toNat * 256 + y.toNat)), 3) := by
  refine dz_fin ?_
  unfold Jvm.ClassFile.Decoder.instr
  change Except.bind ((Jvm.ClassFile.Reader.u1 : Jvm.ClassFile.Decoder Nat) c p) _ = _
  rw [dz_u1 h, hb]
  change Except.bind ((Jvm.ClassFile.Reader.s2 : Jvm.ClassFile.Decoder Int) c (p + 1)) _ = _
  rw [dz_s2 (dz_dr h)]
  rfl
theorem dz_198 (h : c.data.toList.drop p = b :: x :: y :: r) (hb : b.toNat = 198) : Jvm.ClassFile.decode c p = .ok (.ifnull (Jvm.ClassFile.Reader.signed 16 (x.toNat * 256 + y.toNat)), 3) := by
  refine dz_fin ?_
  unfold Jvm.ClassFile.Decoder.instr
  change Except.bind ((Jvm.ClassFile.Reader.u1 : Jvm.ClassFile.Decoder Nat) c p) _ = _
  rw [dz_u1 h, hb]
  change Except.bind ((Jvm.ClassFile.Reader.s2 : Jvm.ClassFile.Decoder Int) c (p + 1)) _ = _
  rw [dz_s2 (dz_dr h)]
  rfl
theorem dz_199 (h : c.data.toList.drop p = b :: x :: y :: r) (hb : b.toNat = 199) : Jvm.ClassFile.decode c p = .ok (.ifnonnull (Jvm.ClassFile.Reader.signed 16 (x.toNat * 256 + y.toNat)), 3) := by
  refine dz_fin ?_
  unfold Jvm.ClassFile.Decoder.instr
  change Except.bind ((Jvm.ClassFile.Reader.u1 : Jvm.ClassFile.Decoder Nat) c p) _ = _
  rw [dz_u1 h, hb]
  change Except.bind ((Jvm.ClassFile.Reader.s2 : Jvm.ClassFile.Decoder Int) c (p + 1)) _ = _
  rw [dz_s2 (dz_dr h)]
  rfl
theorem dz_132 (h : c.data.toList.drop p = b :: x :: y :: r) (hb : b.toNat = 132) : Jvm.ClassFile.decode c p = .ok (.iinc x.toNat (Jvm.ClassFile.Reader.signed 8 y.toNat), 3) := by
  refine dz_fin ?_
  unfold Jvm.ClassFile.Decoder.instr
  change Except.bind ((Jvm.ClassFile.Reader.u1 : Jvm.ClassFile.Decoder Nat) c p) _ = _
  rw [dz_u1 h, hb]
  change Except.bind ((Jvm.ClassFile.Reader.u1 : Jvm.ClassFile.Decoder Nat) c (p + 1)) _ = _
  rw [dz_u1 (dz_dr h)]
  change Except.bind ((Jvm.ClassFile.Reader.s1 : Jvm.ClassFile.Decoder Int) c (p + 1 + 1)) _ = _
  rw [dz_s1 (dz_dr (dz_dr h))]
  rfl
theorem dz_188_4 (h : c.data.toList.drop p = b :: x :: r) (hb : b.toNat = 188) (hx : x.toNat = 4) : Jvm.ClassFile.decode c p = .ok (.newarray .boolean, 2) := by
  refine dz_fin ?_
  unfold Jvm.ClassFile.Decoder.instr
  change Except.bind ((Jvm.ClassFile.Reader.u1 : Jvm.ClassFile.Decoder Nat) c p) _ = _
  rw [dz_u1 h, hb]
  change Except.bind ((Jvm.ClassFile.Reader.u1 : Jvm.ClassFile.Decoder Nat) c (p + 1)) _ = _
  rw [dz_u1 (dz_dr h), hx]
  rfl
theorem dz_188_5 (h : c.data.toList.drop p = b :: x :: r) (hb : b.toNat = 188) (hx : x.toNat = 5) : Jvm.ClassFile.decode c p = .ok (.newarray .char, 2) := by
  refine dz_fin ?_
  unfold Jvm.ClassFile.Decoder.instr
  change Except.bind ((Jvm.ClassFile.Reader.u1 : Jvm.ClassFile.Decoder Nat) c p) _ = _
  rw [dz_u1 h, hb]
  change Except.bind ((Jvm.ClassFile.Reader.u1 : Jvm.ClassFile.Decoder Nat) c (p + 1)) _ = _
  rw [dz_u1 (dz_dr h), hx]
  rfl
theorem dz_188_8 (h : c.data.toList.drop p = b :: x :: r) (hb : b.toNat = 188) (hx : x.toNat = 8) : Jvm.ClassFile.decode c p = .ok (.newarray .byte, 2) := by
  refine dz_fin ?_
  unfold Jvm.ClassFile.Decoder.instr
  change Except.bind ((Jvm.ClassFile.Reader.u1 : Jvm.ClassFile.Decoder Nat) c p) _ = _
  rw [dz_u1 h, hb]
  change Except.bind ((Jvm.ClassFile.Reader.u1 : Jvm.ClassFile.Decoder Nat) c (p + 1)) _ = _
  rw [dz_u1 (dz_dr h), hx]
  rfl
theorem dz_188_10 (h : c.data.toList.drop p = b :: x :: r) (hb : b.toNat = 188) (hx : x.toNat = 10) : Jvm.ClassFile.decode c p = .ok (.newarray .int, 2) := by
  refine dz_fin ?_
  unfold Jvm.ClassFile.Decoder.instr
  change Except.bind ((Jvm.ClassFile.Reader.u1 : Jvm.ClassFile.Decoder Nat) c p) _ = _
  rw [dz_u1 h, hb]
  change Except.bind ((Jvm.ClassFile.Reader.u1 : Jvm.ClassFile.Decoder Nat) c (p + 1)) _ = _
  rw [dz_u1 (dz_dr h), hx]
  rfl
theorem dz_188_11 (h : c.data.toList.drop p = b :: x :: r) (hb : b.toNat = 188) (hx : x.toNat = 11) : Jvm.ClassFile.decode c p = .ok (.newarray .long, 2) := by
  refine dz_fin ?_
  unfold Jvm.ClassFile.Decoder.instr
  change Except.bind ((Jvm.ClassFile.Reader.u1 : Jvm.ClassFile.Decoder Nat) c p) _ = _
  rw [dz_u1 h, hb]
  change Except.bind ((Jvm.ClassFile.Reader.u1 : Jvm.ClassFile.Decoder Nat) c (p + 1)) _ = _
  rw [dz_u1 (dz_dr h), hx]
  rfl
def dz_r9 (n : Nat) (r : List UInt8) : Option (Jvm.ClassFile.Instr × Nat) :=
  if n = 156 then (match r with | x :: y :: _ => some (Jvm.ClassFile.Instr.ifCond .ge (Jvm.ClassFile.Reader.signed 16 (x.toNat * 256 + y.toNat)), 3) | _ => none) else
  if n = 157 then (match r with | x :: y :: _ => some (Jvm.ClassFile.Instr.ifCond .gt (Jvm.ClassFile.Reader.signed 16 (x.toNat * 256 + y.toNat)), 3) | _ => none) else
  if n = 158 then (match r with | x :: y :: _ => some (Jvm.ClassFile.Instr.ifCond .le (Jvm.ClassFile.Reader.signed 16 (x.toNat * 256 + y.toNat)), 3) | _ => none) else
  if n = 198 then (match r with | x :: y :: _ => some (Jvm.ClassFile.Instr.ifnull (Jvm.ClassFile.Reader.signed 16 (x.toNat * 256 + y.toNat)), 3) | _ => none) else
  if n = 199 then (match r with | x :: y :: _ => some (Jvm.ClassFile.Instr.ifnonnull (Jvm.ClassFile.Reader.signed 16 (x.toNat * 256 + y.toNat)), 3) | _ => none) else
  none
theorem dz_k9 {i : Jvm.ClassFile.Instr} {n : Nat} (h : c.data.toList.drop p = b :: r) (e : dz_r9 b.toNat r = some (i, n)) : Jvm.ClassFile.decode c p = .ok (i, n) := by
  unfold dz_r9 at e
  by_cases q156 : b.toNat = 156
  · rw [if_pos q156] at e
    cases r with
    | nil => cases e
    | cons x r =>
      cases r with
      | nil => cases e
      | cons y r => cases e; exact dz_156 h q156
  rw [if_neg q156] at e
  by_cases q157 : b.toNat = 157
  · rw [if_pos q157] at e
    cases r with
    | nil => cases e
    | cons x r =>
      cases r with
      | nil => cases e
      | cons y r => cases e; exact dz_157 h q157
  rw [if_neg q157] at e
  by_cases q158 : b.toNat = 158
  · rw [if_pos q158] at e
    cases r with
    | nil => cases e
    | cons x r =>
      cases r with
      | nil => cases e
      | cons y r => cases e; exact dz_158 h q158
  rw [if_neg q158] at e
  by_cases q198 : b.toNat = 198
  · rw [if_pos q198] at e
    cases r with
    | nil => cases e
    | cons x r =>
      cases r with
      | nil => cases e
      | cons y r => cases e; exact dz_198 h q198
  rw [if_neg q198] at e
  by_cases q199 : b.toNat = 199
  · rw [if_pos q199] at e
    cases r with
    | nil => cases e
    | cons x r =>
      cases r with
      | nil => cases e
      | cons y r => cases e; exact dz_199 h q199
  rw [if_neg q199] at e
  cases e
def dz_r8 (n : Nat) (r : List UInt8) : Option (Jvm.ClassFile.Instr × Nat) :=
  if n = 25 then (match r with | x :: _ => some (Jvm.ClassFile.Instr.aload x.toNat, 2) | _ => none) else
  if n = 55 then (match r with | x :: _ => some (Jvm.ClassFile.Instr.lstore x.toNat, 2) | _ => none) else
  if n = 58 then (match r with | x :: _ => some (Jvm.ClassFile.Instr.astore x.toNat, 2) | _ => none) else
  if n = 19 then (match r with | x :: y :: _ => some (Jvm.ClassFile.Instr.ldc_w (x.toNat * 256 + y.toNat), 3) | _ => none) else
  if n = 20 then (match r with | x :: y :: _ => some (Jvm.ClassFile.Instr.ldc2_w (x.toNat * 256 + y.toNat), 3) | _ => none) else
  if n = 178 then (match r with | x :: y :: _ => some (Jvm.ClassFile.Instr.getstatic (x.toNat * 256 + y.toNat), 3) | _ => none) else
  if n = 179 then (match r with | x :: y :: _ => some (Jvm.ClassFile.Instr.putstatic (x.toNat * 256 + y.toNat), 3) | _ => none) else
  if n = 183 then (match r with | x :: y :: _ => some (Jvm.ClassFile.Instr.invokespecial (x.toNat * 256 + y.toNat), 3) | _ => none) else
  if n = 187 then (match r with | x :: y :: _ => some (Jvm.ClassFile.Instr.new (x.toNat * 256 + y.toNat), 3) | _ => none) else
  if n = 189 then (match r with | x :: y :: _ => some (Jvm.ClassFile.Instr.anewarray (x.toNat * 256 + y.toNat), 3) | _ => none) else
  if n = 192 then (match r with | x :: y :: _ => some (Jvm.ClassFile.Instr.checkcast (x.toNat * 256 + y.toNat), 3) | _ => none) else
  if n = 155 then (match r with | x :: y :: _ => some (Jvm.ClassFile.Instr.ifCond .lt (Jvm.ClassFile.Reader.signed 16 (x.toNat * 256 + y.toNat)), 3) | _ => none) else
  dz_r9 n r
theorem dz_k8 {i : Jvm.ClassFile.Instr} {n : Nat} (h : c.data.toList.drop p = b :: r) (e : dz_r8 b.toNat r = some (i, n)) : Jvm.ClassFile.decode c p = .ok (i, n) := by
  unfold dz_r8 at e
  by_cases q25 : b.toNat = 25
  · rw [if_pos q25] at e
    cases r with
    | nil => cases e
    | cons x r => cases e; exact dz_25 h q25
  rw [if_neg q25] at e
  by_cases q55 : b.toNat = 55
  · rw [if_pos q55] at e
    cases r with
    | nil => cases e
    | cons x r => cases e; exact dz_55 h q55
  rw [if_neg q55] at e
  by_cases q58 : b.toNat = 58
  · rw [if_pos q58] at e
    cases r with
    | nil => cases e
    | cons x r => cases e; exact dz_58 h q58
  rw [if_neg q58] at e
  by_cases q19 : b.toNat = 19
  · rw [if_pos q19] at e
    cases r with
    | nil => cases e
    | cons x r =>
      cases r with
      | nil => cases e
      | cons y r => cases e; exact dz_19 h q19
  rw [if_neg q19] at e
  by_cases q20 : b.toNat = 20
  · rw [if_pos q20] at e
    cases r with
    | nil => cases e
    | cons x r =>
      cases r with
      | nil => cases e
      | cons y r => cases e; exact dz_20 h q20
  rw [if_neg q20] at e
  by_cases q178 : b.toNat = 178
  · rw [if_pos q178] at e
    cases r with
    | nil => cases e
    | cons x r =>
      cases r with
      | nil => cases e
      | cons y r => cases e; exact dz_178 h q178
  rw [if_neg q178] at e
  by_cases q179 : b.toNat = 179
  · rw [if_pos q179] at e
    cases r with
    | nil => cases e
    | cons x r =>
      cases r with
      | nil => cases e
      | cons y r => cases e; exact dz_179 h q179
  rw [if_neg q179] at e
  by_cases q183 : b.toNat = 183
  · rw [if_pos q183] at e
    cases r with
    | nil => cases e
    | cons x r =>
      cases r with
      | nil => cases e
      | cons y r => cases e; exact dz_183 h q183
  rw [if_neg q183] at e
  by_cases q187 : b.toNat = 187
  · rw [if_pos q187] at e
    cases r with
    | nil => cases e
    | cons x r =>
      cases r with
      | nil => cases e
      | cons y r => cases e; exact dz_187 h q187
  rw [if_neg q187] at e
  by_cases q189 : b.toNat = 189
  · rw [if_pos q189] at e
    cases r with
    | nil => cases e
    | cons x r =>
      cases r with
      | nil => cases e
      | cons y r => cases e; exact dz_189 h q189
  rw [if_neg q189] at e
  by_cases q192 : b.toNat = 192
  · rw [if_pos q192] at e
    cases r with
    | nil => cases e
    | cons x r =>
      cases r with
      | nil => cases e
      | cons y r => cases e; exact dz_192 h q192
  rw [if_neg q192] at e
  by_cases q155 : b.toNat = 155
  · rw [if_pos q155] at e
    cases r with
    | nil => cases e
    | cons x r =>
      cases r with
      | nil => cases e
      | cons y r => cases e; exact dz_155 h q155
  rw [if_neg q155] at e
  exact dz_k9 h e
def dz_r7 (n : Nat) (r : List UInt8) : Option (Jvm.ClassFile.Instr × Nat) :=
  if n = 130 then some (Jvm.ClassFile.Instr.ixor, 1) else
  if n = 133 then some (Jvm.ClassFile.Instr.i2l, 1) else
  if n = 136 then some (Jvm.ClassFile.Instr.l2i, 1) else
  if n = 146 then some (Jvm.ClassFile.Instr.i2c, 1) else
  if n = 148 then some (Jvm.ClassFile.Instr.lcmp, 1) else
  if n = 173 then some (Jvm.ClassFile.Instr.lreturn, 1) else
  if n = 176 then some (Jvm.ClassFile.Instr.areturn, 1) else
  if n = 190 then some (Jvm.ClassFile.Instr.arraylength, 1) else
  if n = 191 then some (Jvm.ClassFile.Instr.athrow, 1) else
  if n = 1 then some (Jvm.ClassFile.Instr.aconst_null, 1) else
  if n = 18 then (match r with | x :: _ => some (Jvm.ClassFile.Instr.ldc x.toNat, 2) | _ => none) else
  if n = 22 then (match r with | x :: _ => some (Jvm.ClassFile.Instr.lload x.toNat, 2) | _ => none) else
  dz_r8 n r
theorem dz_k7 {i : Jvm.ClassFile.Instr} {n : Nat} (h : c.data.toList.drop p = b :: r) (e : dz_r7 b.toNat r = some (i, n)) : Jvm.ClassFile.decode c p = .ok (i, n) := by
  unfold dz_r7 at e
  by_cases q130 : b.toNat = 130
  · rw [if_pos q130] at e
    cases e; exact dz_130 h q130
  rw [if_neg q130] at e
  by_cases q133 : b.toNat = 133
  · rw [if_pos q133] at e
    cases e; exact dz_133 h q133
  rw [if_neg q133] at e
  by_cases q136 : b.toNat = 136
  · rw [if_pos q136] at e
    cases e; exact dz_136 h q136
  rw [if_neg q136] at e
  by_cases q146 : b.toNat = 146
  · rw [if_pos q146] at e
    cases e; exact dz_146 h q146
  rw [if_neg q146] at e
  by_cases q148 : b.toNat = 148
  · rw [if_pos q148] at e
    cases e; exact dz_148 h q148
  rw [if_neg q148] at e
  by_cases q173 : b.toNat = 173
  · rw [if_pos q173] at e
    cases e; exact dz_173 h q173
  rw [if_neg q173] at e
  by_cases q176 : b.toNat = 176
  · rw [if_pos q176] at e
    cases e; exact dz_176 h q176
  rw [if_neg q176] at e
  by_cases q190 : b.toNat = 190
  · rw [if_pos q190] at e
    cases e; exact dz_190 h q190
  rw [if_neg q190] at e
  by_cases q191 : b.toNat = 191
  · rw [if_pos q191] at e
    cases e; exact dz_191 h q191
  rw [if_neg q191] at e
  by_cases q1 : b.toNat = 1
  · rw [if_pos q1] at e
    cases e; exact dz_1 h q1
  rw [if_neg q1] at e
  by_cases q18 : b.toNat = 18
  · rw [if_pos q18] at e
    cases r with
    | nil => cases e
    | cons x r => cases e; exact dz_18 h q18
  rw [if_neg q18] at e
  by_cases q22 : b.toNat = 22
  · rw [if_pos q22] at e
    cases r with
    | nil => cases e
    | cons x r => cases e; exact dz_22 h q22
  rw [if_neg q22] at e
  exact dz_k8 h e
def dz_r6 (n : Nat) (r : List UInt8) : Option (Jvm.ClassFile.Instr × Nat) :=
  if n = 104 then some (Jvm.ClassFile.Instr.imul, 1) else
  if n = 105 then some (Jvm.ClassFile.Instr.lmul, 1) else
  if n = 108 then some (Jvm.ClassFile.Instr.idiv, 1) else
  if n = 109 then some (Jvm.ClassFile.Instr.ldiv, 1) else
  if n = 112 then some (Jvm.ClassFile.Instr.irem, 1) else
  if n = 113 then some (Jvm.ClassFile.Instr.lrem, 1) else
  if n = 120 then some (Jvm.ClassFile.Instr.ishl, 1) else
  if n = 122 then some (Jvm.ClassFile.Instr.ishr, 1) else
  if n = 124 then some (Jvm.ClassFile.Instr.iushr, 1) else
  if n = 126 then some (Jvm.ClassFile.Instr.iand, 1) else
  if n = 127 then some (Jvm.ClassFile.Instr.land, 1) else
  if n = 128 then some (Jvm.ClassFile.Instr.ior, 1) else
  dz_r7 n r
theorem dz_k6 {i : Jvm.ClassFile.Instr} {n : Nat} (h : c.data.toList.drop p = b :: r) (e : dz_r6 b.toNat r = some (i, n)) : Jvm.ClassFile.decode c p = .ok (i, n) := by
  unfold dz_r6 at e
  by_cases q104 : b.toNat = 104
  · rw [if_pos q104] at e
    cases e; exact dz_104 h q104
  rw [if_neg q104] at e
  by_cases q105 : b.toNat = 105
  · rw [if_pos q105] at e
    cases e; exact dz_105 h q105
  rw [if_neg q105] at e
  by_cases q108 : b.toNat = 108
  · rw [if_pos q108] at e
    cases e; exact dz_108 h q108
  rw [if_neg q108] at e
  by_cases q109 : b.toNat = 109
  · rw [if_pos q109] at e
    cases e; exact dz_109 h q109
  rw [if_neg q109] at e
  by_cases q112 : b.toNat = 112
  · rw [if_pos q112] at e
    cases e; exact dz_112 h q112
  rw [if_neg q112] at e
  by_cases q113 : b.toNat = 113
  · rw [if_pos q113] at e
    cases e; exact dz_113 h q113
  rw [if_neg q113] at e
  by_cases q120 : b.toNat = 120
  · rw [if_pos q120] at e
    cases e; exact dz_120 h q120
  rw [if_neg q120] at e
  by_cases q122 : b.toNat = 122
  · rw [if_pos q122] at e
    cases e; exact dz_122 h q122
  rw [if_neg q122] at e
  by_cases q124 : b.toNat = 124
  · rw [if_pos q124] at e
    cases e; exact dz_124 h q124
  rw [if_neg q124] at e
  by_cases q126 : b.toNat = 126
  · rw [if_pos q126] at e
    cases e; exact dz_126 h q126
  rw [if_neg q126] at e
  by_cases q127 : b.toNat = 127
  · rw [if_pos q127] at e
    cases e; exact dz_127 h q127
  rw [if_neg q127] at e
  by_cases q128 : b.toNat = 128
  · rw [if_pos q128] at e
    cases e; exact dz_128 h q128
  rw [if_neg q128] at e
  exact dz_k7 h e
def dz_r5 (n : Nat) (r : List UInt8) : Option (Jvm.ClassFile.Instr × Nat) :=
  if n = 47 then some (Jvm.ClassFile.Instr.laload, 1) else
  if n = 50 then some (Jvm.ClassFile.Instr.aaload, 1) else
  if n = 51 then some (Jvm.ClassFile.Instr.baload, 1) else
  if n = 52 then some (Jvm.ClassFile.Instr.caload, 1) else
  if n = 80 then some (Jvm.ClassFile.Instr.lastore, 1) else
  if n = 83 then some (Jvm.ClassFile.Instr.aastore, 1) else
  if n = 84 then some (Jvm.ClassFile.Instr.bastore, 1) else
  if n = 87 then some (Jvm.ClassFile.Instr.pop, 1) else
  if n = 88 then some (Jvm.ClassFile.Instr.pop2, 1) else
  if n = 92 then some (Jvm.ClassFile.Instr.dup2, 1) else
  if n = 97 then some (Jvm.ClassFile.Instr.ladd, 1) else
  if n = 101 then some (Jvm.ClassFile.Instr.lsub, 1) else
  dz_r6 n r
theorem dz_k5 {i : Jvm.ClassFile.Instr} {n : Nat} (h : c.data.toList.drop p = b :: r) (e : dz_r5 b.toNat r = some (i, n)) : Jvm.ClassFile.decode c p = .ok (i, n) := by
  unfold dz_r5 at e
  by_cases q47 : b.toNat = 47
  · rw [if_pos q47] at e
    cases e; exact dz_47 h q47
  rw [if_neg q47] at e
  by_cases q50 : b.toNat = 50
  · rw [if_pos q50] at e
    cases e; exact dz_50 h q50
  rw [if_neg q50] at e
  by_cases q51 : b.toNat = 51
  · rw [if_pos q51] at e
    cases e; exact dz_51 h q51
  rw [if_neg q51] at e
  by_cases q52 : b.toNat = 52
  · rw [if_pos q52] at e
    cases e; exact dz_52 h q52
  rw [if_neg q52] at e
  by_cases q80 : b.toNat = 80
  · rw [if_pos q80] at e
    cases e; exact dz_80 h q80
  rw [if_neg q80] at e
  by_cases q83 : b.toNat = 83
  · rw [if_pos q83] at e
    cases e; exact dz_83 h q83
  rw [if_neg q83] at e
  by_cases q84 : b.toNat = 84
  · rw [if_pos q84] at e
    cases e; exact dz_84 h q84
  rw [if_neg q84] at e
  by_cases q87 : b.toNat = 87
  · rw [if_pos q87] at e
    cases e; exact dz_87 h q87
  rw [if_neg q87] at e
  by_cases q88 : b.toNat = 88
  · rw [if_pos q88] at e
    cases e; exact dz_88 h q88
  rw [if_neg q88] at e
  by_cases q92 : b.toNat = 92
  · rw [if_pos q92] at e
    cases e; exact dz_92 h q92
  rw [if_neg q92] at e
  by_cases q97 : b.toNat = 97
  · rw [if_pos q97] at e
    cases e; exact dz_97 h q97
  rw [if_neg q97] at e
  by_cases q101 : b.toNat = 101
  · rw [if_pos q101] at e
    cases e; exact dz_101 h q101
  rw [if_neg q101] at e
  exact dz_k6 h e
def dz_r4 (n : Nat) (r : List UInt8) : Option (Jvm.ClassFile.Instr × Nat) :=
  if n = 77 then some (Jvm.ClassFile.Instr.astore_n 2, 1) else
  if n = 32 then some (Jvm.ClassFile.Instr.lload_n 2, 1) else
  if n = 65 then some (Jvm.ClassFile.Instr.lstore_n 2, 1) else
  if n = 45 then some (Jvm.ClassFile.Instr.aload_n 3, 1) else
  if n = 78 then some (Jvm.ClassFile.Instr.astore_n 3, 1) else
  if n = 33 then some (Jvm.ClassFile.Instr.lload_n 3, 1) else
  if n = 66 then some (Jvm.ClassFile.Instr.lstore_n 3, 1) else
  if n = 2 then some (Jvm.ClassFile.Instr.iconst (-1), 1) else
  if n = 7 then some (Jvm.ClassFile.Instr.iconst 4, 1) else
  if n = 8 then some (Jvm.ClassFile.Instr.iconst 5, 1) else
  if n = 9 then some (Jvm.ClassFile.Instr.lconst 0, 1) else
  if n = 10 then some (Jvm.ClassFile.Instr.lconst 1, 1) else
  dz_r5 n r
theorem dz_k4 {i : Jvm.ClassFile.Instr} {n : Nat} (h : c.data.toList.drop p = b :: r) (e : dz_r4 b.toNat r = some (i, n)) : Jvm.ClassFile.decode c p = .ok (i, n) := by
  unfold dz_r4 at e
  by_cases q77 : b.toNat = 77
  · rw [if_pos q77] at e
    cases e; exact dz_77 h q77
  rw [if_neg q77] at e
  by_cases q32 : b.toNat = 32
  · rw [if_pos q32] at e
    cases e; exact dz_32 h q32
  rw [if_neg q32] at e
  by_cases q65 : b.toNat = 65
  · rw [if_pos q65] at e
    cases e; exact dz_65 h q65
  rw [if_neg q65] at e
  by_cases q45 : b.toNat = 45
  · rw [if_pos q45] at e
    cases e; exact dz_45 h q45
  rw [if_neg q45] at e
  by_cases q78 : b.toNat = 78
  · rw [if_pos q78] at e
    cases e; exact dz_78 h q78
  rw [if_neg q78] at e
  by_cases q33 : b.toNat = 33
  · rw [if_pos q33] at e
    cases e; exact dz_33 h q33
  rw [if_neg q33] at e
  by_cases q66 : b.toNat = 66
  · rw [if_pos q66] at e
    cases e; exact dz_66 h q66
  rw [if_neg q66] at e
  by_cases q2 : b.toNat = 2
  · rw [if_pos q2] at e
    cases e; exact dz_2 h q2
  rw [if_neg q2] at e
  by_cases q7 : b.toNat = 7
  · rw [if_pos q7] at e
    cases e; exact dz_7 h q7
  rw [if_neg q7] at e
  by_cases q8 : b.toNat = 8
  · rw [if_pos q8] at e
    cases e; exact dz_8 h q8
  rw [if_neg q8] at e
  by_cases q9 : b.toNat = 9
  · rw [if_pos q9] at e
    cases e; exact dz_9 h q9
  rw [if_neg q9] at e
  by_cases q10 : b.toNat = 10
  · rw [if_pos q10] at e
    cases e; exact dz_10 h q10
  rw [if_neg q10] at e
  exact dz_k5 h e
def dz_r3 (n : Nat) (r : List UInt8) : Option (Jvm.ClassFile.Instr × Nat) :=
  if n = 184 then (match r with | x :: y :: _ => some (Jvm.ClassFile.Instr.invokestatic (x.toNat * 256 + y.toNat), 3) | _ => none) else
  if n = 100 then some (Jvm.ClassFile.Instr.isub, 1) else
  if n = 17 then (match r with | x :: y :: _ => some (Jvm.ClassFile.Instr.sipush (Jvm.ClassFile.Reader.signed 16 (x.toNat * 256 + y.toNat)), 3) | _ => none) else
  if n = 54 then (match r with | x :: _ => some (Jvm.ClassFile.Instr.istore x.toNat, 2) | _ => none) else
  if n = 26 then some (Jvm.ClassFile.Instr.iload_n 0, 1) else
  if n = 75 then some (Jvm.ClassFile.Instr.astore_n 0, 1) else
  if n = 30 then some (Jvm.ClassFile.Instr.lload_n 0, 1) else
  if n = 63 then some (Jvm.ClassFile.Instr.lstore_n 0, 1) else
  if n = 76 then some (Jvm.ClassFile.Instr.astore_n 1, 1) else
  if n = 31 then some (Jvm.ClassFile.Instr.lload_n 1, 1) else
  if n = 64 then some (Jvm.ClassFile.Instr.lstore_n 1, 1) else
  if n = 44 then some (Jvm.ClassFile.Instr.aload_n 2, 1) else
  dz_r4 n r
theorem dz_k3 {i : Jvm.ClassFile.Instr} {n : Nat} (h : c.data.toList.drop p = b :: r) (e : dz_r3 b.toNat r = some (i, n)) : Jvm.ClassFile.decode c p = .ok (i, n) := by
  unfold dz_r3 at e
  by_cases q184 : b.toNat = 184
  · rw [if_pos q184] at e
    cases r with
    | nil => cases e
    | cons x r =>
      cases r with
      | nil => cases e
      | cons y r => cases e; exact dz_184 h q184
  rw [if_neg q184] at e
  by_cases q100 : b.toNat = 100
  · rw [if_pos q100] at e
    cases e; exact dz_100 h q100
  rw [if_neg q100] at e
  by_cases q17 : b.toNat = 17
  · rw [if_pos q17] at e
    cases r with
    | nil => cases e
    | cons x r =>
      cases r with
      | nil => cases e
      | cons y r => cases e; exact dz_17 h q17
  rw [if_neg q17] at e
  by_cases q54 : b.toNat = 54
  · rw [if_pos q54] at e
    cases r with
    | nil => cases e
    | cons x r => cases e; exact dz_54 h q54
  rw [if_neg q54] at e
  by_cases q26 : b.toNat = 26
  · rw [if_pos q26] at e
    cases e; exact dz_26 h q26
  rw [if_neg q26] at e
  by_cases q75 : b.toNat = 75
  · rw [if_pos q75] at e
    cases e; exact dz_75 h q75
  rw [if_neg q75] at e
  by_cases q30 : b.toNat = 30
  · rw [if_pos q30] at e
    cases e; exact dz_30 h q30
  rw [if_neg q30] at e
  by_cases q63 : b.toNat = 63
  · rw [if_pos q63] at e
    cases e; exact dz_63 h q63
  rw [if_neg q63] at e
  by_cases q76 : b.toNat = 76
  · rw [if_pos q76] at e
    cases e; exact dz_76 h q76
  rw [if_neg q76] at e
  by_cases q31 : b.toNat = 31
  · rw [if_pos q31] at e
    cases e; exact dz_31 h q31
  rw [if_neg q31] at e
  by_cases q64 : b.toNat = 64
  · rw [if_pos q64] at e
    cases e; exact dz_64 h q64
  rw [if_neg q64] at e
  by_cases q44 : b.toNat = 44
  · rw [if_pos q44] at e
    cases e; exact dz_44 h q44
  rw [if_neg q44] at e
  exact dz_k4 h e
def dz_r2 (n : Nat) (r : List UInt8) : Option (Jvm.ClassFile.Instr × Nat) :=
  if n = 28 then some (Jvm.ClassFile.Instr.iload_n 2, 1) else
  if n = 29 then some (Jvm.ClassFile.Instr.iload_n 3, 1) else
  if n = 21 then (match r with | x :: _ => some (Jvm.ClassFile.Instr.iload x.toNat, 2) | _ => none) else
  if n = 85 then some (Jvm.ClassFile.Instr.castore, 1) else
  if n = 61 then some (Jvm.ClassFile.Instr.istore_n 2, 1) else
  if n = 60 then some (Jvm.ClassFile.Instr.istore_n 1, 1) else
  if n = 62 then some (Jvm.ClassFile.Instr.istore_n 3, 1) else
  if n = 59 then some (Jvm.ClassFile.Instr.istore_n 0, 1) else
  if n = 79 then some (Jvm.ClassFile.Instr.iastore, 1) else
  if n = 132 then (match r with | x :: y :: _ => some (Jvm.ClassFile.Instr.iinc x.toNat (Jvm.ClassFile.Reader.signed 8 y.toNat), 3) | _ => none) else
  if n = 177 then some (Jvm.ClassFile.Instr.return_, 1) else
  if n = 188 then (match r with | x :: _ => if x.toNat = 4 then some (Jvm.ClassFile.Instr.newarray .boolean, 2) else if x.toNat = 5 then some (Jvm.ClassFile.Instr.newarray .char, 2) else if x.toNat = 8 then some (Jvm.ClassFile.Instr.newarray .byte, 2) else if x.toNat = 10 then some (Jvm.ClassFile.Instr.newarray .int, 2) else if x.toNat = 11 then some (Jvm.ClassFile.Instr.newarray .long, 2) else none | _ => none) else
  dz_r3 n r
theorem dz_k2 {i : Jvm.ClassFile.Instr} {n : Nat} (h : c.data.toList.drop p = b :: r) (e : dz_r2 b.toNat r = some (i, n)) : Jvm.ClassFile.decode c p = .ok (i, n) := by
  unfold dz_r2 at e
  by_cases q28 : b.toNat = 28
  · rw [if_pos q28] at e
    cases e; exact dz_28 h q28
  rw [if_neg q28] at e
  by_cases q29 : b.toNat = 29
  · rw [if_pos q29] at e
    cases e; exact dz_29 h q29
  rw [if_neg q29] at e
  by_cases q21 : b.toNat = 21
  · rw [if_pos q21] at e
    cases r with
    | nil => cases e
    | cons x r => cases e; exact dz_21 h q21
  rw [if_neg q21] at e
  by_cases q85 : b.toNat = 85
  · rw [if_pos q85] at e
    cases e; exact dz_85 h q85
  rw [if_neg q85] at e
  by_cases q61 : b.toNat = 61
  · rw [if_pos q61] at e
    cases e; exact dz_61 h q61
  rw [if_neg q61] at e
  by_cases q60 : b.toNat = 60
  · rw [if_pos q60] at e
    cases e; exact dz_60 h q60
  rw [if_neg q60] at e
  by_cases q62 : b.toNat = 62
  · rw [if_pos q62] at e
    cases e; exact dz_62 h q62
  rw [if_neg q62] at e
  by_cases q59 : b.toNat = 59
  · rw [if_pos q59] at e
    cases e; exact dz_59 h q59
  rw [if_neg q59] at e
  by_cases q79 : b.toNat = 79
  · rw [if_pos q79] at e
    cases e; exact dz_79 h q79
  rw [if_neg q79] at e
  by_cases q132 : b.toNat = 132
  · rw [if_pos q132] at e
    cases r with
    | nil => cases e
    | cons x r =>
      cases r with
      | nil => cases e
      | cons y r => cases e; exact dz_132 h q132
  rw [if_neg q132] at e
  by_cases q177 : b.toNat = 177
  · rw [if_pos q177] at e
    cases e; exact dz_177 h q177
  rw [if_neg q177] at e
  by_cases q188 : b.toNat = 188
  · rw [if_pos q188] at e
    cases r with
    | nil => cases e
    | cons x r =>
      change (if x.toNat = 4 then _ else _) = _ at e
      by_cases w4 : x.toNat = 4
      · rw [if_pos w4] at e; cases e; exact dz_188_4 h q188 w4
      rw [if_neg w4] at e
      by_cases w5 : x.toNat = 5
      · rw [if_pos w5] at e; cases e; exact dz_188_5 h q188 w5
      rw [if_neg w5] at e
      by_cases w8 : x.toNat = 8
      · rw [if_pos w8] at e; cases e; exact dz_188_8 h q188 w8
      rw [if_neg w8] at e
      by_cases w10 : x.toNat = 10
      · rw [if_pos w10] at e; cases e; exact dz_188_10 h q188 w10
      rw [if_neg w10] at e
      by_cases w11 : x.toNat = 11
      · rw [if_pos w11] at e; cases e; exact dz_188_11 h q188 w11
      rw [if_neg w11] at e
      cases e
  rw [if_neg q188] at e
  exact dz_k3 h e
def dz_r1 (n : Nat) (r : List UInt8) : Option (Jvm.ClassFile.Instr × Nat) :=
  if n = 160 then (match r with | x :: y :: _ => some (Jvm.ClassFile.Instr.if_icmp .ne (Jvm.ClassFile.Reader.signed 16 (x.toNat * 256 + y.toNat)), 3) | _ => none) else
  if n = 162 then (match r with | x :: y :: _ => some (Jvm.ClassFile.Instr.if_icmp .ge (Jvm.ClassFile.Reader.signed 16 (x.toNat * 256 + y.toNat)), 3) | _ => none) else
  if n = 159 then (match r with | x :: y :: _ => some (Jvm.ClassFile.Instr.if_icmp .eq (Jvm.ClassFile.Reader.signed 16 (x.toNat * 256 + y.toNat)), 3) | _ => none) else
  if n = 161 then (match r with | x :: y :: _ => some (Jvm.ClassFile.Instr.if_icmp .lt (Jvm.ClassFile.Reader.signed 16 (x.toNat * 256 + y.toNat)), 3) | _ => none) else
  if n = 163 then (match r with | x :: y :: _ => some (Jvm.ClassFile.Instr.if_icmp .gt (Jvm.ClassFile.Reader.signed 16 (x.toNat * 256 + y.toNat)), 3) | _ => none) else
  if n = 164 then (match r with | x :: y :: _ => some (Jvm.ClassFile.Instr.if_icmp .le (Jvm.ClassFile.Reader.signed 16 (x.toNat * 256 + y.toNat)), 3) | _ => none) else
  if n = 167 then (match r with | x :: y :: _ => some (Jvm.ClassFile.Instr.goto (Jvm.ClassFile.Reader.signed 16 (x.toNat * 256 + y.toNat)), 3) | _ => none) else
  if n = 181 then (match r with | x :: y :: _ => some (Jvm.ClassFile.Instr.putfield (x.toNat * 256 + y.toNat), 3) | _ => none) else
  if n = 172 then some (Jvm.ClassFile.Instr.ireturn, 1) else
  if n = 46 then some (Jvm.ClassFile.Instr.iaload, 1) else
  if n = 89 then some (Jvm.ClassFile.Instr.dup, 1) else
  if n = 96 then some (Jvm.ClassFile.Instr.iadd, 1) else
  dz_r2 n r
theorem dz_k1 {i : Jvm.ClassFile.Instr} {n : Nat} (h : c.data.toList.drop p = b :: r) (e : dz_r1 b.toNat r = some (i, n)) : Jvm.ClassFile.decode c p = .ok (i, n) := by
  unfold dz_r1 at e
  by_cases q160 : b.toNat = 160
  · rw [if_pos q160] at e
    cases r with
    | nil => cases e
    | cons x r =>
      cases r with
      | nil => cases e
      | cons y r => cases e; exact dz_160 h q160
  rw [if_neg q160] at e
  by_cases q162 : b.toNat = 162
  · rw [if_pos q162] at e
    cases r with
    | nil => cases e
    | cons x r =>
      cases r with
      | nil => cases e
      | cons y r => cases e; exact dz_162 h q162
  rw [if_neg q162] at e
  by_cases q159 : b.toNat = 159
  · rw [if_pos q159] at e
    cases r with
    | nil => cases e
    | cons x r =>
      cases r with
      | nil => cases e
      | cons y r => cases e; exact dz_159 h q159
  rw [if_neg q159] at e
  by_cases q161 : b.toNat = 161
  · rw [if_pos q161] at e
    cases r with
    | nil => cases e
    | cons x r =>
      cases r with
      | nil => cases e
      | cons y r => cases e; exact dz_161 h q161
  rw [if_neg q161] at e
  by_cases q163 : b.toNat = 163
  · rw [if_pos q163] at e
    cases r with
    | nil => cases e
    | cons x r =>
      cases r with
      | nil => cases e
      | cons y r => cases e; exact dz_163 h q163
  rw [if_neg q163] at e
  by_cases q164 : b.toNat = 164
  · rw [if_pos q164] at e
    cases r with
    | nil => cases e
    | cons x r =>
      cases r with
      | nil => cases e
      | cons y r => cases e; exact dz_164 h q164
  rw [if_neg q164] at e
  by_cases q167 : b.toNat = 167
  · rw [if_pos q167] at e
    cases r with
    | nil => cases e
    | cons x r =>
      cases r with
      | nil => cases e
      | cons y r => cases e; exact dz_167 h q167
  rw [if_neg q167] at e
  by_cases q181 : b.toNat = 181
  · rw [if_pos q181] at e
    cases r with
    | nil => cases e
    | cons x r =>
      cases r with
      | nil => cases e
      | cons y r => cases e; exact dz_181 h q181
  rw [if_neg q181] at e
  by_cases q172 : b.toNat = 172
  · rw [if_pos q172] at e
    cases e; exact dz_172 h q172
  rw [if_neg q172] at e
  by_cases q46 : b.toNat = 46
  · rw [if_pos q46] at e
    cases e; exact dz_46 h q46
  rw [if_neg q46] at e
  by_cases q89 : b.toNat = 89
  · rw [if_pos q89] at e
    cases e; exact dz_89 h q89
  rw [if_neg q89] at e
  by_cases q96 : b.toNat = 96
  · rw [if_pos q96] at e
    cases e; exact dz_96 h q96
  rw [if_neg q96] at e
  exact dz_k2 h e
def dz_r0 (n : Nat) (r : List UInt8) : Option (Jvm.ClassFile.Instr × Nat) :=
  if n = 42 then some (Jvm.ClassFile.Instr.aload_n 0, 1) else
  if n = 180 then (match r with | x :: y :: _ => some (Jvm.ClassFile.Instr.getfield (x.toNat * 256 + y.toNat), 3) | _ => none) else
  if n = 182 then (match r with | x :: y :: _ => some (Jvm.ClassFile.Instr.invokevirtual (x.toNat * 256 + y.toNat), 3) | _ => none) else
  if n = 43 then some (Jvm.ClassFile.Instr.aload_n 1, 1) else
  if n = 27 then some (Jvm.ClassFile.Instr.iload_n 1, 1) else
  if n = 4 then some (Jvm.ClassFile.Instr.iconst 1, 1) else
  if n = 3 then some (Jvm.ClassFile.Instr.iconst 0, 1) else
  if n = 153 then (match r with | x :: y :: _ => some (Jvm.ClassFile.Instr.ifCond .eq (Jvm.ClassFile.Reader.signed 16 (x.toNat * 256 + y.toNat)), 3) | _ => none) else
  if n = 154 then (match r with | x :: y :: _ => some (Jvm.ClassFile.Instr.ifCond .ne (Jvm.ClassFile.Reader.signed 16 (x.toNat * 256 + y.toNat)), 3) | _ => none) else
  if n = 5 then some (Jvm.ClassFile.Instr.iconst 2, 1) else
  if n = 6 then some (Jvm.ClassFile.Instr.iconst 3, 1) else
  if n = 16 then (match r with | x :: _ => some (Jvm.ClassFile.Instr.bipush (Jvm.ClassFile.Reader.signed 8 x.toNat), 2) | _ => none) else
  dz_r1 n r
theorem dz_k0 {i : Jvm.ClassFile.Instr} {n : Nat} (h : c.data.toList.drop p = b :: r) (e : dz_r0 b.toNat r = some (i, n)) : Jvm.ClassFile.decode c p = .ok (i, n) := by
  unfold dz_r0 at e
  by_cases q42 : b.toNat = 42
  · rw [if_pos q42] at e
    cases e; exact dz_42 h q42
  rw [if_neg q42] at e
  by_cases q180 : b.toNat = 180
  · rw [if_pos q180] at e
    cases r with
    | nil => cases e
    | cons x r =>
      cases r with
      | nil => cases e
      | cons y r => cases e; exact dz_180 h q180
  rw [if_neg q180] at e
  by_cases q182 : b.toNat = 182
  · rw [if_pos q182] at e
    cases r with
    | nil => cases e
    | cons x r =>
      cases r with
      | nil => cases e
      | cons y r => cases e; exact dz_182 h q182
  rw [if_neg q182] at e
  by_cases q43 : b.toNat = 43
  · rw [if_pos q43] at e
    cases e; exact dz_43 h q43
  rw [if_neg q43] at e
  by_cases q27 : b.toNat = 27
  · rw [if_pos q27] at e
    cases e; exact dz_27 h q27
  rw [if_neg q27] at e
  by_cases q4 : b.toNat = 4
  · rw [if_pos q4] at e
    cases e; exact dz_4 h q4
  rw [if_neg q4] at e
  by_cases q3 : b.toNat = 3
  · rw [if_pos q3] at e
    cases e; exact dz_3 h q3
  rw [if_neg q3] at e
  by_cases q153 : b.toNat = 153
  · rw [if_pos q153] at e
    cases r with
    | nil => cases e
    | cons x r =>
      cases r with
      | nil => cases e
      | cons y r => cases e; exact dz_153 h q153
  rw [if_neg q153] at e
  by_cases q154 : b.toNat = 154
  · rw [if_pos q154] at e
    cases r with
    | nil => cases e
    | cons x r =>
      cases r with
      | nil => cases e
      | cons y r => cases e; exact dz_154 h q154
  rw [if_neg q154] at e
  by_cases q5 : b.toNat = 5
  · rw [if_pos q5] at e
    cases e; exact dz_5 h q5
  rw [if_neg q5] at e
  by_cases q6 : b.toNat = 6
  · rw [if_pos q6] at e
    cases e; exact dz_6 h q6
  rw [if_neg q6] at e
  by_cases q16 : b.toNat = 16
  · rw [if_pos q16] at e
    cases r with
    | nil => cases e
    | cons x r => cases e; exact dz_16 h q16
  rw [if_neg q16] at e
  exact dz_k1 h e
end
def dz_go : List UInt8 → Nat → List (Nat × Jvm.ClassFile.Instr × Nat) → Bool
  | _, _, [] => true
  | bs, p, (q, i, n) :: t => Nat.ble p q && match bs.drop (q - p) with
    | [] => false
    | b :: r => decide (dz_r0 b.toNat r = some (i, n)) && dz_go (b :: r) q t
def dz_C (c : ByteArray) : List (Nat × Jvm.ClassFile.Instr × Nat) → Prop
  | [] => True
  | (q, i, n) :: t => Jvm.ClassFile.decode c q = .ok (i, n) ∧ dz_C c t
theorem dz_all {c : ByteArray} : ∀ (t : List (Nat × Jvm.ClassFile.Instr × Nat)) (bs : List UInt8) (p : Nat), c.data.toList.drop p = bs → dz_go bs p t = true → dz_C c t
  | [], _, _, _, _ => True.intro
  | (q, i, n) :: t, bs, p, hb, h => by
    unfold dz_go at h
    rw [Bool.and_eq_true] at h
    obtain ⟨h1, h2⟩ := h
    have h1 : p ≤ q := Nat.le_of_ble_eq_true h1
    have hd : c.data.toList.drop q = bs.drop (q - p) := by
      rw [← hb, List.drop_drop]; congr 1; omega
    cases hx : bs.drop (q - p) with
    | nil => rw [hx] at h2; cases h2
    | cons b r =>
      rw [hx] at h2 hd
      change (decide (dz_r0 b.toNat r = some (i, n)) && dz_go (b :: r) q t) = true at h2
      rw [Bool.and_eq_true] at h2
      exact ⟨dz_k0 hd (of_decide_eq_true h2.1), dz_all t (b :: r) q hd h2.2⟩
theorem dz_of {c : ByteArray} {t : List (Nat × Jvm.ClassFile.Instr × Nat)} (h : dz_go c.data.toList 0 t = true) : dz_C c t := dz_all t _ 0 rfl h
