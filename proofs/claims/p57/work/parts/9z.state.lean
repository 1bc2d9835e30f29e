set_option maxRecDepth 16384
/-! The start: what is so of its state; the class holds it. -/
theorem zs0_0 {a : Int} : zs0 0 a = 0 := rfl
theorem zs0_1 {a : Int} : zs0 1 a = 0 := rfl
theorem zs0_2 {a : Int} : zs0 2 a = 0 := rfl
theorem zs0_3 {a : Int} : zs0 3 a = 0 := rfl
theorem zs0_4 {a : Int} : zs0 4 a = 0 := rfl
theorem zs0_5 {a : Int} : zs0 5 a = 0 := rfl
theorem zs0_6 {a : Int} : zs0 6 a = 0 := rfl
theorem zs0_7 {a : Int} : zs0 7 a = 0 := rfl
theorem zs0_8 {a : Int} : zs0 8 a = 0 := rfl
theorem zs0_9 {a : Int} : zs0 9 a = 0 := rfl
theorem zs0_10 {a : Int} : zs0 10 a = 0 := rfl
theorem zs0_11 {a : Int} : zs0 11 a = 0 := rfl
theorem zs0_12 {a : Int} : zs0 12 a = -1 := rfl
theorem zs0_13 {a : Int} : zs0 13 a = -1 := rfl
theorem zs0_14 {a : Int} : zs0 14 a = 0 := rfl
theorem zs0_15 {a : Int} : zs0 15 a = 0 := rfl
theorem zs0_16 {a : Int} : zs0 16 a = 0 := rfl
theorem zs0_17 {a : Int} : zs0 17 a = 0 := rfl
theorem zs0_18 {a : Int} : zs0 18 a = -1 := rfl
theorem zs0_19 {a : Int} : zs0 19 a = 0 := rfl
theorem zs0_20 {a : Int} : zs0 20 a = 0 := rfl
theorem zs0_21 {a : Int} : zs0 21 a = 1 := rfl
theorem zs0_22 {a : Int} : zs0 22 a = 0 := rfl
theorem zs0_23 {a : Int} : zs0 23 a = -1 := rfl
theorem zs0_24 {a : Int} : zs0 24 a = 0 := rfl
theorem zs0_25 {a : Int} : zs0 25 a = 0 := rfl
theorem zs0_26 {a : Int} : zs0 26 a = 0 := rfl
theorem zs0_27 {a : Int} : zs0 27 a = 0 := rfl
theorem zs0_28 {a : Int} : zs0 28 a = 0 := rfl
theorem zs0_29 {a : Int} : zs0 29 a = 0 := rfl
theorem zs0_30 {a : Int} : zs0 30 a = 0 := rfl
theorem zs0_31 {a : Int} : zs0 31 a = 0 := rfl
theorem zs0_32 {a : Int} : zs0 32 a = 0 := rfl
theorem zs0_33 {a : Int} : zs0 33 a = 0 := rfl
theorem zs0_34 {a : Int} : zs0 34 a = 0 := rfl
theorem zs0_35 {a : Int} : zs0 35 a = 0 := rfl
theorem zs0_36 {a : Int} : zs0 36 a = 0 := rfl
theorem zs0_37 {a : Int} : zs0 37 a = 0 := rfl
theorem zs0_38 {a : Int} : zs0 38 a = 0 := rfl
theorem zs0_39 {a : Int} : zs0 39 a = 0 := rfl
theorem zs0_40 {a : Int} : zs0 40 a = 0 := rfl
theorem zs0_41 {a : Int} : zs0 41 a = 0 := rfl
theorem zs0_42 {a : Int} : zs0 42 a = 0 := rfl
theorem zs0_43 {a : Int} : zs0 43 a = 0 := rfl
theorem zs0_44 {a : Int} : zs0 44 a = 0 := rfl
theorem zs0_45 {a : Int} : zs0 45 a = 0 := rfl
theorem zs0_46 {a : Int} : zs0 46 a = 0 := rfl
theorem zs0_47 {a : Int} : zs0 47 a = 0 := rfl
theorem zs0_48 {a : Int} : zs0 48 a = 0 := rfl
theorem zs0_49 {a : Int} : zs0 49 a = 0 := rfl
theorem zs0_50 {a : Int} : zs0 50 a = 0 := rfl
theorem zs0_51 {a : Int} : zs0 51 a = 0 := rfl
theorem zs0_52 {a : Int} : zs0 52 a = 0 := rfl
theorem zs0_53 {a : Int} : zs0 53 a = 0 := rfl
theorem zs0_54 {a : Int} : zs0 54 a = 0 := rfl
theorem zs0_55 {a : Int} : zs0 55 a = 0 := rfl
theorem zs0_56 {a : Int} : zs0 56 a = 0 := rfl
theorem zs0_57 {a : Int} : zs0 57 a = 0 := rfl
theorem zs0_58 {a : Int} : zs0 58 a = 0 := rfl
theorem zs0_59 {a : Int} : zs0 59 a = 0 := rfl
theorem zs0_60 {a : Int} : zs0 60 a = 0 := rfl
theorem zs0_61 {a : Int} : zs0 61 a = 0 := rfl
theorem zs0_62 {a : Int} : zs0 62 a = -1 := rfl
theorem zs0_63 {a : Int} : zs0 63 a = 0 := rfl
theorem zs0_64 {a : Int} : zs0 64 a = 0 := rfl
theorem zs0_65 {a : Int} : zs0 65 a = 0 := rfl
theorem zs0_66 {a : Int} : zs0 66 a = 0 := rfl
theorem zs0_67 {a : Int} : zs0 67 a = 0 := rfl
theorem zs0_68 {a : Int} : zs0 68 a = 0 := rfl
theorem zs0_69 {a : Int} : zs0 69 a = 0 := rfl
theorem zs0_70 {a : Int} : zs0 70 a = 0 := rfl
theorem zs0_71 {a : Int} : zs0 71 a = 0 := rfl
theorem zs0_72 {a : Int} : zs0 72 a = 0 := rfl
theorem zs0_73 {a : Int} : zs0 73 a = 0 := rfl
theorem zs0_74 {a : Int} : zs0 74 a = 0 := rfl
theorem zs0_75 {a : Int} : zs0 75 a = 0 := rfl
theorem zs0_76 {a : Int} : zs0 76 a = 0 := rfl
theorem zs0_77 {a : Int} : zs0 77 a = 0 := rfl
theorem zW0a : zWa zs0 := by
  unfold zWa
  simp only [zs0_0, zs0_1, zs0_2, zs0_3, zs0_4, zs0_5, zs0_6, zs0_7, zs0_8, zs0_9, zs0_10, zs0_11, zs0_12, zs0_13, zs0_14, zs0_15, zs0_16, zs0_17, zs0_18, zs0_19, zs0_20, zs0_21, zs0_22, zs0_23, zs0_24, zs0_25, zs0_26, zs0_27, zs0_28, zs0_29, zs0_30, zs0_31, zs0_32, zs0_33, zs0_34, zs0_35, zs0_36, zs0_37, zs0_38, zs0_39, zs0_40, zs0_41, zs0_42, zs0_43, zs0_44, zs0_45, zs0_46, zs0_47, zs0_48, zs0_49, zs0_50, zs0_51, zs0_52, zs0_53, zs0_54, zs0_55, zs0_56, zs0_57, zs0_58, zs0_59, zs0_60, zs0_61, zs0_62, zs0_63, zs0_64, zs0_65, zs0_66, zs0_67, zs0_68, zs0_69, zs0_70, zs0_71, zs0_72, zs0_73, zs0_74, zs0_75, zs0_76, zs0_77]
  exact ⟨by omega, fun a a0 a1 => by omega⟩
theorem zW0k : zWk zs0 := by
  exact fun k k0 k1 => ⟨(by decide : (-1 : Int) ≤ -1 ∧ (-1 : Int) < 0), (by decide : (-1 : Int) ≤ -1 ∧ (-1 : Int) < 0), (by decide : (0 : Int) ≤ 0 ∧ (0 : Int) ≤ 100), ⟨fun _ => rfl, fun _ => rfl⟩, fun z => absurd rfl z, fun z => absurd rfl z⟩
theorem zW0c : zWc zs0 := by
  unfold zWc
  simp only [zs0_0, zs0_1, zs0_2, zs0_3, zs0_4, zs0_5, zs0_6, zs0_7, zs0_8, zs0_9, zs0_10, zs0_11, zs0_12, zs0_13, zs0_14, zs0_15, zs0_16, zs0_17, zs0_18, zs0_19, zs0_20, zs0_21, zs0_22, zs0_23, zs0_24, zs0_25, zs0_26, zs0_27, zs0_28, zs0_29, zs0_30, zs0_31, zs0_32, zs0_33, zs0_34, zs0_35, zs0_36, zs0_37, zs0_38, zs0_39, zs0_40, zs0_41, zs0_42, zs0_43, zs0_44, zs0_45, zs0_46, zs0_47, zs0_48, zs0_49, zs0_50, zs0_51, zs0_52, zs0_53, zs0_54, zs0_55, zs0_56, zs0_57, zs0_58, zs0_59, zs0_60, zs0_61, zs0_62, zs0_63, zs0_64, zs0_65, zs0_66, zs0_67, zs0_68, zs0_69, zs0_70, zs0_71, zs0_72, zs0_73, zs0_74, zs0_75, zs0_76, zs0_77]
  exact ⟨by omega, fun c c0 c1 => ⟨by omega, by omega, fun z => absurd rfl z⟩⟩
theorem zW0d : zWd zs0 := by
  unfold zWd
  simp only [zs0_0, zs0_1, zs0_2, zs0_3, zs0_4, zs0_5, zs0_6, zs0_7, zs0_8, zs0_9, zs0_10, zs0_11, zs0_12, zs0_13, zs0_14, zs0_15, zs0_16, zs0_17, zs0_18, zs0_19, zs0_20, zs0_21, zs0_22, zs0_23, zs0_24, zs0_25, zs0_26, zs0_27, zs0_28, zs0_29, zs0_30, zs0_31, zs0_32, zs0_33, zs0_34, zs0_35, zs0_36, zs0_37, zs0_38, zs0_39, zs0_40, zs0_41, zs0_42, zs0_43, zs0_44, zs0_45, zs0_46, zs0_47, zs0_48, zs0_49, zs0_50, zs0_51, zs0_52, zs0_53, zs0_54, zs0_55, zs0_56, zs0_57, zs0_58, zs0_59, zs0_60, zs0_61, zs0_62, zs0_63, zs0_64, zs0_65, zs0_66, zs0_67, zs0_68, zs0_69, zs0_70, zs0_71, zs0_72, zs0_73, zs0_74, zs0_75, zs0_76, zs0_77]
  exact ⟨by omega, fun x x0 x1 => by omega, fun v v0 v1 => by omega⟩
theorem zW0p : zWp zs0 := by
  unfold zWp
  simp only [zs0_0, zs0_1, zs0_2, zs0_3, zs0_4, zs0_5, zs0_6, zs0_7, zs0_8, zs0_9, zs0_10, zs0_11, zs0_12, zs0_13, zs0_14, zs0_15, zs0_16, zs0_17, zs0_18, zs0_19, zs0_20, zs0_21, zs0_22, zs0_23, zs0_24, zs0_25, zs0_26, zs0_27, zs0_28, zs0_29, zs0_30, zs0_31, zs0_32, zs0_33, zs0_34, zs0_35, zs0_36, zs0_37, zs0_38, zs0_39, zs0_40, zs0_41, zs0_42, zs0_43, zs0_44, zs0_45, zs0_46, zs0_47, zs0_48, zs0_49, zs0_50, zs0_51, zs0_52, zs0_53, zs0_54, zs0_55, zs0_56, zs0_57, zs0_58, zs0_59, zs0_60, zs0_61, zs0_62, zs0_63, zs0_64, zs0_65, zs0_66, zs0_67, zs0_68, zs0_69, zs0_70, zs0_71, zs0_72, zs0_73, zs0_74, zs0_75, zs0_76, zs0_77]
  exact ⟨by omega, fun p p0 p1 => by omega, fun x => by omega, fun p x p0 p1 => by omega⟩
theorem zW0r : zWr zs0 := by
  unfold zWr
  simp only [zs0_0, zs0_1, zs0_2, zs0_3, zs0_4, zs0_5, zs0_6, zs0_7, zs0_8, zs0_9, zs0_10, zs0_11, zs0_12, zs0_13, zs0_14, zs0_15, zs0_16, zs0_17, zs0_18, zs0_19, zs0_20, zs0_21, zs0_22, zs0_23, zs0_24, zs0_25, zs0_26, zs0_27, zs0_28, zs0_29, zs0_30, zs0_31, zs0_32, zs0_33, zs0_34, zs0_35, zs0_36, zs0_37, zs0_38, zs0_39, zs0_40, zs0_41, zs0_42, zs0_43, zs0_44, zs0_45, zs0_46, zs0_47, zs0_48, zs0_49, zs0_50, zs0_51, zs0_52, zs0_53, zs0_54, zs0_55, zs0_56, zs0_57, zs0_58, zs0_59, zs0_60, zs0_61, zs0_62, zs0_63, zs0_64, zs0_65, zs0_66, zs0_67, zs0_68, zs0_69, zs0_70, zs0_71, zs0_72, zs0_73, zs0_74, zs0_75, zs0_76, zs0_77]
  exact ⟨by omega, by omega, fun r r0 r1 => by omega⟩
theorem zW0z : zWz zs0 := by
  unfold zWz
  simp only [zs0_0, zs0_1, zs0_2, zs0_3, zs0_4, zs0_5, zs0_6, zs0_7, zs0_8, zs0_9, zs0_10, zs0_11, zs0_12, zs0_13, zs0_14, zs0_15, zs0_16, zs0_17, zs0_18, zs0_19, zs0_20, zs0_21, zs0_22, zs0_23, zs0_24, zs0_25, zs0_26, zs0_27, zs0_28, zs0_29, zs0_30, zs0_31, zs0_32, zs0_33, zs0_34, zs0_35, zs0_36, zs0_37, zs0_38, zs0_39, zs0_40, zs0_41, zs0_42, zs0_43, zs0_44, zs0_45, zs0_46, zs0_47, zs0_48, zs0_49, zs0_50, zs0_51, zs0_52, zs0_53, zs0_54, zs0_55, zs0_56, zs0_57, zs0_58, zs0_59, zs0_60, zs0_61, zs0_62, zs0_63, zs0_64, zs0_65, zs0_66, zs0_67, zs0_68, zs0_69, zs0_70, zs0_71, zs0_72, zs0_73, zs0_74, zs0_75, zs0_76, zs0_77]
  exact ⟨by omega, fun x x0 x1 => by omega, fun x x0 x1 => by omega, fun x x0 x1 => by omega⟩
theorem zW0t : zWt zs0 := by
  unfold zWt
  simp only [zs0_0, zs0_1, zs0_2, zs0_3, zs0_4, zs0_5, zs0_6, zs0_7, zs0_8, zs0_9, zs0_10, zs0_11, zs0_12, zs0_13, zs0_14, zs0_15, zs0_16, zs0_17, zs0_18, zs0_19, zs0_20, zs0_21, zs0_22, zs0_23, zs0_24, zs0_25, zs0_26, zs0_27, zs0_28, zs0_29, zs0_30, zs0_31, zs0_32, zs0_33, zs0_34, zs0_35, zs0_36, zs0_37, zs0_38, zs0_39, zs0_40, zs0_41, zs0_42, zs0_43, zs0_44, zs0_45, zs0_46, zs0_47, zs0_48, zs0_49, zs0_50, zs0_51, zs0_52, zs0_53, zs0_54, zs0_55, zs0_56, zs0_57, zs0_58, zs0_59, zs0_60, zs0_61, zs0_62, zs0_63, zs0_64, zs0_65, zs0_66, zs0_67, zs0_68, zs0_69, zs0_70, zs0_71, zs0_72, zs0_73, zs0_74, zs0_75, zs0_76, zs0_77]
  exact ⟨by omega, fun t t0 t1 => by omega⟩
theorem zW0g : zWg zs0 := by
  unfold zWg
  simp only [zs0_0, zs0_1, zs0_2, zs0_3, zs0_4, zs0_5, zs0_6, zs0_7, zs0_8, zs0_9, zs0_10, zs0_11, zs0_12, zs0_13, zs0_14, zs0_15, zs0_16, zs0_17, zs0_18, zs0_19, zs0_20, zs0_21, zs0_22, zs0_23, zs0_24, zs0_25, zs0_26, zs0_27, zs0_28, zs0_29, zs0_30, zs0_31, zs0_32, zs0_33, zs0_34, zs0_35, zs0_36, zs0_37, zs0_38, zs0_39, zs0_40, zs0_41, zs0_42, zs0_43, zs0_44, zs0_45, zs0_46, zs0_47, zs0_48, zs0_49, zs0_50, zs0_51, zs0_52, zs0_53, zs0_54, zs0_55, zs0_56, zs0_57, zs0_58, zs0_59, zs0_60, zs0_61, zs0_62, zs0_63, zs0_64, zs0_65, zs0_66, zs0_67, zs0_68, zs0_69, zs0_70, zs0_71, zs0_72, zs0_73, zs0_74, zs0_75, zs0_76, zs0_77]
  exact ⟨fun f f0 f1 => ⟨by omega, by omega, by omega, by omega, by omega, fun x x0 x1 => by omega⟩, fun c c0 c1 => by omega⟩
theorem zW0e : zWe zs0 := by
  unfold zWe
  simp only [zs0_0, zs0_1, zs0_2, zs0_3, zs0_4, zs0_5, zs0_6, zs0_7, zs0_8, zs0_9, zs0_10, zs0_11, zs0_12, zs0_13, zs0_14, zs0_15, zs0_16, zs0_17, zs0_18, zs0_19, zs0_20, zs0_21, zs0_22, zs0_23, zs0_24, zs0_25, zs0_26, zs0_27, zs0_28, zs0_29, zs0_30, zs0_31, zs0_32, zs0_33, zs0_34, zs0_35, zs0_36, zs0_37, zs0_38, zs0_39, zs0_40, zs0_41, zs0_42, zs0_43, zs0_44, zs0_45, zs0_46, zs0_47, zs0_48, zs0_49, zs0_50, zs0_51, zs0_52, zs0_53, zs0_54, zs0_55, zs0_56, zs0_57, zs0_58, zs0_59, zs0_60, zs0_61, zs0_62, zs0_63, zs0_64, zs0_65, zs0_66, zs0_67, zs0_68, zs0_69, zs0_70, zs0_71, zs0_72, zs0_73, zs0_74, zs0_75, zs0_76, zs0_77]
  exact ⟨by omega, fun e e0 e1 => by omega⟩
theorem zW0m : zWm zs0 := by
  unfold zWm
  simp only [zs0_0, zs0_1, zs0_2, zs0_3, zs0_4, zs0_5, zs0_6, zs0_7, zs0_8, zs0_9, zs0_10, zs0_11, zs0_12, zs0_13, zs0_14, zs0_15, zs0_16, zs0_17, zs0_18, zs0_19, zs0_20, zs0_21, zs0_22, zs0_23, zs0_24, zs0_25, zs0_26, zs0_27, zs0_28, zs0_29, zs0_30, zs0_31, zs0_32, zs0_33, zs0_34, zs0_35, zs0_36, zs0_37, zs0_38, zs0_39, zs0_40, zs0_41, zs0_42, zs0_43, zs0_44, zs0_45, zs0_46, zs0_47, zs0_48, zs0_49, zs0_50, zs0_51, zs0_52, zs0_53, zs0_54, zs0_55, zs0_56, zs0_57, zs0_58, zs0_59, zs0_60, zs0_61, zs0_62, zs0_63, zs0_64, zs0_65, zs0_66, zs0_67, zs0_68, zs0_69, zs0_70, zs0_71, zs0_72, zs0_73, zs0_74, zs0_75, zs0_76, zs0_77]
  exact ⟨by omega, fun w w0 w1 => ⟨by omega, fun x x0 x1 => by omega⟩⟩
theorem zW0q : zWq zs0 := by
  refine ⟨fun r r' r0 r1 r2 => ?_, ?_⟩
  · have r2 : r' < 0 := r2
    omega
  · show (0 : Int) = _
    exact ((zcnt_0 800).mpr fun ⟨u, u0, u1, u2⟩ => u2 rfl).symm
theorem zW0x : zWx zs0 := by
  exact ⟨(by decide : (0 : Int) ≤ 0 ∧ (0 : Int) ≤ 1), (by decide : (0 : Int) ≤ 0 ∧ (0 : Int) ≤ 2), fun _ => rfl, ⟨fun _ => 0, fun f f0 f1 z => absurd rfl z⟩, fun p p0 p1 => rfl, fun r r0 r1 => ⟨rfl, rfl, rfl, rfl, rfl, fun g g0 g1 => rfl⟩, fun e e0 e1 => rfl, zW0q⟩
theorem zW0 : zWf zs0 := by
  exact ⟨zW0a, zW0k, zW0c, zW0d, zW0p, zW0r, zW0z, zW0t, zW0g, zW0e, zW0m, zW0x⟩
/-- the class's lists and arrays as they are made -/
theorem zpre_f {h : zH} (c : ∀ k, k ≠ 12 → zct h k = 0) : zCr (zpreH h) ∧ (∀ j, zi (zpreH h) 12 0 j = if j = 12 then 0 else zi h 12 0 j) ∧ (zi (zpreH h) 14 0 1 = 1 ∧ zln (zpreH h) 14 0 = 0) ∧ (zi (zpreH h) 15 0 1 = 1 ∧ zln (zpreH h) 15 0 = 0) ∧ (zi (zpreH h) 16 0 1 = 1 ∧ zln (zpreH h) 16 0 = 0) ∧ (zi (zpreH h) 17 0 1 = 1 ∧ zln (zpreH h) 17 0 = 0) ∧ (zi (zpreH h) 18 0 1 = 1 ∧ zln (zpreH h) 18 0 = 0) ∧ (zi (zpreH h) 19 0 1 = 1 ∧ zln (zpreH h) 19 0 = 0) ∧ (zln (zpreH h) 33 0 = 4 ∧ zln (zpreH h) 34 0 = 8 ∧ zln (zpreH h) 35 0 = 3 ∧ zln (zpreH h) 36 0 = 3 ∧ zln (zpreH h) 37 0 = 200) ∧ (∀ j, zi (zpreH h) 35 0 j = 0 ∧ zi (zpreH h) 36 0 j = 0 ∧ zi (zpreH h) 37 0 j = 0) := by
  have c14 := c 14 (by decide)
  have c15 := c 15 (by decide)
  have c16 := c 16 (by decide)
  have c17 := c 17 (by decide)
  have c18 := c 18 (by decide)
  have c19 := c 19 (by decide)
  have c33 := c 33 (by decide)
  have c34 := c 34 (by decide)
  have c35 := c 35 (by decide)
  have c36 := c 36 (by decide)
  have c37 := c 37 (by decide)
  unfold zCr
  refine ⟨?_, fun j => ?_, ?_, ?_, ?_, ?_, ?_, ?_, ?_, fun j => ?_⟩
  all_goals simp only [zpreH, zlsH, zarH, lkn_c, lkn_l, lkn_i, lkn_r, lki_c, lki_l, lki_i, lki_r, lkr_c, lkr_l, lkr_i, lkr_r, c14, c15, c16, c17, c18, c19, c33, c34, c35, c36, c37, reduceIte, Nat.reduceEqDiff, and_true, true_and, and_false, false_and, and_self]
theorem zpre_k {h : zH} : zKp (fun k => k ≠ 12 ∧ ¬ (14 ≤ k ∧ k ≤ 19) ∧ ¬ (33 ≤ k ∧ k ≤ 37)) h (zpreH h) := by
  have ls : ∀ (H : zH) (k j : Nat), (14 ≤ k ∧ k ≤ 19) → zKp (fun k => k ≠ 12 ∧ ¬ (14 ≤ k ∧ k ≤ 19) ∧ ¬ (33 ≤ k ∧ k ≤ 37)) H (zlsH H k j) := fun H k j hk => (zKp_nw (fun z => z.2.1 hk)).tr ((zKp_i (fun z => z.2.1 hk)).tr (zKp_r (fun z => z.1 rfl)))
  have ar : ∀ (H : zH) (k n j : Nat), (33 ≤ k ∧ k ≤ 37) → zKp (fun k => k ≠ 12 ∧ ¬ (14 ≤ k ∧ k ≤ 19) ∧ ¬ (33 ≤ k ∧ k ≤ 37)) H (zarH H k n j) := fun H k n j hk => (zKp_nw (fun z => z.2.2 hk)).tr (zKp_r (fun z => z.1 rfl))
  exact (ls _ 14 0 (by omega)).tr ((ls _ 15 1 (by omega)).tr ((ls _ 16 2 (by omega)).tr ((ls _ 17 3 (by omega)).tr ((ls _ 18 4 (by omega)).tr ((ls _ 19 5 (by omega)).tr ((ar _ 33 4 6 (by omega)).tr ((ar _ 34 8 7 (by omega)).tr ((ar _ 35 3 8 (by omega)).tr ((ar _ 36 3 9 (by omega)).tr ((ar _ 37 200 10 (by omega)).tr (zKp_i (fun z => z.1 rfl))))))))))))
theorem zC0M {h : zH} (hP : zPK 12 h) : zCM h zs0 := by
  obtain ⟨⟨c10, c7, c8, c30, c31⟩, hk⟩ := hP
  refine ⟨⟨fun w => (30, zbi w), fun w w' w0 w1 v0 v1 e => ?_, fun w w0 w1 => ?_⟩, fun k k0 k1 => ?_⟩
  · have e : zbi w = zbi w' := congrArg Prod.snd e
    unfold zbi at e
    by_cases p : w % 2 = 1
    · by_cases q : w' % 2 = 1
      · rw [if_pos p, if_pos q] at e; omega
      · rw [if_pos p, if_neg q] at e; omega
    · by_cases q : w' % 2 = 1
      · rw [if_neg p, if_pos q] at e; omega
      · rw [if_neg p, if_neg q] at e; omega
  · obtain ⟨-, f7, f8⟩ := hk (w / 2).toNat (by omega)
    have F : zFsm h (zsk w) (w / 2).toNat (zbi w) := by
      by_cases p : w % 2 = 1
      · have e1 : zsk w = 7 := if_pos p
        have e2 : zbi w = 2 * (w / 2).toNat := by
          unfold zbi
          rw [if_pos p]
          omega
        rw [e1, e2]
        exact f7
      · have e1 : zsk w = 8 := if_neg p
        have e2 : zbi w = 2 * (w / 2).toNat + 1 := by
          unfold zbi
          rw [if_neg p]
          omega
        rw [e1, e2]
        exact f8
    have hb : zbi w < 24 := by
      unfold zbi
      split <;> omega
    obtain ⟨g1, g2, g3, g4, g5, g6, g7⟩ := F
    have z : zs0 47 w = 0 := rfl
    have cz : ∀ P : Int → Prop, zcnt P (zs0 47 w).toNat = 0 := fun P => rfl
    refine ⟨⟨Or.inl rfl, ?_⟩, g1, ⟨?_, ?_, ?_⟩, fun x x0 x1 => ?_, ?_, ?_, g5, g6, fun b b0 b1 => ?_⟩
    · show zbi w < zct h 30
      omega
    · show zs0 47 w ≤ (zln h 30 (zbi w) : Int)
      rw [z]
      omega
    · show 8 ≤ zln h 30 (zbi w)
      omega
    · show zln h 30 (zbi w) ≤ 2048
      omega
    · rw [z] at x1
      omega
    · rw [g3, z]
      exact zE_0
    · rw [g4, cz]
      exact zE_0
    · rw [g7, cz]
      exact zE_0
  · obtain ⟨f10, -, -⟩ := hk k.toNat (by omega)
    have z : zprs zs0 k = 0 := rfl
    rw [z]
    exact f10.2.2.2.2.1

