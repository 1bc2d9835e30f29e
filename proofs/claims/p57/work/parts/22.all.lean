/-! All methods are checked. -/
theorem zck1_0 : [0, 1, 2, 3, 4, 5, 6, 7, 8, 9, 10, 11, 12, 13, 14, 15].all (fun mi => zallB (zck1 mi) 0 (zcode mi)) = true := by decide +kernel
theorem zck2_0 : [0, 1, 2, 3, 4, 5, 6, 7, 8, 9, 10, 11, 12, 13, 14, 15].all (fun mi => zallB (fun _ o => zck2 mi o) 0 (zcode mi)) = true := by decide +kernel
theorem zck1_1 : [16, 17, 18, 19, 20, 21, 22, 23, 24, 25, 26, 27, 28, 29, 30, 31].all (fun mi => zallB (zck1 mi) 0 (zcode mi)) = true := by decide +kernel
theorem zck2_1 : [16, 17, 18, 19, 20, 21, 22, 23, 24, 25, 26, 27, 28, 29, 30, 31].all (fun mi => zallB (fun _ o => zck2 mi o) 0 (zcode mi)) = true := by decide +kernel
theorem zck1_2 : [32, 33, 34, 35, 36, 37, 38, 39, 40, 41, 42, 43, 44, 45, 46, 47].all (fun mi => zallB (zck1 mi) 0 (zcode mi)) = true := by decide +kernel
theorem zck2_2 : [32, 33, 34, 35, 36, 37, 38, 39, 40, 41, 42, 43, 44, 45, 46, 47].all (fun mi => zallB (fun _ o => zck2 mi o) 0 (zcode mi)) = true := by decide +kernel
theorem zck1_3 : [48, 49, 50, 51, 52, 53, 54, 55, 56, 57, 58, 59, 60, 61, 62, 63].all (fun mi => zallB (zck1 mi) 0 (zcode mi)) = true := by decide +kernel
theorem zck2_3 : [48, 49, 50, 51, 52, 53, 54, 55, 56, 57, 58, 59, 60, 61, 62, 63].all (fun mi => zallB (fun _ o => zck2 mi o) 0 (zcode mi)) = true := by decide +kernel
theorem zck1_4 : [64, 65, 66, 67, 68, 69, 70, 71, 72, 73, 74, 75, 76, 77, 78, 79].all (fun mi => zallB (zck1 mi) 0 (zcode mi)) = true := by decide +kernel
theorem zck2_4 : [64, 65, 66, 67, 68, 69, 70, 71, 72, 73, 74, 75, 76, 77, 78, 79].all (fun mi => zallB (fun _ o => zck2 mi o) 0 (zcode mi)) = true := by decide +kernel
theorem zck1_5 : [80, 81, 82, 83, 84, 85, 86, 87, 88, 89, 90, 91, 92, 93, 94, 95].all (fun mi => zallB (zck1 mi) 0 (zcode mi)) = true := by decide +kernel
theorem zck2_5 : [80, 81, 82, 83, 84, 85, 86, 87, 88, 89, 90, 91, 92, 93, 94, 95].all (fun mi => zallB (fun _ o => zck2 mi o) 0 (zcode mi)) = true := by decide +kernel
theorem zck1_6 : [96, 97, 98, 99, 100, 101, 102, 103, 104, 105, 106, 107, 108, 109, 110, 111].all (fun mi => zallB (zck1 mi) 0 (zcode mi)) = true := by decide +kernel
theorem zck2_6 : [96, 97, 98, 99, 100, 101, 102, 103, 104, 105, 106, 107, 108, 109, 110, 111].all (fun mi => zallB (fun _ o => zck2 mi o) 0 (zcode mi)) = true := by decide +kernel
theorem zck1_7 : [112, 113, 114, 115, 116, 117, 118, 119, 120, 121, 122, 123, 124, 125, 126, 127].all (fun mi => zallB (zck1 mi) 0 (zcode mi)) = true := by decide +kernel
theorem zck2_7 : [112, 113, 114, 115, 116, 117, 118, 119, 120, 121, 122, 123, 124, 125, 126, 127].all (fun mi => zallB (fun _ o => zck2 mi o) 0 (zcode mi)) = true := by decide +kernel
theorem zck1_8 : [128, 129, 130, 131, 132, 133, 134, 135, 136, 137, 138, 139, 140, 141, 142, 143].all (fun mi => zallB (zck1 mi) 0 (zcode mi)) = true := by decide +kernel
theorem zck2_8 : [128, 129, 130, 131, 132, 133, 134, 135, 136, 137, 138, 139, 140, 141, 142, 143].all (fun mi => zallB (fun _ o => zck2 mi o) 0 (zcode mi)) = true := by decide +kernel
theorem zck1_9 : [144, 145, 146, 147, 148, 149, 150, 151, 152, 153, 154, 155, 156, 157, 158, 159].all (fun mi => zallB (zck1 mi) 0 (zcode mi)) = true := by decide +kernel
theorem zck2_9 : [144, 145, 146, 147, 148, 149, 150, 151, 152, 153, 154, 155, 156, 157, 158, 159].all (fun mi => zallB (fun _ o => zck2 mi o) 0 (zcode mi)) = true := by decide +kernel
theorem zck1_10 : [160, 161, 162, 163, 164, 165, 166, 167, 168, 169, 170, 171, 172, 173, 174, 175].all (fun mi => zallB (zck1 mi) 0 (zcode mi)) = true := by decide +kernel
theorem zck2_10 : [160, 161, 162, 163, 164, 165, 166, 167, 168, 169, 170, 171, 172, 173, 174, 175].all (fun mi => zallB (fun _ o => zck2 mi o) 0 (zcode mi)) = true := by decide +kernel
theorem zck1_11 : [176, 177, 178, 179, 180, 181, 182, 183, 184, 185, 186, 187, 188, 189, 190, 191].all (fun mi => zallB (zck1 mi) 0 (zcode mi)) = true := by decide +kernel
theorem zck2_11 : [176, 177, 178, 179, 180, 181, 182, 183, 184, 185, 186, 187, 188, 189, 190, 191].all (fun mi => zallB (fun _ o => zck2 mi o) 0 (zcode mi)) = true := by decide +kernel
theorem zck1_12 : [192, 193, 194, 195, 196, 197, 198, 199, 200, 201, 202, 203, 204, 205, 206, 207].all (fun mi => zallB (zck1 mi) 0 (zcode mi)) = true := by decide +kernel
theorem zck2_12 : [192, 193, 194, 195, 196, 197, 198, 199, 200, 201, 202, 203, 204, 205, 206, 207].all (fun mi => zallB (fun _ o => zck2 mi o) 0 (zcode mi)) = true := by decide +kernel
theorem zck1_13 : [208, 209, 210, 211, 212, 213, 214, 215, 216, 217, 218, 219, 220, 221, 222, 223].all (fun mi => zallB (zck1 mi) 0 (zcode mi)) = true := by decide +kernel
theorem zck2_13 : [208, 209, 210, 211, 212, 213, 214, 215, 216, 217, 218, 219, 220, 221, 222, 223].all (fun mi => zallB (fun _ o => zck2 mi o) 0 (zcode mi)) = true := by decide +kernel
theorem zck1_14 : [224, 225, 226, 227, 228, 229, 230, 231, 232, 233, 234, 235, 236, 237, 238, 239].all (fun mi => zallB (zck1 mi) 0 (zcode mi)) = true := by decide +kernel
theorem zck2_14 : [224, 225, 226, 227, 228, 229, 230, 231, 232, 233, 234, 235, 236, 237, 238, 239].all (fun mi => zallB (fun _ o => zck2 mi o) 0 (zcode mi)) = true := by decide +kernel
theorem zck1_15 : [240, 241, 242, 243, 244, 245, 246, 247, 248, 249, 250, 251, 252, 253, 254, 255].all (fun mi => zallB (zck1 mi) 0 (zcode mi)) = true := by decide +kernel
theorem zck2_15 : [240, 241, 242, 243, 244, 245, 246, 247, 248, 249, 250, 251, 252, 253, 254, 255].all (fun mi => zallB (fun _ o => zck2 mi o) 0 (zcode mi)) = true := by decide +kernel
theorem zck1_16 : [256, 257, 258, 259, 260, 261, 262, 263, 264, 265, 266, 267, 268, 269, 270, 271].all (fun mi => zallB (zck1 mi) 0 (zcode mi)) = true := by decide +kernel
theorem zck2_16 : [256, 257, 258, 259, 260, 261, 262, 263, 264, 265, 266, 267, 268, 269, 270, 271].all (fun mi => zallB (fun _ o => zck2 mi o) 0 (zcode mi)) = true := by decide +kernel
theorem zck1_17 : [272, 273, 274, 275, 276, 277, 278, 279, 280, 281, 282, 283, 284, 285, 286, 287].all (fun mi => zallB (zck1 mi) 0 (zcode mi)) = true := by decide +kernel
theorem zck2_17 : [272, 273, 274, 275, 276, 277, 278, 279, 280, 281, 282, 283, 284, 285, 286, 287].all (fun mi => zallB (fun _ o => zck2 mi o) 0 (zcode mi)) = true := by decide +kernel
theorem zck1_18 : [288, 289, 290, 292, 293].all (fun mi => zallB (zck1 mi) 0 (zcode mi)) = true := by decide +kernel
theorem zck2_18 : [288, 289, 290, 291, 292, 293].all (fun mi => zallB (fun _ o => zck2 mi o) 0 (zcode mi)) = true := by decide +kernel
