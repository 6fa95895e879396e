/-! ===== WHAT EACH METHOD LEAVES ALONE ===== -/
theorem hc_0_0 : (hWk hw_0_0 && hChk xTf_1 (hCw hvs hrt hw_0_0) false hd_0_0 prog_2_method_2_code [0, 1, 4, 5, 8, 9, 10, 11, 14, 21, 22, 23, 26, 27, 30, 31, 32, 33, 34, 37, 38, 39, 42, 43, 44, 46, 47, 50, 51, 53, 54, 57, 58, 59, 62, 65] (some 40, some 28)) = true := by decide +kernel
theorem hc_1_0 : (hWk hw_1_0 && hChk xTf_1 (hCw hvs hrt hw_1_0) true hd_1_0 prog_2_method_3_code [0, 1, 4, 6, 7, 8, 9, 11, 12, 13, 14, 17, 18, 19, 20, 21, 24, 27, 28, 31, 32, 33, 34, 35, 38, 39, 40, 43, 44, 45, 48, 49, 50, 53, 54] (some 40, some 28)) = true := by decide +kernel
theorem hc_2_0 : (hWk hw_2_0 && hChk xTf_2 (hCw hvs hrt hw_2_0) true hd_2_0 prog_3_method_2_code [0, 1, 3, 6, 7, 8, 9, 10, 13, 14, 15, 18, 21, 22, 25, 26] (some 48, some 28)) = true := by decide +kernel
theorem hc_2_1 : (hWk hw_2_1 && hChk xTf_2 (hCw hvs hrt hw_2_1) true hd_2_1 prog_3_method_2_code [0, 1, 3, 6, 7, 8, 9, 10, 13, 14, 15, 18, 21, 22, 25, 26] (some 48, some 34)) = true := by decide +kernel
theorem hc_2_2 : (hWk hw_2_2 && hChk xTf_2 (hCw hvs hrt hw_2_2) true hd_2_2 prog_3_method_2_code [0, 1, 3, 6, 7, 8, 9, 10, 13, 14, 15, 18, 21, 22, 25, 26] (some 48, some 60)) = true := by decide +kernel
theorem hc_3_0 : (hWk hw_3_0 && hChk xTf_2 (hCw hvs hrt hw_3_0) true hd_3_0 prog_3_method_8_code [0, 1, 4, 7, 8, 9, 10, 11, 12, 13, 14, 17, 20, 23, 24, 27, 30, 31, 32, 34, 35, 38, 41, 42, 43, 45, 48, 50, 53, 55, 56, 59, 60, 62, 65, 66, 67, 68, 71, 72, 74, 77, 79, 82, 83, 86, 88, 89, 90, 93, 96, 98, 100, 103, 104, 107, 108, 111, 112, 113, 114, 115, 118, 119, 120, 121, 122, 125, 127, 128, 131, 132, 135, 136, 137, 138, 139, 142, 143, 144, 146, 148, 151, 154, 155, 158, 159, 160, 161, 164, 165, 166, 167, 168, 171, 172, 175, 176, 178, 181, 182, 185, 188, 189, 192, 193, 194, 195, 197, 198, 201, 202, 203, 204, 205, 206, 209, 210, 211, 214, 215, 218, 219] (some 48, none)) = true := by decide +kernel
theorem hc_4_0 : (hWk hw_4_0 && hChk xTf_2 (hCw hvs hrt hw_4_0) false hd_4_0 prog_3_method_7_code [0, 1, 3, 4, 5, 6, 8, 9, 12, 13, 14, 17, 18, 19, 22, 23, 24, 27, 29, 30, 31, 32, 35, 36, 37, 40, 42, 43, 44, 45, 48, 49, 50, 51, 52, 55, 57, 58, 59, 60, 63, 65, 66, 67, 68, 71, 72] (some 48, some 28)) = true := by decide +kernel
theorem hc_4_1 : (hWk hw_4_1 && hChk xTf_2 (hCw hvs hrt hw_4_1) false hd_4_1 prog_3_method_7_code [0, 1, 3, 4, 5, 6, 8, 9, 12, 13, 14, 17, 18, 19, 22, 23, 24, 27, 29, 30, 31, 32, 35, 36, 37, 40, 42, 43, 44, 45, 48, 49, 50, 51, 52, 55, 57, 58, 59, 60, 63, 65, 66, 67, 68, 71, 72] (some 48, some 34)) = true := by decide +kernel
theorem hc_4_2 : (hWk hw_4_2 && hChk xTf_2 (hCw hvs hrt hw_4_2) false hd_4_2 prog_3_method_7_code [0, 1, 3, 4, 5, 6, 8, 9, 12, 13, 14, 17, 18, 19, 22, 23, 24, 27, 29, 30, 31, 32, 35, 36, 37, 40, 42, 43, 44, 45, 48, 49, 50, 51, 52, 55, 57, 58, 59, 60, 63, 65, 66, 67, 68, 71, 72] (some 48, some 60)) = true := by decide +kernel
theorem hc_5_0 : (hWk hw_5_0 && hChk xTf_2 (hCw hvs hrt hw_5_0) false hd_5_0 prog_3_method_6_code [0, 1, 4, 5, 6, 9, 12, 13, 14, 15, 16, 19, 20, 21, 24, 27, 28, 29, 30, 31, 34, 36, 37, 40, 43, 44, 45, 46] (some 48, none)) = true := by decide +kernel
theorem hc_6_0 : (hWk hw_6_0 && hChk xTf_2 (hCw hvs hrt hw_6_0) true hd_6_0 prog_3_method_5_code [0, 1, 4, 5, 8, 9, 10, 13, 14, 17, 18, 19, 20, 21, 23, 24, 25, 28, 31, 34] (some 48, none)) = true := by decide +kernel
theorem hc_7_0 : (hWk hw_7_0 && hChk xTf_2 (hCw hvs hrt hw_7_0) true hd_7_0 prog_3_method_3_code [0, 1, 3, 6, 7, 8, 9, 10, 13, 14, 15, 18] (some 48, some 28)) = true := by decide +kernel
theorem hc_7_1 : (hWk hw_7_1 && hChk xTf_2 (hCw hvs hrt hw_7_1) true hd_7_1 prog_3_method_3_code [0, 1, 3, 6, 7, 8, 9, 10, 13, 14, 15, 18] (some 48, some 34)) = true := by decide +kernel
theorem hc_7_2 : (hWk hw_7_2 && hChk xTf_2 (hCw hvs hrt hw_7_2) true hd_7_2 prog_3_method_3_code [0, 1, 3, 6, 7, 8, 9, 10, 13, 14, 15, 18] (some 48, some 60)) = true := by decide +kernel
theorem hc_8_0 : (hWk hw_8_0 && hChk xTf_2 (hCw hvs hrt hw_8_0) true hd_8_0 prog_3_method_4_code [0, 1, 4, 5, 8, 9, 10, 11, 12, 15, 16, 18, 19, 20, 23, 26, 29] (some 48, some 28)) = true := by decide +kernel
theorem hc_8_1 : (hWk hw_8_1 && hChk xTf_2 (hCw hvs hrt hw_8_1) true hd_8_1 prog_3_method_4_code [0, 1, 4, 5, 8, 9, 10, 11, 12, 15, 16, 18, 19, 20, 23, 26, 29] (some 48, some 34)) = true := by decide +kernel
theorem hc_8_2 : (hWk hw_8_2 && hChk xTf_2 (hCw hvs hrt hw_8_2) true hd_8_2 prog_3_method_4_code [0, 1, 4, 5, 8, 9, 10, 11, 12, 15, 16, 18, 19, 20, 23, 26, 29] (some 48, some 60)) = true := by decide +kernel
theorem hc_9_0 : (hWk hw_9_0 && hChk xTf_3 (hCw hvs hrt hw_9_0) true hd_9_0 prog_4_method_5_code [0, 1, 4, 5, 8, 9, 10, 13, 14, 15, 18, 21, 24, 25, 26, 29, 30, 31, 32, 35, 36, 37, 40, 41] (some 12, none)) = true := by decide +kernel
theorem hc_10_0 : (hWk hw_10_0 && hChk xTf_3 (hCw hvs hrt hw_10_0) true hd_10_0 prog_4_method_4_code [0, 1, 2, 5, 6, 7, 10, 13, 16, 17, 20, 23, 24, 27, 28, 31, 32, 35, 36] (some 12, none)) = true := by decide +kernel
theorem hc_11_0 : (hWk hw_11_0 && hChk xTf_3 (hCw hvs hrt hw_11_0) true hd_11_0 prog_4_method_14_code [0, 1, 3, 4, 6, 8, 9, 12, 15, 16, 17, 20, 22, 24, 25, 26, 29, 30, 33, 36, 37, 38, 40, 41, 42, 43, 45, 46, 48, 51, 54, 55, 57, 58, 61, 63, 64, 67, 68, 71, 72, 73, 74, 77, 79] (some 12, none)) = true := by decide +kernel
theorem hc_12_0 : (hWk hw_12_0 && hChk xTf_3 (hCw hvs hrt hw_12_0) true hd_12_0 prog_4_method_11_code [0, 1, 4, 7, 8, 9, 10, 13, 16, 17, 18, 21, 22, 23, 24, 25, 26, 27, 30, 33, 34, 35, 38, 39, 42, 43, 46, 49, 50, 51, 52, 53, 54, 55, 58, 59, 62, 65, 66, 67, 68, 69, 70, 73, 74, 75, 78, 81, 82] (some 12, none)) = true := by decide +kernel
theorem hc_13_0 : (hWk hw_13_0 && hChk xTf_3 (hCw hvs hrt hw_13_0) true hd_13_0 prog_4_method_3_code [0, 1, 4, 7, 10, 11, 14, 17, 18, 21, 22, 25, 26] (some 12, none)) = true := by decide +kernel
theorem hc_14_0 : (hWk hw_14_0 && hChk xTf_3 (hCw hvs hrt hw_14_0) false hd_14_0 prog_4_method_6_code [0, 1, 4, 5, 8, 11, 12, 13, 16, 17, 18, 21, 24, 25, 26, 29] (some 12, none)) = true := by decide +kernel
theorem hc_15_0 : (hWk hw_15_0 && hChk xTf_3 (hCw hvs hrt hw_15_0) false hd_15_0 prog_4_method_10_code [0, 1, 2, 3, 4, 7, 10, 11, 12, 13, 16, 17, 18, 19, 22, 23, 24, 27, 30, 33, 34, 37, 38, 41, 42, 45, 46, 49, 50, 53, 54, 55, 56, 57, 60, 61, 62, 65] (some 12, none)) = true := by decide +kernel
theorem hc_16_0 : (hWk hw_16_0 && hChk xTf_3 (hCw hvs hrt hw_16_0) true hd_16_0 prog_4_method_2_code [0, 1, 4, 7, 8, 11, 12, 15, 16, 19, 20, 21, 24, 25, 26, 29, 30, 31, 34, 35, 36, 39, 40, 41, 42, 45, 48, 49, 52, 55, 56, 59, 62, 63, 66, 116, 117, 120, 123, 124, 127, 130, 131, 132, 135, 138, 139, 140, 143, 146, 147, 148, 151, 154, 155, 156, 159, 162, 163, 164, 167, 170, 173, 174, 175, 178, 179, 182, 185, 186, 189, 192, 193, 194, 197, 200, 201, 202, 205, 208, 209, 212] (some 12, none)) = true := by decide +kernel
theorem hc_17_0 : (hWk hw_17_0 && hChk xTf_3 (hCw hvs hrt hw_17_0) false hd_17_0 prog_4_method_7_code [0, 1, 4, 7, 8, 11, 12, 13, 16, 17, 18, 19, 22, 23, 24, 27, 30, 33, 34, 35, 38, 41, 42, 43, 46, 49, 50, 52, 55, 58, 59, 60, 61, 62, 63, 66, 67, 68, 69, 70, 71, 74, 77, 78, 81, 82, 84, 85, 86, 87, 90, 91, 92, 93, 94, 97, 100, 101, 102, 103, 104, 107, 108, 109, 110, 111, 112, 115, 116, 117, 120, 121, 123, 126, 127, 130, 133, 134, 137, 140, 142, 143, 144, 145, 146, 147, 148, 149, 150, 153, 156, 157, 160, 161, 164, 165, 166, 169] (some 12, none)) = true := by decide +kernel
theorem hc_18_0 : (hWk hw_18_0 && hChk xTf_3 (hCw hvs hrt hw_18_0) false hd_18_0 prog_4_method_15_code [0, 1, 4, 7, 8, 9, 10, 13, 16, 19, 20, 22, 25, 28, 29, 30, 31, 32, 35, 38, 41, 42, 43, 46, 47, 48, 51, 52, 53, 54, 57, 60, 63, 64, 65, 68, 71, 72, 74, 77, 80, 81, 82, 85, 88, 89, 90, 93, 96, 98, 99, 102, 104, 105, 108, 109, 112, 115, 118, 119, 120, 123, 126, 127, 130, 133, 136, 137, 138, 141, 143, 144, 147, 148, 151, 153, 156, 159, 162, 163, 164, 167, 170, 171, 173, 176, 179, 180, 181, 184, 186, 187, 190, 191, 194, 197, 198, 199, 200] (some 12, none)) = true := by decide +kernel
theorem hc_19_0 : (hWk hw_19_0 && hChk xTf_3 (hCw hvs hrt hw_19_0) false hd_19_0 prog_4_method_9_code [0, 1, 4, 5, 6, 7, 10, 13, 14, 15, 18, 21, 22, 24, 27, 30, 31, 32, 35, 38, 39, 42, 43, 44, 45, 46, 47, 49, 52, 55, 58, 59, 62, 65, 66, 69, 70, 71, 72, 73, 74, 76, 79, 82, 85, 86, 89, 90, 91, 92, 93, 94, 97, 100, 103] (some 12, none)) = true := by decide +kernel
theorem hc_20_0 : (hWk hw_20_0 && hChk xTf_3 (hCw hvs hrt hw_20_0) false hd_20_0 prog_4_method_8_code [0, 1, 4, 7, 9, 12, 13, 14, 17, 18, 19, 20, 23, 24, 25, 28, 31, 34, 35, 36, 39, 42, 43, 44, 47, 50, 51, 52, 55, 58, 59, 60, 63, 66, 67, 69, 72, 75, 76, 77, 78, 79, 80, 83, 84, 85, 86, 87, 88, 91, 94, 95, 98, 99, 101, 102, 103, 104, 107, 108, 111, 114, 115, 116, 119, 122, 123, 124, 125, 126, 127, 128, 130, 133, 134, 135, 138, 141, 142, 143, 144, 145, 146, 147, 149, 152, 153, 154, 157, 160, 161, 162, 165, 168, 169, 170, 171, 172, 173, 174, 175, 176, 178, 181, 182, 183, 186, 189, 190, 191, 194, 195, 196, 197, 198, 199, 202, 204, 206, 209, 211, 213, 216, 217, 220, 223, 224, 226, 227, 228, 229, 231, 232, 233, 236, 239, 240, 242, 243, 245, 246, 247, 248, 249, 250, 251, 254, 257, 258, 261, 262, 265, 266, 267, 270] (some 12, none)) = true := by decide +kernel
theorem hc_21_0 : (hWk hw_21_0 && hChk xTf_4 (hCw hvs hrt hw_21_0) false hd_21_0 prog_5_method_6_code [0, 1, 2, 3, 4, 7, 8, 10, 11, 12, 13, 15, 16, 19, 20, 23, 25, 26, 28, 29, 30, 33, 36, 38, 39, 40, 41, 42, 43, 44, 45, 48, 51] (some 52, none)) = true := by decide +kernel
theorem hc_21_1 : (hWk hw_21_1 && hChk xTf_4 (hCw hvs hrt hw_21_1) false hd_21_1 prog_5_method_6_code [0, 1, 2, 3, 4, 7, 8, 10, 11, 12, 13, 15, 16, 19, 20, 23, 25, 26, 28, 29, 30, 33, 36, 38, 39, 40, 41, 42, 43, 44, 45, 48, 51] (some 67, none)) = true := by decide +kernel
theorem hc_22_0 : (hWk hw_22_0 && hChk xTf_4 (hCw hvs hrt hw_22_0) false hd_22_0 prog_5_method_10_code [0, 1, 2, 5, 8, 9, 10, 13, 16, 17, 18, 21, 24, 25, 26, 29, 30, 31, 34] (some 52, none)) = true := by decide +kernel
theorem hc_22_1 : (hWk hw_22_1 && hChk xTf_4 (hCw hvs hrt hw_22_1) false hd_22_1 prog_5_method_10_code [0, 1, 2, 5, 8, 9, 10, 13, 16, 17, 18, 21, 24, 25, 26, 29, 30, 31, 34] (some 67, none)) = true := by decide +kernel
theorem hc_23_0 : (hWk hw_23_0 && hChk xTf_4 (hCw hvs hrt hw_23_0) true hd_23_0 prog_5_method_11_code [0, 2, 3, 4, 7, 8, 9, 10, 13, 16, 19, 20] (none, none)) = true := by decide +kernel
theorem hc_24_0 : (hWk hw_24_0 && hChk xTf_4 (hCw hvs hrt hw_24_0) false hd_24_0 prog_5_method_3_code [0, 1, 3, 4, 5, 6, 7, 8, 10, 11, 13, 14, 16, 18, 19, 22, 25, 28, 29, 32, 34, 36, 37, 38, 39, 40, 43, 44, 47, 48, 50, 51, 52, 55, 58, 61, 62, 65, 66, 68, 69, 70, 73, 75, 77, 79, 80, 82, 84, 86, 89, 90, 93, 95, 96, 97, 98, 100, 103, 104, 107, 109, 110, 113, 115, 116, 117, 118, 119, 120, 123, 125, 126, 129, 131, 132, 133, 134, 135, 138, 141, 142, 145, 147, 149, 150, 151, 154, 156, 158, 159, 162, 165, 168, 169, 172, 173, 175, 176, 177, 178, 180, 181] (some 52, some 28)) = true := by decide +kernel
theorem hc_24_1 : (hWk hw_24_1 && hChk xTf_4 (hCw hvs hrt hw_24_1) false hd_24_1 prog_5_method_3_code [0, 1, 3, 4, 5, 6, 7, 8, 10, 11, 13, 14, 16, 18, 19, 22, 25, 28, 29, 32, 34, 36, 37, 38, 39, 40, 43, 44, 47, 48, 50, 51, 52, 55, 58, 61, 62, 65, 66, 68, 69, 70, 73, 75, 77, 79, 80, 82, 84, 86, 89, 90, 93, 95, 96, 97, 98, 100, 103, 104, 107, 109, 110, 113, 115, 116, 117, 118, 119, 120, 123, 125, 126, 129, 131, 132, 133, 134, 135, 138, 141, 142, 145, 147, 149, 150, 151, 154, 156, 158, 159, 162, 165, 168, 169, 172, 173, 175, 176, 177, 178, 180, 181] (some 52, some 34)) = true := by decide +kernel
theorem hc_24_2 : (hWk hw_24_2 && hChk xTf_4 (hCw hvs hrt hw_24_2) false hd_24_2 prog_5_method_3_code [0, 1, 3, 4, 5, 6, 7, 8, 10, 11, 13, 14, 16, 18, 19, 22, 25, 28, 29, 32, 34, 36, 37, 38, 39, 40, 43, 44, 47, 48, 50, 51, 52, 55, 58, 61, 62, 65, 66, 68, 69, 70, 73, 75, 77, 79, 80, 82, 84, 86, 89, 90, 93, 95, 96, 97, 98, 100, 103, 104, 107, 109, 110, 113, 115, 116, 117, 118, 119, 120, 123, 125, 126, 129, 131, 132, 133, 134, 135, 138, 141, 142, 145, 147, 149, 150, 151, 154, 156, 158, 159, 162, 165, 168, 169, 172, 173, 175, 176, 177, 178, 180, 181] (some 67, some 60)) = true := by decide +kernel
theorem hc_25_0 : (hWk hw_25_0 && hChk xTf_4 (hCw hvs hrt hw_25_0) true hd_25_0 prog_5_method_5_code [0, 1, 3, 4, 5, 6, 7, 8, 9, 10, 11, 14, 15, 17, 18, 19, 20, 21, 22, 24, 25, 27, 28, 30, 32, 34, 37, 38, 41, 42, 45, 47, 48, 50, 51, 52, 53, 54, 57, 60, 62, 63, 66, 67, 68, 71, 72, 75, 77, 78, 79, 82, 84, 85, 88, 89, 92, 93, 94, 97, 100, 102, 104, 107, 110, 112, 113, 116, 117, 120, 121, 124, 126, 127] (some 52, none)) = true := by decide +kernel
theorem hc_25_1 : (hWk hw_25_1 && hChk xTf_4 (hCw hvs hrt hw_25_1) true hd_25_1 prog_5_method_5_code [0, 1, 3, 4, 5, 6, 7, 8, 9, 10, 11, 14, 15, 17, 18, 19, 20, 21, 22, 24, 25, 27, 28, 30, 32, 34, 37, 38, 41, 42, 45, 47, 48, 50, 51, 52, 53, 54, 57, 60, 62, 63, 66, 67, 68, 71, 72, 75, 77, 78, 79, 82, 84, 85, 88, 89, 92, 93, 94, 97, 100, 102, 104, 107, 110, 112, 113, 116, 117, 120, 121, 124, 126, 127] (some 67, none)) = true := by decide +kernel
theorem hc_26_0 : (hWk hw_26_0 && hChk xTf_4 (hCw hvs hrt hw_26_0) false hd_26_0 prog_5_method_2_code [0, 1, 2, 5, 6, 7, 10, 11, 12, 15, 16, 17, 18, 20, 23, 24, 27, 28, 29, 30, 33, 34, 37, 40, 41, 42, 43, 44, 47, 50, 53, 54, 55, 56, 57, 58, 61, 64, 65, 68, 69, 70, 73, 74, 75, 78, 81, 82, 83, 85, 87, 89, 92, 93, 96, 99, 100, 102, 103, 105, 106, 107, 110, 111, 112, 113, 115, 118, 121, 124, 127, 130] (some 52, some 28)) = true := by decide +kernel
theorem hc_26_1 : (hWk hw_26_1 && hChk xTf_4 (hCw hvs hrt hw_26_1) false hd_26_1 prog_5_method_2_code [0, 1, 2, 5, 6, 7, 10, 11, 12, 15, 16, 17, 18, 20, 23, 24, 27, 28, 29, 30, 33, 34, 37, 40, 41, 42, 43, 44, 47, 50, 53, 54, 55, 56, 57, 58, 61, 64, 65, 68, 69, 70, 73, 74, 75, 78, 81, 82, 83, 85, 87, 89, 92, 93, 96, 99, 100, 102, 103, 105, 106, 107, 110, 111, 112, 113, 115, 118, 121, 124, 127, 130] (some 52, some 34)) = true := by decide +kernel
theorem hc_26_2 : (hWk hw_26_2 && hChk xTf_4 (hCw hvs hrt hw_26_2) false hd_26_2 prog_5_method_2_code [0, 1, 2, 5, 6, 7, 10, 11, 12, 15, 16, 17, 18, 20, 23, 24, 27, 28, 29, 30, 33, 34, 37, 40, 41, 42, 43, 44, 47, 50, 53, 54, 55, 56, 57, 58, 61, 64, 65, 68, 69, 70, 73, 74, 75, 78, 81, 82, 83, 85, 87, 89, 92, 93, 96, 99, 100, 102, 103, 105, 106, 107, 110, 111, 112, 113, 115, 118, 121, 124, 127, 130] (some 67, some 60)) = true := by decide +kernel
theorem hc_27_0 : (hWk hw_27_0 && hChk xTf_4 (hCw hvs hrt hw_27_0) false hd_27_0 prog_5_method_9_code [0, 1, 2, 3, 4, 5, 6, 7, 9, 11, 14, 17, 18, 19, 22, 25, 28, 29, 32, 33, 34, 35, 36, 37, 40, 41, 42, 45, 48, 49, 50, 51, 52, 53, 54, 55, 56, 59, 60, 61, 62, 63, 66, 69, 70, 71, 72, 75, 76, 79, 80, 81, 84, 86, 87, 89, 90, 93, 96, 98, 99, 102, 103, 104, 106, 107, 108, 109, 110, 111, 112, 113, 116, 118, 119, 120, 121, 123, 124, 125, 126, 129, 132] (some 52, none)) = true := by decide +kernel
theorem hc_27_1 : (hWk hw_27_1 && hChk xTf_4 (hCw hvs hrt hw_27_1) false hd_27_1 prog_5_method_9_code [0, 1, 2, 3, 4, 5, 6, 7, 9, 11, 14, 17, 18, 19, 22, 25, 28, 29, 32, 33, 34, 35, 36, 37, 40, 41, 42, 45, 48, 49, 50, 51, 52, 53, 54, 55, 56, 59, 60, 61, 62, 63, 66, 69, 70, 71, 72, 75, 76, 79, 80, 81, 84, 86, 87, 89, 90, 93, 96, 98, 99, 102, 103, 104, 106, 107, 108, 109, 110, 111, 112, 113, 116, 118, 119, 120, 121, 123, 124, 125, 126, 129, 132] (some 67, none)) = true := by decide +kernel
theorem hc_28_0 : (hWk hw_28_0 && hChk xTf_4 (hCw hvs hrt hw_28_0) false hd_28_0 prog_5_method_7_code [0, 1, 2, 3, 4, 7, 10, 13, 16, 17, 20] (some 52, some 28)) = true := by decide +kernel
theorem hc_28_1 : (hWk hw_28_1 && hChk xTf_4 (hCw hvs hrt hw_28_1) false hd_28_1 prog_5_method_7_code [0, 1, 2, 3, 4, 7, 10, 13, 16, 17, 20] (some 52, some 34)) = true := by decide +kernel
theorem hc_28_2 : (hWk hw_28_2 && hChk xTf_4 (hCw hvs hrt hw_28_2) false hd_28_2 prog_5_method_7_code [0, 1, 2, 3, 4, 7, 10, 13, 16, 17, 20] (some 67, some 60)) = true := by decide +kernel
theorem hc_29_0 : (hWk hw_29_0 && hChk xTf_4 (hCw hvs hrt hw_29_0) false hd_29_0 prog_5_method_8_code [0, 1, 2, 3, 4, 7, 10, 13, 16, 17, 18, 19, 21, 24, 25, 28, 29, 31, 32, 33, 34, 35, 36, 39, 42, 43, 46] (some 52, some 28)) = true := by decide +kernel
theorem hc_30_0 : (hWk hw_30_0 && hChk xTf_4 (hCw hvs hrt hw_30_0) true hd_30_0 prog_5_method_4_code [0, 1, 2, 5, 6, 7, 8, 9, 12, 15, 16, 17, 20, 21, 24, 27, 28, 30, 31, 32, 33, 34, 35, 36, 37, 38, 41, 43, 45, 46, 49, 50, 51, 52, 55, 56, 57, 58, 61, 62, 64, 65, 66, 67, 69, 70, 71, 74, 76, 78, 79, 80, 81, 82, 83, 84, 85, 86, 89, 92, 93] (some 52, none)) = true := by decide +kernel
theorem hc_30_1 : (hWk hw_30_1 && hChk xTf_4 (hCw hvs hrt hw_30_1) true hd_30_1 prog_5_method_4_code [0, 1, 2, 5, 6, 7, 8, 9, 12, 15, 16, 17, 20, 21, 24, 27, 28, 30, 31, 32, 33, 34, 35, 36, 37, 38, 41, 43, 45, 46, 49, 50, 51, 52, 55, 56, 57, 58, 61, 62, 64, 65, 66, 67, 69, 70, 71, 74, 76, 78, 79, 80, 81, 82, 83, 84, 85, 86, 89, 92, 93] (some 67, none)) = true := by decide +kernel
theorem hc_31_0 : (hWk hw_31_0 && hChk xTf_5 (hCw hvs hrt hw_31_0) true hd_31_0 prog_6_method_10_code [0, 1, 3, 5, 8, 11, 12, 13, 14, 15, 18, 21, 23, 24, 25, 26, 29, 30, 31, 34, 37, 40, 42] (some 51, some 34)) = true := by decide +kernel
theorem hc_32_0 : (hWk hw_32_0 && hChk xTf_5 (hCw hvs hrt hw_32_0) true hd_32_0 prog_6_method_8_code [0, 1, 3, 6, 7, 10, 11, 12, 13, 14, 17, 18, 19, 20, 23, 24] (none, none)) = true := by decide +kernel
theorem hc_33_0 : (hWk hw_33_0 && hChk xTf_5 (hCw hvs hrt hw_33_0) true hd_33_0 prog_6_method_9_code [0, 1, 2, 3, 5, 6, 9, 10, 11, 12, 13, 15, 16, 17] (none, none)) = true := by decide +kernel
theorem hc_34_0 : (hWk hw_34_0 && hChk xTf_5 (hCw hvs hrt hw_34_0) true hd_34_0 prog_6_method_3_code [0, 1, 2, 3, 4, 5, 6, 9, 12, 15, 16, 19, 20, 23, 24, 25, 26, 27, 28, 29, 30, 33, 34, 35, 38, 39, 40, 43, 46, 47, 48, 51, 54, 55] (some 51, some 28)) = true := by decide +kernel
theorem hc_34_1 : (hWk hw_34_1 && hChk xTf_5 (hCw hvs hrt hw_34_1) true hd_34_1 prog_6_method_3_code [0, 1, 2, 3, 4, 5, 6, 9, 12, 15, 16, 19, 20, 23, 24, 25, 26, 27, 28, 29, 30, 33, 34, 35, 38, 39, 40, 43, 46, 47, 48, 51, 54, 55] (some 51, some 34)) = true := by decide +kernel
theorem hc_34_2 : (hWk hw_34_2 && hChk xTf_5 (hCw hvs hrt hw_34_2) true hd_34_2 prog_6_method_3_code [0, 1, 2, 3, 4, 5, 6, 9, 12, 15, 16, 19, 20, 23, 24, 25, 26, 27, 28, 29, 30, 33, 34, 35, 38, 39, 40, 43, 46, 47, 48, 51, 54, 55] (some 51, some 60)) = true := by decide +kernel
theorem hc_35_0 : (hWk hw_35_0 && hChk xTf_5 (hCw hvs hrt hw_35_0) false hd_35_0 prog_6_method_2_code [0, 1, 3, 5, 6, 9, 10, 11, 14, 15, 16, 17, 20, 21, 22, 25, 26, 27, 30, 33, 36] (some 51, some 28)) = true := by decide +kernel
theorem hc_35_1 : (hWk hw_35_1 && hChk xTf_5 (hCw hvs hrt hw_35_1) false hd_35_1 prog_6_method_2_code [0, 1, 3, 5, 6, 9, 10, 11, 14, 15, 16, 17, 20, 21, 22, 25, 26, 27, 30, 33, 36] (some 51, some 34)) = true := by decide +kernel
theorem hc_36_0 : (hWk hw_36_0 && hChk xTf_5 (hCw hvs hrt hw_36_0) false hd_36_0 prog_6_method_7_code [0, 1, 2, 3, 6, 9, 12, 13, 15, 16, 17, 18, 21, 22, 23, 24, 27, 28, 29, 31, 32, 34, 36, 37, 40, 43, 46, 47, 50, 52, 54, 55, 56, 57, 58, 59, 62, 64, 66, 67, 68, 69, 70, 73, 75, 77, 80, 83, 84, 86, 88, 89, 90, 91, 94, 95] (some 51, some 28)) = true := by decide +kernel
theorem hc_36_1 : (hWk hw_36_1 && hChk xTf_5 (hCw hvs hrt hw_36_1) false hd_36_1 prog_6_method_7_code [0, 1, 2, 3, 6, 9, 12, 13, 15, 16, 17, 18, 21, 22, 23, 24, 27, 28, 29, 31, 32, 34, 36, 37, 40, 43, 46, 47, 50, 52, 54, 55, 56, 57, 58, 59, 62, 64, 66, 67, 68, 69, 70, 73, 75, 77, 80, 83, 84, 86, 88, 89, 90, 91, 94, 95] (some 51, some 34)) = true := by decide +kernel
theorem hc_37_0 : (hWk hw_37_0 && hChk xTf_5 (hCw hvs hrt hw_37_0) true hd_37_0 prog_6_method_6_code [0, 2, 3, 4, 5, 6, 9, 10, 13, 16, 19, 20, 23, 24] (some 51, none)) = true := by decide +kernel
theorem hc_38_0 : (hWk hw_38_0 && hChk xTf_5 (hCw hvs hrt hw_38_0) true hd_38_0 prog_6_method_5_code [0, 1, 3, 4, 5, 6, 8, 9, 12, 14, 15, 18, 19, 20, 21, 24, 26, 27, 28, 31, 33, 34, 35, 38, 39, 40, 41, 44, 45, 46, 48, 49, 52, 54, 57, 59, 62, 63, 64, 67, 69, 70, 71, 74, 77, 80, 81, 82, 83, 86, 88, 89, 90, 91, 93, 96] (some 51, some 28)) = true := by decide +kernel
theorem hc_38_1 : (hWk hw_38_1 && hChk xTf_5 (hCw hvs hrt hw_38_1) true hd_38_1 prog_6_method_5_code [0, 1, 3, 4, 5, 6, 8, 9, 12, 14, 15, 18, 19, 20, 21, 24, 26, 27, 28, 31, 33, 34, 35, 38, 39, 40, 41, 44, 45, 46, 48, 49, 52, 54, 57, 59, 62, 63, 64, 67, 69, 70, 71, 74, 77, 80, 81, 82, 83, 86, 88, 89, 90, 91, 93, 96] (some 51, some 34)) = true := by decide +kernel
theorem hc_38_2 : (hWk hw_38_2 && hChk xTf_5 (hCw hvs hrt hw_38_2) true hd_38_2 prog_6_method_5_code [0, 1, 3, 4, 5, 6, 8, 9, 12, 14, 15, 18, 19, 20, 21, 24, 26, 27, 28, 31, 33, 34, 35, 38, 39, 40, 41, 44, 45, 46, 48, 49, 52, 54, 57, 59, 62, 63, 64, 67, 69, 70, 71, 74, 77, 80, 81, 82, 83, 86, 88, 89, 90, 91, 93, 96] (some 51, some 60)) = true := by decide +kernel
theorem hc_39_0 : (hWk hw_39_0 && hChk xTf_5 (hCw hvs hrt hw_39_0) false hd_39_0 prog_6_method_4_code [0, 1, 2, 5, 6, 7, 10, 11, 14, 15, 16, 19, 20, 23, 24, 27, 28, 29, 30, 31, 34, 37, 40, 41, 42, 43, 45, 48, 49, 50, 51, 52, 55, 56, 59, 62, 65, 68] (some 51, some 28)) = true := by decide +kernel
theorem hc_39_1 : (hWk hw_39_1 && hChk xTf_5 (hCw hvs hrt hw_39_1) false hd_39_1 prog_6_method_4_code [0, 1, 2, 5, 6, 7, 10, 11, 14, 15, 16, 19, 20, 23, 24, 27, 28, 29, 30, 31, 34, 37, 40, 41, 42, 43, 45, 48, 49, 50, 51, 52, 55, 56, 59, 62, 65, 68] (some 51, some 34)) = true := by decide +kernel
theorem hc_39_2 : (hWk hw_39_2 && hChk xTf_5 (hCw hvs hrt hw_39_2) false hd_39_2 prog_6_method_4_code [0, 1, 2, 5, 6, 7, 10, 11, 14, 15, 16, 19, 20, 23, 24, 27, 28, 29, 30, 31, 34, 37, 40, 41, 42, 43, 45, 48, 49, 50, 51, 52, 55, 56, 59, 62, 65, 68] (some 51, some 60)) = true := by decide +kernel
theorem hc_40_0 : (hWk hw_40_0 && hChk xTf_6 (hCw hvs hrt hw_40_0) true hd_40_0 prog_7_method_3_code [0, 1, 3, 4, 6, 8, 9, 12, 13, 15, 16, 18, 20, 21, 24, 26, 29, 30, 33, 35, 37, 38, 39, 42, 44, 45, 46, 47, 48, 51, 53, 54, 57, 58, 61, 62, 63, 66, 68, 69, 72, 73, 76, 77, 79, 82, 85, 87, 89, 92, 93, 95, 96, 99, 100, 101, 103, 106, 109, 111] (some 44, some 28)) = true := by decide +kernel
theorem hc_41_0 : (hWk hw_41_0 && hChk xTf_6 (hCw hvs hrt hw_41_0) true hd_41_0 prog_7_method_4_code [0, 2, 4, 6, 8, 9, 11, 13, 15, 18, 19, 22, 23, 25, 26, 28, 30, 31, 34, 36, 37, 39, 40, 41, 42, 43, 46, 47, 50, 52, 54, 55, 57, 58, 59, 60, 63, 64, 67, 68, 69, 71, 74, 77, 79, 80, 83, 85, 86, 89, 91, 93, 95, 98, 100, 102, 104, 106, 109, 112, 114] (some 44, some 28)) = true := by decide +kernel
theorem hc_42_0 : (hWk hw_42_0 && hChk xTf_6 (hCw hvs hrt hw_42_0) true hd_42_0 prog_7_method_2_code [0, 1, 4, 6, 9, 10, 11, 12, 15, 16, 19, 20, 21, 22, 25, 26, 29, 30, 31, 32, 35, 36, 39, 40, 41, 42, 43, 46, 47, 48, 51, 52, 55, 56, 57] (some 44, none)) = true := by decide +kernel
theorem hc_43_0 : (hWk hw_43_0 && hChk xTf_7 (hCw hvs hrt hw_43_0) false hd_43_0 prog_8_method_4_code [0, 1, 4, 7, 10, 11, 14, 15, 18, 19, 20, 21, 24, 25, 28, 29, 30, 31, 32, 35, 36, 37, 40] (some 13, none)) = true := by decide +kernel
theorem hc_44_0 : (hWk hw_44_0 && hChk xTf_7 (hCw hvs hrt hw_44_0) false hd_44_0 prog_8_method_6_code [0, 1, 2, 5, 8, 9, 10, 13, 16, 17, 18, 21, 24, 25, 26, 29, 32, 33, 34, 37, 40, 41, 42, 45, 48, 49, 52, 53, 54, 57, 58, 60, 63, 64, 67, 68, 69, 72, 73, 75, 78, 79, 82, 83, 84, 87, 88, 90, 93, 94, 97, 98, 99, 102, 103, 105, 108, 109, 112, 113, 114, 117, 118, 120, 123, 124, 127, 128, 129, 132, 133, 135, 138, 139, 142, 143, 144, 147, 148, 149, 152, 153, 156, 157, 158, 161, 162, 165, 168, 169, 172, 173, 174, 177, 178, 181, 184] (some 2, some 13)) = true := by decide +kernel
theorem hc_45_0 : (hWk hw_45_0 && hChk xTf_7 (hCw hvs hrt hw_45_0) false hd_45_0 prog_8_method_3_code [0, 1, 4, 5, 6, 9, 10, 11, 12, 13, 16, 17, 19, 20, 23] (some 13, none)) = true := by decide +kernel
theorem hc_46_0 : (hWk hw_46_0 && hChk xTf_7 (hCw hvs hrt hw_46_0) true hd_46_0 prog_8_method_7_code [0, 1, 2, 3, 4, 5, 7, 10, 11, 14, 15, 17, 18, 19, 20, 21, 24, 25, 26, 27, 28, 29, 30, 33, 36, 37] (some 2, none)) = true := by decide +kernel
theorem hc_47_0 : (hWk hw_47_0 && hChk xTf_7 (hCw hvs hrt hw_47_0) false hd_47_0 prog_8_method_2_code [0, 1, 2, 5, 6, 7, 10, 11, 13, 16, 17, 18, 21, 22, 23, 26, 27, 30, 31, 34, 35, 38, 39, 42, 43, 44, 47, 48, 49, 50, 51, 54, 55, 56, 57, 58, 61, 62, 63, 64, 65, 68, 69, 70, 71, 72, 75] (some 13, none)) = true := by decide +kernel
theorem hc_48_0 : (hWk hw_48_0 && hChk xTf_8 (hCw hvs hrt hw_48_0) false hd_48_0 prog_9_method_2_code [0, 1, 2, 3, 5, 7, 10, 13, 14, 15, 18, 19, 20, 21, 24, 27, 30, 33, 34, 37, 39, 40, 41, 42, 45, 47, 48, 49, 52, 53, 54, 55, 58, 61, 62, 63, 64, 67, 69, 70, 71, 74, 75, 76, 77, 80, 82, 83, 86, 89, 90, 91, 92, 95, 97, 98, 101, 102, 105, 107, 108, 109, 112, 113, 114, 115, 118, 120, 121, 122, 123, 126, 129] (some 23, some 1)) = true := by decide +kernel
theorem hc_49_0 : (hWk hw_49_0 && hChk xTf_9 (hCw hvs hrt hw_49_0) false hd_49_0 prog_10_method_3_code [0, 1, 4, 5, 6, 9, 10, 12, 15, 16, 19, 20, 21, 24, 25, 27, 30, 31, 34, 35, 36, 39, 40, 42, 45, 46, 49, 50, 51, 54, 55, 58, 61, 62, 65, 66, 67, 70, 71, 73, 76, 77, 78, 81, 84, 85, 86, 89, 92, 93, 94, 97, 100, 101, 102, 105, 108, 109, 110, 113, 116] (some 28, none)) = true := by decide +kernel
theorem hc_49_1 : (hWk hw_49_1 && hChk xTf_9 (hCw hvs hrt hw_49_1) false hd_49_1 prog_10_method_3_code [0, 1, 4, 5, 6, 9, 10, 12, 15, 16, 19, 20, 21, 24, 25, 27, 30, 31, 34, 35, 36, 39, 40, 42, 45, 46, 49, 50, 51, 54, 55, 58, 61, 62, 65, 66, 67, 70, 71, 73, 76, 77, 78, 81, 84, 85, 86, 89, 92, 93, 94, 97, 100, 101, 102, 105, 108, 109, 110, 113, 116] (some 34, some 28)) = true := by decide +kernel
theorem hc_49_2 : (hWk hw_49_2 && hChk xTf_9 (hCw hvs hrt hw_49_2) false hd_49_2 prog_10_method_3_code [0, 1, 4, 5, 6, 9, 10, 12, 15, 16, 19, 20, 21, 24, 25, 27, 30, 31, 34, 35, 36, 39, 40, 42, 45, 46, 49, 50, 51, 54, 55, 58, 61, 62, 65, 66, 67, 70, 71, 73, 76, 77, 78, 81, 84, 85, 86, 89, 92, 93, 94, 97, 100, 101, 102, 105, 108, 109, 110, 113, 116] (some 60, some 28)) = true := by decide +kernel
theorem hc_49_3 : (hWk hw_49_3 && hChk xTf_9 (hCw hvs hrt hw_49_3) false hd_49_3 prog_10_method_3_code [0, 1, 4, 5, 6, 9, 10, 12, 15, 16, 19, 20, 21, 24, 25, 27, 30, 31, 34, 35, 36, 39, 40, 42, 45, 46, 49, 50, 51, 54, 55, 58, 61, 62, 65, 66, 67, 70, 71, 73, 76, 77, 78, 81, 84, 85, 86, 89, 92, 93, 94, 97, 100, 101, 102, 105, 108, 109, 110, 113, 116] (none, none)) = true := by decide +kernel
theorem hc_50_0 : (hWk hw_50_0 && hChk xTf_9 (hCw hvs hrt hw_50_0) false hd_50_0 prog_10_method_2_code [0, 1, 4, 5, 6, 9, 10, 12, 15, 16, 19, 20, 23, 24, 27, 28, 31, 32, 35, 36, 39, 40, 41, 44, 45, 46, 49, 50, 51, 54, 55, 56, 59, 60, 61, 64] (some 28, some 2)) = true := by decide +kernel
theorem hc_51_0 : (hWk hw_51_0 && hChk xTf_9 (hCw hvs hrt hw_51_0) true hd_51_0 prog_10_method_4_code [0, 1, 2, 5, 6, 7, 8, 11, 12, 13, 14, 17] (some 28, none)) = true := by decide +kernel
theorem hc_51_1 : (hWk hw_51_1 && hChk xTf_9 (hCw hvs hrt hw_51_1) true hd_51_1 prog_10_method_4_code [0, 1, 2, 5, 6, 7, 8, 11, 12, 13, 14, 17] (some 34, none)) = true := by decide +kernel
theorem hc_51_2 : (hWk hw_51_2 && hChk xTf_9 (hCw hvs hrt hw_51_2) true hd_51_2 prog_10_method_4_code [0, 1, 2, 5, 6, 7, 8, 11, 12, 13, 14, 17] (some 60, none)) = true := by decide +kernel
theorem hc_52_0 : (hWk hw_52_0 && hChk xTf_9 (hCw hvs hrt hw_52_0) false hd_52_0 prog_10_method_8_code [0, 1, 3, 5, 6, 9, 10, 11, 14, 15, 17, 18, 20, 21, 23, 24, 27, 29, 30, 32, 33, 34, 35, 38, 39, 41, 42, 44, 45, 46, 49, 51, 52, 53, 54, 55, 56, 57, 58, 61, 64, 65, 66, 69, 70, 71, 72, 73, 76] (some 28, some 2)) = true := by decide +kernel
theorem hc_52_1 : (hWk hw_52_1 && hChk xTf_9 (hCw hvs hrt hw_52_1) false hd_52_1 prog_10_method_8_code [0, 1, 3, 5, 6, 9, 10, 11, 14, 15, 17, 18, 20, 21, 23, 24, 27, 29, 30, 32, 33, 34, 35, 38, 39, 41, 42, 44, 45, 46, 49, 51, 52, 53, 54, 55, 56, 57, 58, 61, 64, 65, 66, 69, 70, 71, 72, 73, 76] (some 60, some 2)) = true := by decide +kernel
theorem hc_53_0 : (hWk hw_53_0 && hChk xTf_9 (hCw hvs hrt hw_53_0) true hd_53_0 prog_10_method_5_code [0, 1, 2, 3, 5, 7, 8, 11, 12, 13, 16, 17, 18, 19, 21, 22, 24, 25, 26, 27, 28, 29, 30, 33, 36, 37] (some 28, none)) = true := by decide +kernel
theorem hc_53_1 : (hWk hw_53_1 && hChk xTf_9 (hCw hvs hrt hw_53_1) true hd_53_1 prog_10_method_5_code [0, 1, 2, 3, 5, 7, 8, 11, 12, 13, 16, 17, 18, 19, 21, 22, 24, 25, 26, 27, 28, 29, 30, 33, 36, 37] (some 34, none)) = true := by decide +kernel
theorem hc_53_2 : (hWk hw_53_2 && hChk xTf_9 (hCw hvs hrt hw_53_2) true hd_53_2 prog_10_method_5_code [0, 1, 2, 3, 5, 7, 8, 11, 12, 13, 16, 17, 18, 19, 21, 22, 24, 25, 26, 27, 28, 29, 30, 33, 36, 37] (some 60, none)) = true := by decide +kernel
theorem hc_54_0 : (hWk hw_54_0 && hChk xTf_9 (hCw hvs hrt hw_54_0) true hd_54_0 prog_10_method_6_code [0, 1, 2, 3, 5, 7, 8, 11, 12, 13, 16, 18, 19, 20, 21, 22, 24, 25, 26, 27, 28, 29, 30, 33, 36, 37] (some 28, none)) = true := by decide +kernel
theorem hc_55_0 : (hWk hw_55_0 && hChk xTf_9 (hCw hvs hrt hw_55_0) false hd_55_0 prog_10_method_9_code [0, 1, 2, 3, 4, 7, 8, 9, 12, 13, 15, 16, 17, 18, 20, 21, 24, 25, 28, 30, 31, 33, 34, 35, 38, 40, 41, 42, 43, 44, 45, 46, 47, 50, 53, 54, 55, 58, 59, 60, 61, 62, 63, 64, 67] (some 28, some 2)) = true := by decide +kernel
theorem hc_55_1 : (hWk hw_55_1 && hChk xTf_9 (hCw hvs hrt hw_55_1) false hd_55_1 prog_10_method_9_code [0, 1, 2, 3, 4, 7, 8, 9, 12, 13, 15, 16, 17, 18, 20, 21, 24, 25, 28, 30, 31, 33, 34, 35, 38, 40, 41, 42, 43, 44, 45, 46, 47, 50, 53, 54, 55, 58, 59, 60, 61, 62, 63, 64, 67] (some 60, some 2)) = true := by decide +kernel
theorem hc_56_0 : (hWk hw_56_0 && hChk xTf_9 (hCw hvs hrt hw_56_0) true hd_56_0 prog_10_method_11_code [0, 1, 4, 5, 6, 9, 10, 11, 12, 15, 16, 17, 18, 19, 20, 21, 22, 23, 26, 27, 28, 31, 32] (some 28, none)) = true := by decide +kernel
theorem hc_56_1 : (hWk hw_56_1 && hChk xTf_9 (hCw hvs hrt hw_56_1) true hd_56_1 prog_10_method_11_code [0, 1, 4, 5, 6, 9, 10, 11, 12, 15, 16, 17, 18, 19, 20, 21, 22, 23, 26, 27, 28, 31, 32] (some 34, none)) = true := by decide +kernel
theorem hc_56_2 : (hWk hw_56_2 && hChk xTf_9 (hCw hvs hrt hw_56_2) true hd_56_2 prog_10_method_11_code [0, 1, 4, 5, 6, 9, 10, 11, 12, 15, 16, 17, 18, 19, 20, 21, 22, 23, 26, 27, 28, 31, 32] (some 60, none)) = true := by decide +kernel
theorem hc_57_0 : (hWk hw_57_0 && hChk xTf_9 (hCw hvs hrt hw_57_0) false hd_57_0 prog_10_method_10_code [0, 1, 4, 5, 7, 8, 9, 10, 11, 12, 13, 14, 15, 16, 19, 20, 22, 23, 24, 25, 26, 27, 28, 29, 30] (some 28, none)) = true := by decide +kernel
theorem hc_58_0 : (hWk hw_58_0 && hChk xTf_9 (hCw hvs hrt hw_58_0) true hd_58_0 prog_10_method_7_code [0, 1, 2, 3, 4, 5, 6, 9, 10, 13, 14, 15, 16, 17] (some 28, none)) = true := by decide +kernel
theorem hc_58_1 : (hWk hw_58_1 && hChk xTf_9 (hCw hvs hrt hw_58_1) true hd_58_1 prog_10_method_7_code [0, 1, 2, 3, 4, 5, 6, 9, 10, 13, 14, 15, 16, 17] (some 34, none)) = true := by decide +kernel
theorem hc_58_2 : (hWk hw_58_2 && hChk xTf_9 (hCw hvs hrt hw_58_2) true hd_58_2 prog_10_method_7_code [0, 1, 2, 3, 4, 5, 6, 9, 10, 13, 14, 15, 16, 17] (some 60, none)) = true := by decide +kernel
theorem hc_59_0 : (hWk hw_59_0 && hChk xTf_10 (hCw hvs hrt hw_59_0) true hd_59_0 prog_11_method_3_code [0, 1, 3, 4, 6, 8, 9, 12, 15, 18, 20, 22, 23, 26, 27, 30, 31, 33, 35, 36, 37, 38, 41, 42, 44, 47, 50, 52] (some 74, some 28)) = true := by decide +kernel
theorem hc_60_0 : (hWk hw_60_0 && hChk xTf_10 (hCw hvs hrt hw_60_0) true hd_60_0 prog_11_method_6_code [0, 1, 2, 3, 4, 6, 9, 10, 11, 12, 13, 14, 17, 20, 21, 24, 25] (some 74, some 28)) = true := by decide +kernel
theorem hc_61_0 : (hWk hw_61_0 && hChk xTf_10 (hCw hvs hrt hw_61_0) true hd_61_0 prog_11_method_2_code [0, 1, 3, 4, 6, 8, 10, 13, 14, 17, 20, 21, 23, 24, 26, 27, 28, 30, 31, 33, 34, 36, 37, 39, 41, 42, 45, 47, 48, 49, 52, 54, 55, 56, 57, 59, 61, 64, 66, 69, 72, 73, 74, 75, 77, 80, 82, 85, 87, 88, 90, 92, 93, 95, 98, 101, 103] (some 74, some 28)) = true := by decide +kernel
theorem hc_62_0 : (hWk hw_62_0 && hChk xTf_10 (hCw hvs hrt hw_62_0) false hd_62_0 prog_11_method_4_code [0, 1, 2, 5, 6, 8, 11, 12, 13, 14, 15, 18, 21, 24, 25, 26, 27, 28, 29, 30, 33, 36, 39, 40, 41, 42, 43, 46, 49, 52, 55, 58] (some 74, some 28)) = true := by decide +kernel
theorem hc_63_0 : (hWk hw_63_0 && hChk xTf_10 (hCw hvs hrt hw_63_0) false hd_63_0 prog_11_method_5_code [0, 1, 3, 5, 7, 10, 11, 13, 15, 17, 20, 22, 24, 27, 28, 29, 31, 32, 34, 35, 38, 41, 42, 43, 45, 46, 48, 49, 52, 55, 56, 57, 58, 60, 62, 65, 68, 69, 70, 71, 73, 75, 78, 81, 82, 83, 86, 89, 92, 93, 94, 96, 97, 98, 99, 101, 103, 104, 105, 107, 108, 111, 112, 115, 118, 119, 120, 123, 124, 125, 128, 131, 134, 137, 140] (some 74, some 28)) = true := by decide +kernel
theorem hc_64_0 : (hWk hw_64_0 && hChk xTf_10 (hCw hvs hrt hw_64_0) true hd_64_0 prog_11_method_7_code [0, 1, 2, 5, 8, 11, 13, 14, 16, 17, 19, 21, 22, 25, 28, 31, 33, 35, 36, 37, 38, 39, 42, 43, 46, 47, 49, 50, 52, 54, 56, 59, 61, 64, 65, 67, 68, 70, 71, 73, 74, 77, 79, 80, 81, 84, 86, 87, 88, 90, 92, 95, 96, 99, 100, 101, 103, 104, 107, 108, 111, 112, 113, 115, 116, 119, 122, 124, 126, 127, 129, 130, 131, 132, 134, 137, 140, 141, 144, 145, 147, 150, 153, 155, 157, 160, 161, 164, 165, 166, 168, 171, 174, 176] (some 74, some 28)) = true := by decide +kernel
theorem hc_65_0 : (hWk hw_65_0 && hChk xTf_11 (hCw hvs hrt hw_65_0) false hd_65_0 prog_12_method_5_code [0, 1, 2, 3, 4, 7, 10, 13, 14, 15, 16, 17, 18, 19, 22, 23, 26, 27, 28, 31, 34, 35, 36, 39, 42, 45] (some 59, none)) = true := by decide +kernel
theorem hc_66_0 : (hWk hw_66_0 && hChk xTf_11 (hCw hvs hrt hw_66_0) false hd_66_0 prog_12_method_6_code [0, 1, 4, 5, 8, 9, 10, 11, 12, 15, 18, 21, 22, 23, 24, 25, 26, 27, 30, 31, 34, 35, 38, 39, 40, 43, 46, 49, 52, 55, 56, 59, 60, 63, 66, 67, 70, 71, 74, 75, 76, 79, 80, 81, 82, 83, 86, 89, 92, 93, 94, 95, 96, 97, 98, 101, 102, 105, 106, 109, 110, 113, 116, 119] (some 59, some 28)) = true := by decide +kernel
theorem hc_67_0 : (hWk hw_67_0 && hChk xTf_11 (hCw hvs hrt hw_67_0) false hd_67_0 prog_12_method_2_code [0, 1, 2, 5, 8, 11, 12, 13, 16, 17, 18, 21, 22, 23, 24, 25, 28, 31, 34, 35, 38, 39, 40, 43, 44, 45, 48, 49, 50, 53, 54, 57, 60, 61, 64, 65, 68, 69, 70, 71, 74, 75, 76, 79, 80, 82, 84, 85, 86, 89, 92, 93, 96, 98, 99, 100, 101, 102, 105, 108, 109, 110, 111, 114, 117, 119, 122, 123, 125, 127, 128, 129, 132, 133, 135, 136, 137, 138, 141, 142, 143, 146, 149, 150, 152, 155, 158, 161, 162, 163, 165, 168, 169, 171, 174, 175, 178, 179, 182, 185, 187, 188, 191, 194, 195, 196, 199, 202, 203, 205, 206, 209, 212, 213, 216, 217, 219, 222, 225, 228] (some 59, some 28)) = true := by decide +kernel
theorem hc_68_0 : (hWk hw_68_0 && hChk xTf_11 (hCw hvs hrt hw_68_0) true hd_68_0 prog_12_method_4_code [0, 1, 2, 3, 4, 7, 10, 13, 14, 15, 16, 17, 18, 19, 22, 23, 26, 27, 30, 33, 34, 35, 36, 37, 38, 39, 40, 41, 44, 45, 46, 49, 52, 53] (some 59, none)) = true := by decide +kernel
theorem hc_69_0 : (hWk hw_69_0 && hChk xTf_11 (hCw hvs hrt hw_69_0) true hd_69_0 prog_12_method_3_code [0, 1, 2, 3, 5, 7, 8, 11, 14, 17, 18, 19, 21, 22, 23, 24, 25, 28, 29, 31, 32, 35, 36, 37, 38, 41, 44, 45] (some 59, some 2003)) = true := by decide +kernel
theorem hc_69_1 : (hWk hw_69_1 && hChk xTf_11 (hCw hvs hrt hw_69_1) true hd_69_1 prog_12_method_3_code [0, 1, 2, 3, 5, 7, 8, 11, 14, 17, 18, 19, 21, 22, 23, 24, 25, 28, 29, 31, 32, 35, 36, 37, 38, 41, 44, 45] (some 59, some 66)) = true := by decide +kernel
theorem hc_70_0 : (hWk hw_70_0 && hChk xTf_0 (hCw hvs hrt hw_70_0) false hd_70_0 prog_1_method_3_code [0, 2, 3, 4, 7, 8, 11, 14, 17, 18, 21, 22, 25, 26, 27, 28, 29, 30, 31, 32, 35, 36, 37, 40, 43, 46] (some 0, none)) = true := by decide +kernel
theorem hc_71_0 : (hWk hw_71_0 && hChk xTf_0 (hCw hvs hrt hw_71_0) true hd_71_0 prog_1_method_41_code [0, 1, 4, 5, 6, 9, 12, 15, 16, 19, 20, 23, 26, 27, 28, 29, 32, 33, 36, 37, 40, 41, 44, 45, 48, 51, 52, 55, 56, 59] (some 0, none)) = true := by decide +kernel
theorem hc_72_0 : (hWk hw_72_0 && hChk xTf_0 (hCw hvs hrt hw_72_0) true hd_72_0 prog_1_method_4_code [0, 1, 4, 5, 6, 9, 12, 13, 14, 15, 16, 19, 20, 21, 24, 25, 28] (some 0, none)) = true := by decide +kernel
theorem hc_73_0 : (hWk hw_73_0 && hChk xTf_0 (hCw hvs hrt hw_73_0) true hd_73_0 prog_1_method_30_code [0, 1, 4, 5, 6, 9, 10, 11, 12, 15, 16, 19, 22, 23, 26, 27, 30, 33, 36, 37, 40, 43] (some 0, none)) = true := by decide +kernel
theorem hc_74_0 : (hWk hw_74_0 && hChk xTf_0 (hCw hvs hrt hw_74_0) false hd_74_0 prog_1_method_6_code [0, 1, 4, 5, 8, 11, 12, 15, 16, 19, 20, 23, 24, 27, 28, 29, 30, 31, 34, 35, 38, 39, 40, 41, 44, 47] (some 0, none)) = true := by decide +kernel
theorem hc_75_0 : (hWk hw_75_0 && hChk xTf_0 (hCw hvs hrt hw_75_0) true hd_75_0 prog_1_method_25_code [0, 1, 4, 5, 6, 9, 10, 11, 12, 15, 16, 19, 22, 23, 26, 27, 30, 33, 36, 37, 40, 43] (some 0, none)) = true := by decide +kernel
theorem hc_76_0 : (hWk hw_76_0 && hChk xTf_0 (hCw hvs hrt hw_76_0) true hd_76_0 prog_1_method_32_code [0, 1, 2, 5, 8, 9, 10, 11, 12, 15, 18, 19, 20, 23, 26, 27, 30, 33, 36, 38] (some 0, none)) = true := by decide +kernel
theorem hc_77_0 : (hWk hw_77_0 && hChk xTf_0 (hCw hvs hrt hw_77_0) true hd_77_0 prog_1_method_19_code [0, 1, 2, 5, 8, 9, 12, 15, 16, 17, 18, 19, 22, 23, 24, 25, 28, 29, 32, 35, 36, 39, 40, 43, 44, 47, 48] (some 0, none)) = true := by decide +kernel
theorem hc_78_0 : (hWk hw_78_0 && hChk xTf_0 (hCw hvs hrt hw_78_0) true hd_78_0 prog_1_method_18_code [0, 1, 4, 5, 8, 9, 10, 11, 14, 15, 18, 19, 22] (some 0, none)) = true := by decide +kernel
theorem hc_79_0 : (hWk hw_79_0 && hChk xTf_0 (hCw hvs hrt hw_79_0) true hd_79_0 prog_1_method_44_code [0, 1, 80, 81, 84, 87, 88, 89, 92, 95, 96, 97, 100, 103, 104, 105, 108, 111, 112, 113, 116, 119, 120, 121, 124, 127, 128, 129, 132, 135, 138, 139, 140, 143, 146, 149, 150, 151, 154, 157, 158, 159, 162, 163, 164, 167, 170, 171, 172, 175, 178, 179, 180, 183, 184, 185, 188, 189, 192, 195, 196, 199, 202, 205, 208, 209, 212, 213, 214, 215, 218, 219, 220, 223, 226, 229, 230, 231] (some 0, none)) = true := by decide +kernel
theorem hc_80_0 : (hWk hw_80_0 && hChk xTf_0 (hCw hvs hrt hw_80_0) true hd_80_0 prog_1_method_22_code [0, 1, 4, 5, 7, 10, 11, 12, 13, 16, 17, 20, 21, 24, 27, 28, 31, 32, 35, 36, 37, 40, 43, 46, 47, 50, 53] (some 0, none)) = true := by decide +kernel
theorem hc_81_0 : (hWk hw_81_0 && hChk xTf_0 (hCw hvs hrt hw_81_0) true hd_81_0 prog_1_method_2_code [0, 1, 4, 6, 7, 10, 13, 14, 15, 16, 17, 20, 21, 22, 25, 26, 27, 30, 31, 33, 36, 37, 39, 42, 43, 46] (some 0, none)) = true := by decide +kernel
theorem hc_82_0 : (hWk hw_82_0 && hChk xTf_0 (hCw hvs hrt hw_82_0) true hd_82_0 prog_1_method_39_code [0, 1, 4, 7, 8, 9, 12, 13, 16, 17] (some 0, none)) = true := by decide +kernel
theorem hc_83_0 : (hWk hw_83_0 && hChk xTf_0 (hCw hvs hrt hw_83_0) true hd_83_0 prog_1_method_24_code [0, 1, 2, 3, 6, 7, 10, 11, 12, 13, 14, 17, 44, 45, 46, 49, 52, 53, 56, 59, 60, 62, 63, 64, 65, 66, 69, 71, 72, 74, 75, 76, 79, 82, 83, 85, 86, 87, 88, 89] (some 0, none)) = true := by decide +kernel
theorem hc_84_0 : (hWk hw_84_0 && hChk xTf_0 (hCw hvs hrt hw_84_0) true hd_84_0 prog_1_method_21_code [0, 1, 2, 3, 6, 9, 10, 11, 12, 15, 18, 19, 20, 23, 24, 25, 26, 27, 28, 29, 30, 32, 33, 34, 35, 37, 38, 41, 44, 46, 47, 50, 51, 54, 55, 57, 58, 59, 60, 63, 66, 67, 68, 69, 72, 73, 76, 79, 80, 83, 84, 85, 86, 89, 90, 93, 96, 98, 99, 100, 101, 102, 103, 104] (some 0, none)) = true := by decide +kernel
theorem hc_85_0 : (hWk hw_85_0 && hChk xTf_0 (hCw hvs hrt hw_85_0) true hd_85_0 prog_1_method_46_code [0, 1, 2, 3, 4, 5, 6, 9, 10, 13, 14, 15, 18, 21, 24, 27, 28] (some 0, none)) = true := by decide +kernel
theorem hc_86_0 : (hWk hw_86_0 && hChk xTf_0 (hCw hvs hrt hw_86_0) true hd_86_0 prog_1_method_42_code [0, 1, 4, 5, 6, 9, 10, 11, 12, 15, 16, 17, 20, 21, 24, 25, 32, 33, 34, 37, 38, 39, 40, 43, 46, 47, 50, 51, 52, 53, 54] (some 0, none)) = true := by decide +kernel
theorem hc_87_0 : (hWk hw_87_0 && hChk xTf_0 (hCw hvs hrt hw_87_0) true hd_87_0 prog_1_method_12_code [0, 1, 2, 3, 6, 9, 10, 11, 12, 14, 15, 16, 17, 19, 20, 64, 65, 68, 71, 73, 74, 75, 76, 79, 82, 84, 85, 86, 87, 90, 92, 95, 96, 97, 100, 103, 105, 106, 107, 108, 111, 112, 113, 116, 117, 118, 121, 122, 123, 126, 127, 128, 131, 132, 135, 136, 137, 140, 141, 142] (some 0, none)) = true := by decide +kernel
theorem hc_88_0 : (hWk hw_88_0 && hChk xTf_0 (hCw hvs hrt hw_88_0) true hd_88_0 prog_1_method_9_code [0, 1, 2, 5, 8, 9, 12, 13, 15, 18, 19, 22, 23] (some 0, none)) = true := by decide +kernel
theorem hc_89_0 : (hWk hw_89_0 && hChk xTf_0 (hCw hvs hrt hw_89_0) true hd_89_0 prog_1_method_8_code [0, 1, 4, 5, 6, 9, 12, 15, 16, 19, 20] (some 0, none)) = true := by decide +kernel
theorem hc_90_0 : (hWk hw_90_0 && hChk xTf_0 (hCw hvs hrt hw_90_0) true hd_90_0 prog_1_method_11_code [0, 1, 4, 5, 8, 11, 14, 15, 16, 17, 18, 19, 22, 23, 26, 27] (some 0, none)) = true := by decide +kernel
theorem hc_91_0 : (hWk hw_91_0 && hChk xTf_0 (hCw hvs hrt hw_91_0) true hd_91_0 prog_1_method_10_code [0, 1, 4, 5, 6, 9, 12, 15, 16, 19, 20] (some 0, none)) = true := by decide +kernel
theorem hc_92_0 : (hWk hw_92_0 && hChk xTf_0 (hCw hvs hrt hw_92_0) true hd_92_0 prog_1_method_33_code [0, 1, 4, 5, 8, 11, 14, 15, 16, 17, 18, 19, 22, 25, 28, 29, 32, 35, 36, 37, 38, 41, 44, 47, 48, 49, 50, 51, 52, 53, 54, 55, 58, 61, 62] (some 0, none)) = true := by decide +kernel
theorem hc_93_0 : (hWk hw_93_0 && hChk xTf_0 (hCw hvs hrt hw_93_0) true hd_93_0 prog_1_method_20_code [0, 1, 2, 3, 6, 9, 10, 11, 12, 15, 18, 19, 20, 23, 24, 27, 28, 30, 31, 32, 33, 36, 39, 40, 41, 42, 45, 46, 49, 52, 53, 56, 57, 58, 59, 62, 63, 66, 69, 70, 71, 72, 73, 74, 76, 77, 78, 79, 80, 81, 82, 83, 84, 85] (some 0, none)) = true := by decide +kernel
theorem hc_94_0 : (hWk hw_94_0 && hChk xTf_0 (hCw hvs hrt hw_94_0) true hd_94_0 prog_1_method_29_code [0, 1, 2, 5, 8, 9, 10, 13, 16, 17, 18, 19, 22, 23, 26, 27, 28, 31] (some 0, none)) = true := by decide +kernel
theorem hc_95_0 : (hWk hw_95_0 && hChk xTf_0 (hCw hvs hrt hw_95_0) true hd_95_0 prog_1_method_36_code [0, 1, 4, 5, 7, 10, 11, 12, 13, 16, 17, 20, 23, 24, 27, 28, 31, 32, 33, 36, 39, 42, 43, 46, 49, 50, 53, 56, 57] (some 0, none)) = true := by decide +kernel
theorem hc_96_0 : (hWk hw_96_0 && hChk xTf_0 (hCw hvs hrt hw_96_0) true hd_96_0 prog_1_method_27_code [0, 1, 4, 5, 6, 9, 10, 11, 13, 14, 16, 17, 18, 20, 22, 23, 26, 29, 32, 33, 36, 37, 40, 42, 45, 47, 50, 51, 54, 57, 58, 61, 63, 64, 65, 68, 71, 72, 75, 78, 79, 82, 83, 86, 87] (some 0, none)) = true := by decide +kernel
theorem hc_97_0 : (hWk hw_97_0 && hChk xTf_0 (hCw hvs hrt hw_97_0) true hd_97_0 prog_1_method_7_code [0, 1, 4] (some 0, none)) = true := by decide +kernel
theorem hc_98_0 : (hWk hw_98_0 && hChk xTf_0 (hCw hvs hrt hw_98_0) true hd_98_0 prog_1_method_5_code [0, 1, 4, 5, 8, 11, 12, 13, 14, 17, 18, 19, 22, 23, 26, 27, 30, 33, 36, 37, 40, 41, 44, 45, 48, 51, 54, 55, 58, 59] (some 0, none)) = true := by decide +kernel
theorem hc_99_0 : (hWk hw_99_0 && hChk xTf_0 (hCw hvs hrt hw_99_0) true hd_99_0 prog_1_method_43_code [0, 1, 4, 5, 6, 9, 10, 13, 14, 15, 18, 19, 22, 23, 24, 27, 28, 29, 30, 33, 34, 37, 38, 39, 42, 43, 46, 47, 50, 51] (some 0, none)) = true := by decide +kernel
theorem hc_100_0 : (hWk hw_100_0 && hChk xTf_0 (hCw hvs hrt hw_100_0) true hd_100_0 prog_1_method_17_code [0, 1, 2, 5, 8, 9, 10, 13, 16, 17, 18, 21, 24, 25, 26, 27, 30, 31, 34, 37, 38, 41, 42, 45, 46, 47, 50, 53, 56, 57] (some 0, none)) = true := by decide +kernel
theorem hc_101_0 : (hWk hw_101_0 && hChk xTf_0 (hCw hvs hrt hw_101_0) true hd_101_0 prog_1_method_47_code [0, 1, 2, 3, 4, 5, 6, 9, 12, 15, 16, 17, 20, 23, 24, 25, 28, 31, 32, 33, 34, 35, 36, 37, 40, 43, 44] (some 0, none)) = true := by decide +kernel
theorem hc_102_0 : (hWk hw_102_0 && hChk xTf_0 (hCw hvs hrt hw_102_0) true hd_102_0 prog_1_method_14_code [0, 1, 4, 7, 8, 9, 10, 11, 12, 15, 16, 19, 20, 21, 22, 25, 28, 29, 30, 31, 32, 33, 36, 37, 40, 41, 42, 43, 46, 47, 50, 51, 54, 55, 56, 57, 60, 61, 64, 65] (some 0, none)) = true := by decide +kernel
theorem hc_103_0 : (hWk hw_103_0 && hChk xTf_0 (hCw hvs hrt hw_103_0) true hd_103_0 prog_1_method_31_code [0, 1, 4, 5, 8, 11, 12, 13, 14, 17, 18, 21, 24, 27, 28, 29, 30, 31, 32, 35, 38, 41, 42, 45, 46, 49, 50, 51, 54, 55, 56, 57, 58, 59, 60, 61, 62, 65, 68, 69] (some 0, none)) = true := by decide +kernel
theorem hc_104_0 : (hWk hw_104_0 && hChk xTf_0 (hCw hvs hrt hw_104_0) true hd_104_0 prog_1_method_45_code [0, 1, 2, 3, 4, 5, 6, 7, 8, 10, 12, 13, 16, 17, 19, 20, 22, 23, 25, 26, 27, 30, 33, 34] (some 29, none)) = true := by decide +kernel
theorem hc_104_1 : (hWk hw_104_1 && hChk xTf_0 (hCw hvs hrt hw_104_1) true hd_104_1 prog_1_method_45_code [0, 1, 2, 3, 4, 5, 6, 7, 8, 10, 12, 13, 16, 17, 19, 20, 22, 23, 25, 26, 27, 30, 33, 34] (some 30, none)) = true := by decide +kernel
theorem hc_104_2 : (hWk hw_104_2 && hChk xTf_0 (hCw hvs hrt hw_104_2) true hd_104_2 prog_1_method_45_code [0, 1, 2, 3, 4, 5, 6, 7, 8, 10, 12, 13, 16, 17, 19, 20, 22, 23, 25, 26, 27, 30, 33, 34] (some 32, none)) = true := by decide +kernel
theorem hc_105_0 : (hWk hw_105_0 && hChk xTf_0 (hCw hvs hrt hw_105_0) true hd_105_0 prog_1_method_38_code [0, 1, 4, 5, 7, 10, 11, 14, 15, 18, 21, 22, 23, 24, 27, 28, 29, 30, 33] (some 0, none)) = true := by decide +kernel
theorem hc_106_0 : (hWk hw_106_0 && hChk xTf_0 (hCw hvs hrt hw_106_0) true hd_106_0 prog_1_method_16_code [0, 1, 2, 3, 6, 9, 10, 11, 14, 17, 19, 20, 22, 48, 49, 52, 53, 56, 57, 58, 59, 62, 65, 66, 69, 70, 71, 72, 75, 76, 79, 80, 81, 82, 85, 86, 88] (some 0, none)) = true := by decide +kernel
theorem hc_107_0 : (hWk hw_107_0 && hChk xTf_0 (hCw hvs hrt hw_107_0) true hd_107_0 prog_1_method_35_code [0, 1, 2, 3, 6, 9, 10, 13, 14, 16, 19, 21, 24, 26, 27, 30, 31, 32, 33, 36, 37, 40, 43, 44, 47, 48, 51, 52, 53, 56, 59, 62, 63, 65, 66, 67, 68, 70, 72, 75, 76, 79, 82, 84, 85, 88, 89, 92, 95, 97, 98] (some 0, none)) = true := by decide +kernel
theorem hc_108_0 : (hWk hw_108_0 && hChk xTf_0 (hCw hvs hrt hw_108_0) true hd_108_0 prog_1_method_28_code [0, 1, 4, 5, 6, 9, 10, 11, 12, 15, 16, 19, 22, 23, 26, 27, 30, 33, 36, 37, 40, 43] (some 0, none)) = true := by decide +kernel
theorem hc_109_0 : (hWk hw_109_0 && hChk xTf_0 (hCw hvs hrt hw_109_0) true hd_109_0 prog_1_method_23_code [0, 1, 4, 5, 8, 11] (some 0, none)) = true := by decide +kernel
theorem hc_110_0 : (hWk hw_110_0 && hChk xTf_0 (hCw hvs hrt hw_110_0) true hd_110_0 prog_1_method_13_code [0, 1, 2, 5, 8, 9, 10, 11, 44, 45, 48, 51, 52, 53, 54, 55, 58, 61, 62, 63, 64, 65, 68, 71, 72, 73, 74, 75, 76, 79, 80, 81, 84, 85, 86, 89, 92, 95, 96, 97] (some 0, none)) = true := by decide +kernel
theorem hc_111_0 : (hWk hw_111_0 && hChk xTf_0 (hCw hvs hrt hw_111_0) true hd_111_0 prog_1_method_15_code [0, 1, 2, 5, 8, 9, 12, 13, 14, 17, 20, 21, 22, 25, 26, 27, 28, 31, 34, 35, 37, 38, 39, 40, 41] (some 0, none)) = true := by decide +kernel
theorem hc_112_0 : (hWk hw_112_0 && hChk xTf_0 (hCw hvs hrt hw_112_0) true hd_112_0 prog_1_method_40_code [0, 1, 4, 5, 6, 9, 12, 15, 16, 19, 20, 21, 24, 25, 26, 27, 30, 31, 34, 35, 38, 41, 42, 45, 46, 47, 50, 51, 54, 57, 58] (some 0, none)) = true := by decide +kernel
theorem hc_113_0 : (hWk hw_113_0 && hChk xTf_0 (hCw hvs hrt hw_113_0) true hd_113_0 prog_1_method_34_code [0, 1, 2, 3, 6, 9, 10, 11, 12, 15, 16, 19, 22, 23, 26, 27, 30, 31, 32, 35] (some 0, none)) = true := by decide +kernel
theorem hc_114_0 : (hWk hw_114_0 && hChk xTf_0 (hCw hvs hrt hw_114_0) true hd_114_0 prog_1_method_26_code [0, 1, 2, 3, 6, 9, 10, 11, 12, 15, 16, 19, 22, 23, 26, 29, 30, 32, 33, 34, 35, 36, 37, 38, 39, 40, 41, 44, 45, 48, 51, 52, 55, 58, 59, 60, 63, 64, 67, 70, 71, 72, 75, 78, 79] (some 0, none)) = true := by decide +kernel
theorem hc_115_0 : (hWk hw_115_0 && hChk xTf_0 (hCw hvs hrt hw_115_0) true hd_115_0 prog_1_method_37_code [0, 1, 2, 3, 6, 9, 10, 13, 14, 16, 19, 21, 22, 25, 27, 29, 32, 33, 34, 35, 37, 38, 40, 42, 44, 47, 48, 51, 52, 55, 58, 59, 62, 63, 66, 67, 68, 71, 74, 76, 77, 80, 81, 84, 87, 88, 90, 91, 92, 93, 94, 97, 100, 103, 106, 108] (some 0, none)) = true := by decide +kernel
theorem hc_116_0 : (hWk hw_116_0 && hChk xTf_12 (hCw hvs hrt hw_116_0) true hd_116_0 prog_14_method_51_code [0, 1, 2, 3, 6, 9, 10, 11, 13, 16, 17, 20, 21, 24, 25, 28, 29, 32, 33] (some 75, none)) = true := by decide +kernel
theorem hc_117_0 : (hWk hw_117_0 && hChk xTf_12 (hCw hvs hrt hw_117_0) true hd_117_0 prog_14_method_79_code [0, 1, 2, 5, 8, 9, 10, 13, 16, 17, 18, 21, 22, 25, 28, 29, 32, 33] (some 75, none)) = true := by decide +kernel
theorem hc_118_0 : (hWk hw_118_0 && hChk xTf_12 (hCw hvs hrt hw_118_0) true hd_118_0 prog_14_method_110_code [0, 1, 2, 3, 6, 9, 12, 13, 14, 17, 20, 23, 24, 25, 26, 27, 30, 31, 33, 35, 36, 38, 39, 41, 43, 45, 48, 49, 52, 53, 55, 56, 58, 60, 61, 64, 65, 68, 69, 72, 73, 75, 76, 77, 78, 79, 82, 83, 86, 88, 90, 92, 93, 94, 96, 97, 98, 99, 102, 105, 108, 111, 113, 114, 117, 119, 120, 123, 125, 128, 129, 132, 134, 135, 137, 139, 142, 144, 146, 149, 152, 154, 156, 158, 160, 163, 166, 168] (some 75, none)) = true := by decide +kernel
theorem hc_119_0 : (hWk hw_119_0 && hChk xTf_12 (hCw hvs hrt hw_119_0) true hd_119_0 prog_14_method_5_code [0, 1, 4, 5, 6, 9, 12, 13, 14, 15, 16, 19, 20, 21, 24, 25, 28] (some 75, none)) = true := by decide +kernel
theorem hc_120_0 : (hWk hw_120_0 && hChk xTf_12 (hCw hvs hrt hw_120_0) true hd_120_0 prog_14_method_97_code [0, 1, 2, 3, 6, 9, 10, 11, 12, 15, 16, 17, 19, 20, 21, 23, 25, 26, 29, 30, 33, 34, 37, 39, 40, 41, 43, 45, 46, 49, 50, 53, 54, 57, 58, 60, 62, 64, 67, 68, 70, 72, 74, 76, 77, 79, 81, 82, 85, 88, 91, 94, 95, 98, 101, 103, 104, 106, 108, 109, 110, 112, 114, 116, 117, 118, 119, 121, 123, 124, 125, 126, 129, 132, 135, 138, 141, 144, 145, 148, 149, 152, 153] (some 75, none)) = true := by decide +kernel
theorem hc_121_0 : (hWk hw_121_0 && hChk xTf_12 (hCw hvs hrt hw_121_0) false hd_121_0 prog_14_method_46_code [0, 1, 2, 3, 6, 9, 10, 13, 14, 15, 16, 19, 22, 23, 24, 25, 27, 28, 31, 32, 35, 36, 37, 40, 41, 44, 45, 46, 49, 51, 52, 55, 56, 57, 58, 59, 60, 63, 66, 67, 68, 71, 72, 75, 76, 79, 80, 81, 84, 85, 86, 89] (some 75, none)) = true := by decide +kernel
theorem hc_122_0 : (hWk hw_122_0 && hChk xTf_12 (hCw hvs hrt hw_122_0) true hd_122_0 prog_14_method_88_code [0, 1, 2, 3, 6, 9, 10, 11, 12, 15, 16, 19, 20, 23, 24, 27, 30, 31, 34] (some 75, none)) = true := by decide +kernel
theorem hc_123_0 : (hWk hw_123_0 && hChk xTf_12 (hCw hvs hrt hw_123_0) true hd_123_0 prog_14_method_42_code [0, 1, 2, 3, 4, 5, 7, 10, 11, 12, 13, 14, 15, 16, 17, 18, 21, 24, 25] (none, none)) = true := by decide +kernel
theorem hc_124_0 : (hWk hw_124_0 && hChk xTf_12 (hCw hvs hrt hw_124_0) true hd_124_0 prog_14_method_27_code [0, 1, 4, 7, 8, 9, 12, 15, 16, 17, 20, 21, 22, 23, 26, 27, 30, 31, 32, 33, 34, 37, 38, 39, 42, 43, 44, 45, 48, 51, 52, 55, 56] (some 75, none)) = true := by decide +kernel
theorem hc_125_0 : (hWk hw_125_0 && hChk xTf_12 (hCw hvs hrt hw_125_0) true hd_125_0 prog_14_method_86_code [0, 1, 2, 3, 6, 9, 10, 13, 14, 15, 18, 19, 20, 21, 24, 27, 28, 29, 30, 31, 34, 35, 38, 39, 42, 43, 44, 45, 46, 47, 48, 51, 52, 53, 56, 59, 60, 61, 64, 67, 68] (some 75, none)) = true := by decide +kernel
theorem hc_126_0 : (hWk hw_126_0 && hChk xTf_12 (hCw hvs hrt hw_126_0) true hd_126_0 prog_14_method_99_code [0, 1, 2, 5, 8, 9, 10, 11, 14, 15, 16, 19, 22, 24, 25, 26, 27, 28, 29, 30, 31, 34, 36, 37, 40, 41, 42, 43, 44, 47, 48, 51, 53, 55, 56, 59, 60, 61, 62, 63, 64, 65, 66, 68, 69, 71, 72, 75, 77, 79, 82, 84, 85, 86, 89, 90, 93, 96, 97, 100, 102, 104, 106, 107, 108, 110, 111, 112, 113, 114, 115, 116, 119, 122, 123] (some 75, none)) = true := by decide +kernel
theorem hc_127_0 : (hWk hw_127_0 && hChk xTf_12 (hCw hvs hrt hw_127_0) true hd_127_0 prog_14_method_78_code [0, 1, 2, 5, 8, 9, 12, 15, 16, 17, 18, 19, 22, 23, 26, 29, 30, 31, 32, 33, 36, 37, 38, 39, 42, 43, 44, 47, 48, 51, 54, 55, 56, 57, 60, 63, 64, 65, 66, 67, 70, 71, 74, 75, 76, 77, 80, 81] (some 75, none)) = true := by decide +kernel
theorem hc_128_0 : (hWk hw_128_0 && hChk xTf_12 (hCw hvs hrt hw_128_0) false hd_128_0 prog_14_method_64_code [0, 1, 2, 3, 4, 7, 9, 10, 13, 14, 15, 16, 17, 20, 21, 24, 27, 29, 30, 31, 32, 33, 34, 35, 38, 39, 42, 44, 46, 47, 50, 53, 55, 56, 57, 58, 59, 60, 61, 62, 63, 64, 67, 69, 71, 72, 75, 76, 77, 78, 79, 80, 81, 82, 83, 84, 85, 86, 87, 88, 91, 94] (some 75, none)) = true := by decide +kernel
theorem hc_129_0 : (hWk hw_129_0 && hChk xTf_12 (hCw hvs hrt hw_129_0) false hd_129_0 prog_14_method_48_code [0, 1, 2, 3, 6, 9, 10, 13, 14, 15, 18, 19, 20, 21, 24, 27, 28, 29, 32, 33, 36, 37, 40, 41, 42, 45, 46, 47, 50] (some 75, none)) = true := by decide +kernel
theorem hc_130_0 : (hWk hw_130_0 && hChk xTf_12 (hCw hvs hrt hw_130_0) true hd_130_0 prog_14_method_115_code [0, 1, 4, 5, 84, 85, 88, 89, 92, 93, 94, 95, 98, 99, 102, 103, 104, 105, 108, 111, 112, 113, 114, 117, 120, 121, 122, 123, 124, 125, 128, 129, 130, 131, 132, 135, 136, 137, 138, 140, 143, 144, 145, 147, 149, 152, 153, 154, 157, 160, 161, 162, 163, 166, 167, 168, 171, 172, 173, 176, 177, 178, 181, 182, 183, 186, 187, 190, 191, 192, 195, 196, 197, 200, 201, 204, 205, 206, 207, 210, 211, 212, 215, 216, 219, 220, 221, 222, 223, 226, 229, 230, 233, 234, 235, 236, 237, 238, 241, 242, 243, 246, 247, 249, 251, 252, 255, 256, 259, 260, 263, 264, 266, 267, 268, 269, 270, 273, 274, 275, 277, 278, 281, 284, 285, 286, 288, 289, 290, 291, 294, 297, 298, 299, 300, 302, 305, 308, 309, 310] (some 75, none)) = true := by decide +kernel
theorem hc_131_0 : (hWk hw_131_0 && hChk xTf_12 (hCw hvs hrt hw_131_0) false hd_131_0 prog_14_method_70_code [0, 1, 2, 3, 4, 7, 8, 11, 12, 15, 16, 19, 20, 21, 22, 25, 26, 29, 32, 33, 34, 35, 37, 38, 41, 42, 45, 46, 47, 50, 51, 54, 55, 56, 57, 59, 60, 61, 63, 64, 67, 68, 71, 74, 75, 76, 77, 78, 81, 82, 85, 86, 89, 90, 93, 96, 97, 98, 99, 100, 103, 106, 107, 110, 113, 114, 115, 116, 117, 118, 121, 124, 125, 126, 127, 130, 131, 132, 133, 134, 137, 140, 141, 142, 143, 145, 146, 149, 150, 153, 154, 155, 158, 159, 160, 163, 166, 169, 170, 173, 176, 177, 180, 183, 184, 187, 188, 191, 194, 195, 196, 197, 198, 199] (some 75, none)) = true := by decide +kernel
theorem hc_132_0 : (hWk hw_132_0 && hChk xTf_12 (hCw hvs hrt hw_132_0) true hd_132_0 prog_14_method_82_code [0, 1, 4, 7, 8, 9, 10, 13, 14, 17, 20, 21, 22, 23, 26, 27, 28, 31, 32, 35, 36, 39, 42, 43] (some 75, none)) = true := by decide +kernel
theorem hc_133_0 : (hWk hw_133_0 && hChk xTf_12 (hCw hvs hrt hw_133_0) false hd_133_0 prog_14_method_15_code [0, 1, 4, 7, 8, 9, 10, 13, 14, 15, 18, 19, 22, 23, 26] (some 75, none)) = true := by decide +kernel
theorem hc_134_0 : (hWk hw_134_0 && hChk xTf_12 (hCw hvs hrt hw_134_0) true hd_134_0 prog_14_method_3_code [0, 1, 4, 6, 7, 10, 13, 14, 15, 16, 17, 20, 21, 22, 25, 26, 27, 30, 31, 33, 36, 37, 39, 42, 43, 46] (some 75, none)) = true := by decide +kernel
theorem hc_135_0 : (hWk hw_135_0 && hChk xTf_12 (hCw hvs hrt hw_135_0) false hd_135_0 prog_14_method_87_code [0, 1, 4, 5, 6, 9, 10, 11, 12, 13, 16, 17, 20, 21, 24, 25, 28, 29, 30, 31, 34, 35, 38, 41, 42, 43, 46, 47, 48, 51, 52, 53, 54, 55, 56, 59, 60, 63, 64, 65, 68, 69, 70, 71, 72, 73, 76, 79, 80, 81, 82, 84, 86, 87, 90, 91, 94, 95, 98, 99, 101, 102, 103, 104, 105, 108, 109, 110, 113, 115, 116, 117, 118, 121, 124, 125, 126, 129, 132, 133, 134, 137, 140, 143, 144, 145, 148, 149, 150, 153, 156, 159] (some 75, none)) = true := by decide +kernel
theorem hc_136_0 : (hWk hw_136_0 && hChk xTf_12 (hCw hvs hrt hw_136_0) true hd_136_0 prog_14_method_91_code [0, 1, 4, 5, 6, 9, 10, 11, 12, 13, 16, 17, 20, 21, 24, 25, 26, 27, 28, 29, 30, 33, 34, 35, 38, 41, 42, 43, 46, 49, 50, 53, 54, 55, 56, 57, 60, 61, 64, 65, 68, 69, 70, 71, 72, 73, 76, 79, 80, 81, 84, 85, 88, 91, 92, 93, 94, 95, 98, 101, 102, 105, 108, 109, 110, 113, 116, 117, 118] (some 75, none)) = true := by decide +kernel
theorem hc_137_0 : (hWk hw_137_0 && hChk xTf_12 (hCw hvs hrt hw_137_0) true hd_137_0 prog_14_method_107_code [0, 1, 4, 5, 6, 7, 10, 11] (some 75, none)) = true := by decide +kernel
theorem hc_138_0 : (hWk hw_138_0 && hChk xTf_12 (hCw hvs hrt hw_138_0) true hd_138_0 prog_14_method_54_code [0, 1, 4, 6, 7, 8, 9, 10, 11, 12, 15, 17, 19, 20, 21, 22, 23, 24, 25, 26, 27, 28, 31, 32, 33, 36, 39, 40, 43, 44] (some 75, none)) = true := by decide +kernel
theorem hc_139_0 : (hWk hw_139_0 && hChk xTf_12 (hCw hvs hrt hw_139_0) true hd_139_0 prog_14_method_84_code [0, 1, 2, 5, 8, 9, 10, 11, 14, 16, 17, 20, 21, 22, 23, 24, 25, 26, 29, 32, 33, 34, 35, 38, 39, 42, 45, 46, 47, 48, 49, 52, 54, 55, 56, 57, 60, 63, 64, 65, 68, 71, 73, 74, 75, 78, 81, 83, 84, 85, 86, 87, 88, 89] (some 75, none)) = true := by decide +kernel
theorem hc_140_0 : (hWk hw_140_0 && hChk xTf_12 (hCw hvs hrt hw_140_0) true hd_140_0 prog_14_method_81_code [0, 1, 2, 3, 4, 7, 10, 11, 12, 13, 16, 18, 20, 21, 22, 23, 25, 26, 27, 28, 29, 30, 32, 33, 36, 38, 39, 42, 43, 44, 45, 48, 51, 52, 53, 54, 57, 59, 60, 61, 62, 63, 64, 65, 66, 67, 68, 69, 72, 74, 75, 76, 77, 78, 79, 80, 81, 82, 83, 84, 87, 89, 90, 91, 92, 93, 94, 95, 98, 99] (some 75, none)) = true := by decide +kernel
theorem hc_141_0 : (hWk hw_141_0 && hChk xTf_12 (hCw hvs hrt hw_141_0) true hd_141_0 prog_14_method_63_code [0, 1, 2, 3, 5, 6, 7, 10, 11, 13, 15, 16, 19, 20, 23, 24, 27, 28, 30, 31, 34, 37, 38, 40, 41, 42, 45, 48, 51, 52, 54, 55, 56, 59, 61, 62, 65, 67, 69, 72, 73, 74, 77, 78, 79, 82, 83, 86, 88, 90, 93, 96, 98, 99, 101, 103, 104, 105, 108, 111, 114, 115] (some 75, none)) = true := by decide +kernel
theorem hc_142_0 : (hWk hw_142_0 && hChk xTf_12 (hCw hvs hrt hw_142_0) true hd_142_0 prog_14_method_59_code [0, 1, 2, 3, 6, 7, 8, 11, 12, 13, 14, 17, 20, 21, 24, 25] (some 75, none)) = true := by decide +kernel
theorem hc_143_0 : (hWk hw_143_0 && hChk xTf_12 (hCw hvs hrt hw_143_0) false hd_143_0 prog_14_method_71_code [0, 1, 2, 3, 4, 7, 8, 11, 14, 17] (some 75, none)) = true := by decide +kernel
theorem hc_144_0 : (hWk hw_144_0 && hChk xTf_12 (hCw hvs hrt hw_144_0) false hd_144_0 prog_14_method_17_code [0, 1, 4, 7, 10, 11, 12, 15, 18, 19, 20, 23, 24, 25, 28] (some 75, none)) = true := by decide +kernel
theorem hc_145_0 : (hWk hw_145_0 && hChk xTf_12 (hCw hvs hrt hw_145_0) true hd_145_0 prog_14_method_41_code [0, 1, 2, 5, 6, 9, 10, 11, 14, 15, 18, 19] (none, none)) = true := by decide +kernel
theorem hc_146_0 : (hWk hw_146_0 && hChk xTf_12 (hCw hvs hrt hw_146_0) true hd_146_0 prog_14_method_111_code [0, 1, 2, 3, 6, 9, 10, 11, 12, 15, 16, 17, 18, 19, 20, 21, 24, 27, 28, 31, 34, 35, 36, 37, 38, 39, 42, 43, 44, 45, 48, 51, 52] (some 75, none)) = true := by decide +kernel
theorem hc_147_0 : (hWk hw_147_0 && hChk xTf_12 (hCw hvs hrt hw_147_0) true hd_147_0 prog_14_method_72_code [0, 1, 2, 5, 8, 9, 12, 15, 16, 17, 18, 21, 23, 24, 25, 26, 27, 29, 30, 72, 73, 76, 78, 79, 80, 81, 84, 86, 88, 89, 90, 91, 92, 93, 94, 97, 98, 99, 102, 104, 106, 107, 108, 109, 110, 111, 112, 115, 116, 117, 118, 119, 122, 123, 124, 125, 126, 129, 130, 131] (some 75, none)) = true := by decide +kernel
theorem hc_148_0 : (hWk hw_148_0 && hChk xTf_12 (hCw hvs hrt hw_148_0) true hd_148_0 prog_14_method_40_code [0, 1, 2, 5, 6, 7, 10, 11, 14, 15] (none, none)) = true := by decide +kernel
theorem hc_149_0 : (hWk hw_149_0 && hChk xTf_12 (hCw hvs hrt hw_149_0) true hd_149_0 prog_14_method_14_code [0, 1, 4, 7, 8, 11, 12, 15, 16, 17, 20, 21, 24, 25] (some 75, none)) = true := by decide +kernel
theorem hc_150_0 : (hWk hw_150_0 && hChk xTf_12 (hCw hvs hrt hw_150_0) true hd_150_0 prog_14_method_96_code [0, 1, 3, 6, 7, 8, 9, 12, 15, 16, 17, 19, 22, 25, 26, 27, 28, 29, 31, 32, 35, 36, 37, 38, 39, 42, 45, 46, 47, 48, 50, 53, 54, 55, 56, 57, 60, 63, 64, 67, 68] (some 75, none)) = true := by decide +kernel
theorem hc_151_0 : (hWk hw_151_0 && hChk xTf_12 (hCw hvs hrt hw_151_0) true hd_151_0 prog_14_method_43_code [0, 1, 2, 3, 6, 7, 10, 11, 12, 13, 16] (some 75, none)) = true := by decide +kernel
theorem hc_152_0 : (hWk hw_152_0 && hChk xTf_12 (hCw hvs hrt hw_152_0) true hd_152_0 prog_14_method_101_code [0, 1, 2, 4, 7] (none, none)) = true := by decide +kernel
theorem hc_153_0 : (hWk hw_153_0 && hChk xTf_12 (hCw hvs hrt hw_153_0) true hd_153_0 prog_14_method_66_code [0, 1, 4, 7, 8, 9, 10, 13, 14, 17, 18] (some 75, none)) = true := by decide +kernel
theorem hc_154_0 : (hWk hw_154_0 && hChk xTf_12 (hCw hvs hrt hw_154_0) true hd_154_0 prog_14_method_44_code [0, 1, 2, 4, 7] (none, none)) = true := by decide +kernel
theorem hc_155_0 : (hWk hw_155_0 && hChk xTf_12 (hCw hvs hrt hw_155_0) true hd_155_0 prog_14_method_45_code [0, 1, 2, 3, 6, 7, 10, 11, 12, 13, 16] (some 75, none)) = true := by decide +kernel
theorem hc_156_0 : (hWk hw_156_0 && hChk xTf_12 (hCw hvs hrt hw_156_0) false hd_156_0 prog_14_method_85_code [0, 1, 2, 3, 6, 9, 10, 13, 14, 15, 18, 19, 20, 21, 24, 27] (some 75, none)) = true := by decide +kernel
theorem hc_157_0 : (hWk hw_157_0 && hChk xTf_12 (hCw hvs hrt hw_157_0) false hd_157_0 prog_14_method_47_code [0, 1, 2, 3, 6, 9, 10, 13, 14, 15, 18, 19, 20, 21, 24, 27] (some 75, none)) = true := by decide +kernel
theorem hc_158_0 : (hWk hw_158_0 && hChk xTf_12 (hCw hvs hrt hw_158_0) true hd_158_0 prog_14_method_100_code [0, 1, 4, 5, 8, 9, 10, 11, 12, 13, 16, 17, 20, 21, 24, 25, 28, 30, 31, 34, 35, 36, 37, 38, 39, 42, 45, 46, 49, 50, 51, 52, 53, 54, 55, 56, 57, 60, 63, 64] (some 75, none)) = true := by decide +kernel
theorem hc_159_0 : (hWk hw_159_0 && hChk xTf_12 (hCw hvs hrt hw_159_0) true hd_159_0 prog_14_method_58_code [0, 1, 2, 5, 6, 7, 8, 9, 10, 13, 14, 15, 16, 19, 20, 21, 24, 25, 26, 27, 28, 31, 32, 35, 36, 37, 39, 41, 42, 45, 46, 47, 50, 51, 54, 56, 57, 60, 61, 62, 65, 67, 68, 69, 72, 74, 75, 78, 80, 81, 82, 85, 87, 88, 89, 92, 94, 95, 98, 100, 101, 104, 107, 108, 109, 111, 113, 116, 119, 120, 121, 124, 126, 127, 128, 131, 133, 134, 137, 139, 140, 143, 146, 147, 150, 152, 153, 156, 159, 160] (some 75, none)) = true := by decide +kernel
theorem hc_160_0 : (hWk hw_160_0 && hChk xTf_12 (hCw hvs hrt hw_160_0) true hd_160_0 prog_14_method_80_code [0, 1, 2, 3, 4, 7, 10, 11, 12, 13, 16, 17, 18, 19, 22, 25, 26, 27, 28, 31, 33, 34, 35, 36, 37, 38, 39, 40, 41, 42, 43, 46, 48, 49, 50, 51, 52, 53, 54, 55, 56, 57, 58, 61, 63, 65, 66, 67, 68, 70, 71, 72, 73, 74, 75, 76, 77, 78, 79, 80, 81, 84, 85] (some 75, none)) = true := by decide +kernel
theorem hc_161_0 : (hWk hw_161_0 && hChk xTf_12 (hCw hvs hrt hw_161_0) true hd_161_0 prog_14_method_52_code [0, 1, 2, 3, 5, 7, 8, 11, 12, 13, 16, 18, 20, 21, 22, 23, 25, 27, 28, 29, 30, 31, 32, 33, 34, 37, 40, 41] (some 75, none)) = true := by decide +kernel
theorem hc_162_0 : (hWk hw_162_0 && hChk xTf_12 (hCw hvs hrt hw_162_0) true hd_162_0 prog_14_method_53_code [0, 1, 2, 3, 5, 7, 8, 11, 12, 13, 16, 18, 20, 22, 23, 24, 26, 27, 28, 29, 30, 31, 32, 33, 34, 37, 40, 41] (some 75, none)) = true := by decide +kernel
theorem hc_163_0 : (hWk hw_163_0 && hChk xTf_12 (hCw hvs hrt hw_163_0) true hd_163_0 prog_14_method_94_code [0, 1, 2, 5, 8, 9, 10, 13, 16, 17, 18, 19, 22, 23, 24, 25, 27, 29, 31, 34, 35, 36, 38, 41, 42, 43, 45, 48, 49, 51, 53, 56, 59, 60, 62, 63, 65, 67, 68, 71, 72, 75, 76, 79, 81, 82, 85, 87, 88, 90, 92, 95, 96, 98, 101, 104, 106, 108, 111, 113, 114, 115, 117, 118, 119, 122, 125, 126] (some 75, none)) = true := by decide +kernel
theorem hc_164_0 : (hWk hw_164_0 && hChk xTf_12 (hCw hvs hrt hw_164_0) false hd_164_0 prog_14_method_55_code [0, 1, 2, 3, 5, 8, 9, 12, 13, 14, 15, 18, 21, 22, 25, 26, 27, 30, 33, 34, 35] (some 75, none)) = true := by decide +kernel
theorem hc_165_0 : (hWk hw_165_0 && hChk xTf_12 (hCw hvs hrt hw_165_0) false hd_165_0 prog_14_method_56_code [0, 1, 4, 5, 8, 9, 10, 13, 15, 17, 18, 19, 20, 21, 22, 23, 24, 25, 28, 29, 30, 33, 35, 36, 37, 38, 39, 40, 41, 42, 45, 46, 47, 48, 49, 52, 54, 55, 56, 57, 60, 62, 63, 64, 65, 68, 69] (some 75, none)) = true := by decide +kernel
theorem hc_166_0 : (hWk hw_166_0 && hChk xTf_12 (hCw hvs hrt hw_166_0) false hd_166_0 prog_14_method_57_code [0, 1, 4, 5, 6, 9, 11, 12, 15, 16, 17, 18, 19, 20, 21, 24, 25, 26, 29, 31, 32, 35, 36, 37, 38, 39, 40, 41, 44, 46, 47, 50, 52, 53, 56, 57, 58, 59, 60, 61] (some 75, none)) = true := by decide +kernel
theorem hc_167_0 : (hWk hw_167_0 && hChk xTf_12 (hCw hvs hrt hw_167_0) true hd_167_0 prog_14_method_50_code [0, 1, 4, 6, 9, 10, 13, 14, 15, 16, 17] (some 75, none)) = true := by decide +kernel
theorem hc_168_0 : (hWk hw_168_0 && hChk xTf_12 (hCw hvs hrt hw_168_0) true hd_168_0 prog_14_method_49_code [0, 1, 2, 3, 6, 7, 10, 11, 12, 13, 14, 16, 17, 18] (none, none)) = true := by decide +kernel
theorem hc_169_0 : (hWk hw_169_0 && hChk xTf_12 (hCw hvs hrt hw_169_0) false hd_169_0 prog_14_method_18_code [0, 1, 2, 5, 8, 9, 12, 15, 16, 17, 20] (some 75, none)) = true := by decide +kernel
theorem hc_170_0 : (hWk hw_170_0 && hChk xTf_12 (hCw hvs hrt hw_170_0) true hd_170_0 prog_14_method_25_code [0, 1, 4, 5, 6, 7, 10, 11, 12, 13, 14, 17, 20, 21, 24, 27, 28, 31, 32, 33, 34, 37, 38, 39, 40, 43, 44, 45, 46, 49, 52, 55, 56] (some 75, none)) = true := by decide +kernel
theorem hc_171_0 : (hWk hw_171_0 && hChk xTf_12 (hCw hvs hrt hw_171_0) true hd_171_0 prog_14_method_93_code [0, 1, 2, 3, 5, 7, 8, 11, 13, 14, 17, 18, 19, 20, 21, 24, 25, 28, 30, 32, 33, 36, 37, 38, 39, 40, 42, 43, 44, 45, 48, 51, 54, 57, 58] (some 75, none)) = true := by decide +kernel
theorem hc_172_0 : (hWk hw_172_0 && hChk xTf_12 (hCw hvs hrt hw_172_0) true hd_172_0 prog_14_method_67_code [0, 1, 2, 3, 4, 5, 6, 9, 10, 13, 14, 17, 18, 19, 22, 25, 26, 27, 28, 29, 30, 31, 34, 37, 38] (some 75, none)) = true := by decide +kernel
theorem hc_173_0 : (hWk hw_173_0 && hChk xTf_12 (hCw hvs hrt hw_173_0) true hd_173_0 prog_14_method_95_code [0, 1, 3, 4, 6, 8, 9, 12, 13, 16, 17, 20, 21, 23, 26, 28, 29, 31, 33, 35, 38, 39, 41, 43, 46, 47, 48, 50, 53, 55, 56, 59, 60, 63, 64, 65, 67, 68, 71, 72, 75, 76, 77, 80, 81, 83, 86, 89, 91, 94, 97, 100, 103, 105] (some 75, none)) = true := by decide +kernel
theorem hc_174_0 : (hWk hw_174_0 && hChk xTf_12 (hCw hvs hrt hw_174_0) true hd_174_0 prog_14_method_104_code [0, 1, 4, 7, 8, 9, 10, 13, 14, 15, 18, 19, 22, 25, 26, 27, 30, 33, 34, 35] (some 75, none)) = true := by decide +kernel
theorem hc_175_0 : (hWk hw_175_0 && hChk xTf_12 (hCw hvs hrt hw_175_0) true hd_175_0 prog_14_method_62_code [0, 1, 4, 5, 6, 9, 10, 11, 12, 15, 16, 17, 20, 21, 23, 26] (some 75, none)) = true := by decide +kernel
theorem hc_176_0 : (hWk hw_176_0 && hChk xTf_12 (hCw hvs hrt hw_176_0) true hd_176_0 prog_14_method_90_code [0, 1, 2, 3, 6, 9, 10, 11, 13, 14, 16, 17, 18, 20, 22, 23, 26, 27, 30, 31, 34, 35, 38, 39, 41, 44, 45, 48, 49, 52, 53, 56, 57, 60, 63, 65, 66, 67, 70, 71, 74, 77, 78, 81, 82, 85, 86] (some 75, none)) = true := by decide +kernel
theorem hc_177_0 : (hWk hw_177_0 && hChk xTf_12 (hCw hvs hrt hw_177_0) true hd_177_0 prog_14_method_21_code [0, 1, 4] (some 75, none)) = true := by decide +kernel
theorem hc_178_0 : (hWk hw_178_0 && hChk xTf_12 (hCw hvs hrt hw_178_0) false hd_178_0 prog_14_method_4_code [0, 2, 3, 4, 7, 8, 11, 12, 15, 16, 17, 18, 19, 20, 21, 22, 25, 26, 27, 30, 33, 36] (some 75, none)) = true := by decide +kernel
theorem hc_179_0 : (hWk hw_179_0 && hChk xTf_12 (hCw hvs hrt hw_179_0) true hd_179_0 prog_14_method_60_code [0, 1, 2, 3, 6, 7, 8, 11, 12, 13, 14, 17] (some 75, none)) = true := by decide +kernel
theorem hc_180_0 : (hWk hw_180_0 && hChk xTf_12 (hCw hvs hrt hw_180_0) true hd_180_0 prog_14_method_20_code [0, 1, 2, 5, 8, 9, 10, 11, 12, 15, 18, 19, 22, 23, 24, 27, 28, 29, 30, 33, 36, 37, 38, 41, 42, 45, 46, 47, 50, 51, 52, 55, 56, 57, 60, 61, 62, 65, 66, 67, 68, 71, 72, 75, 76, 77, 80, 81, 82, 85, 88, 89, 92, 93, 96, 97, 100, 101, 104, 105, 108, 109, 112, 113, 116, 119, 120, 121, 124, 127, 128, 131, 134, 135, 136, 139, 142, 143, 146, 149, 150, 153, 156, 157, 160, 163, 164, 167, 168, 171, 174, 175, 178, 179, 180, 183, 186, 187, 190, 191, 192, 193, 196, 199, 200, 203, 204, 207, 208, 209, 212, 213, 214, 217, 218, 219, 220, 221, 224, 225, 228, 229, 230, 231, 234, 237, 238] (some 75, none)) = true := by decide +kernel
theorem hc_181_0 : (hWk hw_181_0 && hChk xTf_12 (hCw hvs hrt hw_181_0) false hd_181_0 prog_14_method_76_code [0, 1, 4, 6, 9, 10, 11, 12, 15, 18, 19, 22, 23, 24, 27, 28, 31, 32, 33, 34, 37, 40, 41, 42, 45, 46, 47, 50, 51, 52, 53, 56, 59, 60, 63, 66, 67, 70, 71, 72, 73, 74, 77, 78, 79, 80, 83, 86, 87, 88, 91, 92, 93, 96, 97, 100] (some 75, none)) = true := by decide +kernel
theorem hc_182_0 : (hWk hw_182_0 && hChk xTf_12 (hCw hvs hrt hw_182_0) true hd_182_0 prog_14_method_112_code [0, 1, 2, 3, 6, 9, 10, 13, 14, 15, 18, 19, 20, 21, 22, 23, 26, 29, 30, 33, 34, 35, 38, 41, 42, 43, 44, 45, 46, 47, 50, 53, 54, 55, 58, 59] (some 75, none)) = true := by decide +kernel
theorem hc_183_0 : (hWk hw_183_0 && hChk xTf_12 (hCw hvs hrt hw_183_0) false hd_183_0 prog_14_method_22_code [0, 1, 2, 5, 6, 7, 10, 11, 14, 17, 18, 21] (some 75, none)) = true := by decide +kernel
theorem hc_184_0 : (hWk hw_184_0 && hChk xTf_12 (hCw hvs hrt hw_184_0) true hd_184_0 prog_14_method_77_code [0, 1, 2, 5, 8, 9, 10, 11, 14, 15, 16, 19, 22, 23, 24, 27, 30, 31, 32, 33, 36, 37] (some 75, none)) = true := by decide +kernel
theorem hc_185_0 : (hWk hw_185_0 && hChk xTf_12 (hCw hvs hrt hw_185_0) true hd_185_0 prog_14_method_65_code [0, 1, 2, 3, 5, 8, 9, 12, 15, 17, 18, 19, 20, 21, 22, 23, 24, 27, 30, 31, 32, 33, 34, 37, 39, 40, 43, 44, 45, 46, 47, 50, 51, 54, 56, 58, 59, 62, 63, 64, 65, 66, 67, 68, 69, 70, 71, 72, 73, 76, 78, 80, 83, 84, 85, 88, 89, 90, 91, 94, 97, 99, 100, 101, 102, 103, 104, 106, 107, 108, 111, 113, 115, 117, 118, 119, 120, 121, 122, 123, 124, 125, 126, 129, 132, 133, 136, 139, 140, 141, 142, 143, 144] (some 75, none)) = true := by decide +kernel
theorem hc_186_0 : (hWk hw_186_0 && hChk xTf_12 (hCw hvs hrt hw_186_0) true hd_186_0 prog_14_method_98_code [0, 1, 2, 5, 8, 11, 12, 13, 14, 17, 18, 21, 22, 23, 24, 25, 26, 29, 30, 33, 34, 37, 38, 40, 42, 44, 47, 48, 50, 51, 52, 53, 54, 57, 58, 59, 61, 64, 67, 68, 69, 70, 71, 72, 73, 74, 75, 78, 81, 84, 87, 88] (some 75, none)) = true := by decide +kernel
theorem hc_187_0 : (hWk hw_187_0 && hChk xTf_12 (hCw hvs hrt hw_187_0) true hd_187_0 prog_14_method_113_code [0, 1, 2, 3, 5, 7, 8, 9, 10, 13, 14, 15, 18, 20, 21, 22, 23, 26, 29, 30] (some 75, none)) = true := by decide +kernel
theorem hc_188_0 : (hWk hw_188_0 && hChk xTf_12 (hCw hvs hrt hw_188_0) true hd_188_0 prog_14_method_106_code [0, 1, 4, 6, 9, 10, 13, 16, 17, 18, 21, 24, 27, 28, 29, 30, 33, 34, 37, 38, 39, 40, 43, 44, 47, 48, 49, 50, 53, 54, 57, 58, 59, 60, 61, 64, 65, 66, 69, 70, 73, 74, 75] (some 75, none)) = true := by decide +kernel
theorem hc_189_0 : (hWk hw_189_0 && hChk xTf_12 (hCw hvs hrt hw_189_0) true hd_189_0 prog_14_method_75_code [0, 1, 2, 5, 8, 9, 12, 15, 16, 17, 20, 23, 25, 26, 27, 30, 33, 36, 37, 38, 41, 43, 44, 47, 48, 49, 50, 51, 54, 55, 56, 57, 58, 59, 62, 65, 66, 69, 70] (some 75, none)) = true := by decide +kernel
theorem hc_190_0 : (hWk hw_190_0 && hChk xTf_12 (hCw hvs hrt hw_190_0) true hd_190_0 prog_14_method_103_code [0, 1, 2, 5, 8, 9, 12, 15, 16, 19, 22, 24, 25, 26, 29, 32, 33, 34, 35, 38, 39, 40, 43, 44, 47, 49, 51, 52, 54, 55, 56, 57, 58, 59, 60] (some 75, none)) = true := by decide +kernel
theorem hc_191_0 : (hWk hw_191_0 && hChk xTf_12 (hCw hvs hrt hw_191_0) false hd_191_0 prog_14_method_69_code [0, 1, 2, 3, 6, 9, 10, 11, 12, 13, 15, 18, 19, 20, 21, 22, 23, 24, 25, 28, 29, 32, 33, 36, 37, 40, 41, 44, 46, 47, 48, 49, 50, 51, 52, 55, 57, 58, 59, 60, 61, 62, 65, 66, 67, 70, 73, 74, 77, 78, 81, 83, 84, 85, 86, 87, 88, 91, 92, 93, 96, 98, 99, 100, 101, 102, 103, 104, 105, 106, 107, 108, 111, 114, 115, 116, 117, 118, 119] (some 75, none)) = true := by decide +kernel
theorem hc_192_0 : (hWk hw_192_0 && hChk xTf_12 (hCw hvs hrt hw_192_0) true hd_192_0 prog_14_method_23_code [0, 1, 4, 5, 6, 7, 10, 11, 12, 13, 16, 17] (some 75, none)) = true := by decide +kernel
theorem hc_193_0 : (hWk hw_193_0 && hChk xTf_12 (hCw hvs hrt hw_193_0) true hd_193_0 prog_14_method_92_code [0, 1, 2, 3, 6, 9, 10, 11, 12, 15, 16, 19, 20, 21, 22, 23, 25, 26, 28, 30, 31, 32, 35, 36, 39, 40, 41, 44, 46, 47, 48, 49, 50, 53, 56, 57, 59, 62, 64, 66, 69, 72, 73, 76, 78, 79, 82, 83, 85, 88, 91, 93, 94, 96, 97, 100, 101, 103, 106, 109, 110, 113, 115, 118, 119] (some 75, none)) = true := by decide +kernel
theorem hc_194_0 : (hWk hw_194_0 && hChk xTf_12 (hCw hvs hrt hw_194_0) true hd_194_0 prog_14_method_83_code [0, 1, 4, 7, 8, 9, 10, 11, 14, 15, 16, 19, 20, 21, 22, 25, 28, 29, 32, 33, 34, 37, 40, 41, 44, 45, 46, 47, 48, 49, 52, 55, 56] (some 75, none)) = true := by decide +kernel
theorem hc_195_0 : (hWk hw_195_0 && hChk xTf_12 (hCw hvs hrt hw_195_0) true hd_195_0 prog_14_method_73_code [0, 1, 2, 5, 8, 9, 10, 11, 14, 15, 48, 49, 52, 54, 55, 58, 59, 60, 61, 62, 63, 64, 67, 69, 70, 73, 74, 75, 76, 77, 78, 79, 82, 84, 85, 88, 89, 90, 91, 92, 93, 94, 97, 100, 101, 102, 103, 104, 105, 106, 109, 110, 111] (some 75, none)) = true := by decide +kernel
theorem hc_196_0 : (hWk hw_196_0 && hChk xTf_12 (hCw hvs hrt hw_196_0) true hd_196_0 prog_14_method_114_code [0, 1, 2, 3, 5, 7, 8, 11, 12, 15, 16, 19, 20, 23, 26, 28, 29, 30, 31, 32, 35, 38, 39, 40, 42, 43, 44, 45, 48, 51, 52] (some 75, none)) = true := by decide +kernel
theorem hc_197_0 : (hWk hw_197_0 && hChk xTf_12 (hCw hvs hrt hw_197_0) true hd_197_0 prog_14_method_74_code [0, 1, 2, 5, 8, 9, 10, 11, 14, 16, 17, 20, 21, 22, 23, 24, 25, 26, 29, 32, 33, 36, 38, 40, 41, 44, 45, 46, 47, 48, 49, 50, 51, 54, 55] (some 75, none)) = true := by decide +kernel
theorem hc_198_0 : (hWk hw_198_0 && hChk xTf_12 (hCw hvs hrt hw_198_0) false hd_198_0 prog_14_method_68_code [0, 1, 4, 5, 6, 7, 8, 11, 13, 14, 15, 16, 19, 20, 21, 24, 26, 27, 28, 29, 32, 34, 35, 36, 37, 38, 41, 43, 44, 45, 46, 47, 50, 51, 52, 53, 54, 55, 58, 61, 62, 63, 66, 68, 69, 70, 71, 72, 75, 76, 79, 80, 83, 84, 85, 88, 90, 91, 92, 93, 94, 95, 98, 99, 100, 103, 104, 105, 108, 109, 110, 111, 112, 113, 114, 115, 118, 121, 122, 123, 124, 125, 126, 127, 130, 131, 132, 133] (some 75, none)) = true := by decide +kernel
theorem hc_199_0 : (hWk hw_199_0 && hChk xTf_12 (hCw hvs hrt hw_199_0) true hd_199_0 prog_14_method_61_code [0, 1, 2, 3, 6, 7, 8, 9, 12, 13, 15, 18] (some 75, none)) = true := by decide +kernel
theorem hc_200_0 : (hWk hw_200_0 && hChk xTf_12 (hCw hvs hrt hw_200_0) true hd_200_0 prog_14_method_109_code [0, 1, 2, 3, 6, 9, 12, 13, 14, 15, 18, 21, 22, 23, 24, 25, 28, 29, 30, 33, 34, 37, 40, 41] (some 75, none)) = true := by decide +kernel
theorem hc_201_0 : (hWk hw_201_0 && hChk xTf_12 (hCw hvs hrt hw_201_0) true hd_201_0 prog_14_method_108_code [0, 1, 2, 3, 4, 5, 6, 9, 10, 13, 14, 17, 18, 20, 21, 23, 25, 26, 29, 30, 33, 35, 37, 38, 39, 40, 41, 44, 46, 47, 48, 49, 50, 53, 55, 56, 59, 60, 63, 64, 65, 68, 70, 71, 74, 75, 77, 80, 83, 85, 88, 89, 90, 91, 92, 93, 94, 97, 100, 101] (some 75, none)) = true := by decide +kernel
theorem hc_202_0 : (hWk hw_202_0 && hChk xTf_12 (hCw hvs hrt hw_202_0) true hd_202_0 prog_14_method_102_code [0, 1, 2, 5, 8, 9, 12, 15, 16, 17, 18, 21, 22, 23, 26, 27, 28, 29, 32, 35, 36, 39, 40, 43, 45, 46, 47, 48, 49, 50, 53, 54, 55, 58, 61, 63] (some 75, none)) = true := by decide +kernel
theorem hc_203_0 : (hWk hw_203_0 && hChk xTf_12 (hCw hvs hrt hw_203_0) true hd_203_0 prog_14_method_89_code [0, 1, 2, 5, 8, 9, 12, 15, 16, 17, 18, 21, 22, 25, 26, 29, 30, 31, 34, 35, 38, 40, 41, 42, 43, 44, 45, 46, 47, 48, 49, 50, 53, 54, 57, 58, 59] (some 75, none)) = true := by decide +kernel
theorem hc_204_0 : (hWk hw_204_0 && hChk xTf_12 (hCw hvs hrt hw_204_0) false hd_204_0 prog_14_method_16_code [0, 1, 4, 5, 6, 7, 8, 11, 14, 15, 18, 21, 22, 23, 26, 29, 30, 31, 34, 37, 38, 39, 42, 45, 46, 47, 48, 51, 52, 53, 56] (some 75, none)) = true := by decide +kernel
theorem hc_205_0 : (hWk hw_205_0 && hChk xTf_12 (hCw hvs hrt hw_205_0) true hd_205_0 prog_14_method_105_code [0, 1, 2, 5, 8, 9, 12, 15, 16, 19, 22, 24, 25, 27, 30, 33, 34, 35, 36, 38, 39, 41, 43, 45, 48, 49, 52, 53, 54, 57, 59, 60, 63, 64, 65, 68, 69, 72, 74, 75, 76, 77, 78, 79, 82, 85, 88, 91, 93] (some 75, none)) = true := by decide +kernel
theorem hc_206_0 : (hWk hw_206_0 && hChk xTf_13 (hCw hvs hrt hw_206_0) true hd_206_0 prog_16_method_49_code [0, 1, 2, 3, 4, 7, 8, 9, 10, 11, 14, 15, 16, 17, 18, 21, 22, 23, 24, 25, 26, 27, 28, 29, 32, 33, 34, 35, 36, 38, 39, 40, 41, 42, 43, 45, 46, 47, 48, 49, 51, 52] (none, none)) = true := by decide +kernel
theorem hc_207_0 : (hWk hw_207_0 && hChk xTf_14 (hCw hvs hrt hw_207_0) false hd_207_0 prog_22_method_103_code [0, 1, 2, 3, 4, 5, 6, 7, 10, 11, 12, 13, 14, 17, 20] (some 14, none)) = true := by decide +kernel
theorem hc_207_1 : (hWk hw_207_1 && hChk xTf_14 (hCw hvs hrt hw_207_1) false hd_207_1 prog_22_method_103_code [0, 1, 2, 3, 4, 5, 6, 7, 10, 11, 12, 13, 14, 17, 20] (some 19, none)) = true := by decide +kernel
theorem hc_207_2 : (hWk hw_207_2 && hChk xTf_14 (hCw hvs hrt hw_207_2) false hd_207_2 prog_22_method_103_code [0, 1, 2, 3, 4, 5, 6, 7, 10, 11, 12, 13, 14, 17, 20] (some 30, none)) = true := by decide +kernel
theorem hc_207_3 : (hWk hw_207_3 && hChk xTf_14 (hCw hvs hrt hw_207_3) false hd_207_3 prog_22_method_103_code [0, 1, 2, 3, 4, 5, 6, 7, 10, 11, 12, 13, 14, 17, 20] (some 31, none)) = true := by decide +kernel
theorem hc_207_4 : (hWk hw_207_4 && hChk xTf_14 (hCw hvs hrt hw_207_4) false hd_207_4 prog_22_method_103_code [0, 1, 2, 3, 4, 5, 6, 7, 10, 11, 12, 13, 14, 17, 20] (some 32, none)) = true := by decide +kernel
theorem hc_207_5 : (hWk hw_207_5 && hChk xTf_14 (hCw hvs hrt hw_207_5) false hd_207_5 prog_22_method_103_code [0, 1, 2, 3, 4, 5, 6, 7, 10, 11, 12, 13, 14, 17, 20] (some 49, none)) = true := by decide +kernel
theorem hc_208_0 : (hWk hw_208_0 && hChk xTf_8 (hCw hvs hrt hw_208_0) true hd_208_0 prog_9_method_3_code [0, 1, 3, 6, 7, 9, 12, 13, 15, 18, 19, 21, 24, 25, 28, 29] (none, none)) = true := by decide +kernel
theorem hc_209_0 : (hWk hw_209_0 && hChk xTf_8 (hCw hvs hrt hw_209_0) true hd_209_0 prog_9_method_5_code [0, 1, 3, 6, 7, 9, 12, 13, 16, 17] (none, none)) = true := by decide +kernel
theorem hc_210_0 : (hWk hw_210_0 && hChk xTf_8 (hCw hvs hrt hw_210_0) true hd_210_0 prog_9_method_4_code [0, 1, 3, 6, 7, 9, 12, 13, 16, 17] (none, none)) = true := by decide +kernel
theorem hc_211_0 : (hWk hw_211_0 && hChk xTf_12 (hCw hvs hrt hw_211_0) true hd_211_0 prog_14_method_6_code [0, 1, 2, 5, 8, 9, 12, 13, 14, 17, 18, 21, 22] (some 75, none)) = true := by decide +kernel
theorem hc_212_0 : (hWk hw_212_0 && hChk xTf_12 (hCw hvs hrt hw_212_0) true hd_212_0 prog_14_method_7_code [0, 1, 3, 6, 7, 9, 12, 13, 16, 17] (none, none)) = true := by decide +kernel
theorem hc_213_0 : (hWk hw_213_0 && hChk xTf_12 (hCw hvs hrt hw_213_0) true hd_213_0 prog_14_method_8_code [0, 1, 3, 6, 7, 9, 12, 13, 16, 17] (none, none)) = true := by decide +kernel
theorem hc_214_0 : (hWk hw_214_0 && hChk xTf_12 (hCw hvs hrt hw_214_0) false hd_214_0 prog_14_method_12_code [0, 1, 2, 5, 6, 7, 8, 11, 14, 17, 18, 19, 22, 23, 24, 25, 28, 31, 32, 33, 34, 37, 38, 39, 42, 43, 44, 46, 49, 50, 52, 55, 56, 58, 61, 62, 64, 67, 70, 73, 74, 77, 80, 81, 82, 83, 85, 86, 87, 88, 89, 92, 95, 98, 99, 101, 104, 106, 107, 108, 109, 110, 113, 116, 118, 121, 124, 125, 127, 130, 131, 134, 135, 137, 138, 140, 143, 144, 146, 148, 150, 153, 154, 157, 159, 160, 162, 163, 166, 168, 170, 171, 173, 176, 179, 180, 182, 183, 184, 186, 189, 190, 191, 192, 193, 196, 197, 200, 203, 204, 205, 206, 208, 209, 210, 211, 212, 215, 218, 221, 222, 223, 226, 228, 230, 231, 232, 233, 234, 235, 238, 239, 241, 242, 244, 247, 250, 251, 252, 253, 256, 257, 260, 261, 262, 264, 265, 268, 269, 270, 271, 272, 275, 276, 277, 278, 279, 280, 281, 282, 283, 286, 289, 290, 291, 294] (some 75, none)) = true := by decide +kernel
theorem hc_215_0 : (hWk hw_215_0 && hChk xTf_12 (hCw hvs hrt hw_215_0) false hd_215_0 prog_14_method_11_code [0, 1, 4, 5, 8, 9, 10, 11, 14, 15, 18, 19, 20, 21, 24, 25, 28, 29, 30, 31, 34, 35, 38, 40, 41, 42, 43, 46, 47, 48, 51] (some 75, none)) = true := by decide +kernel
theorem hc_216_0 : (hWk hw_216_0 && hChk xTf_12 (hCw hvs hrt hw_216_0) true hd_216_0 prog_14_method_13_code [0, 1, 3, 6, 7, 10, 11, 13, 16, 17, 20, 21, 23, 26, 28, 31, 32, 34, 37, 39, 42, 43, 45, 46, 48, 51, 53, 55, 56, 58, 61, 63, 65, 66, 68, 71, 73, 75, 76, 78, 81, 83, 85, 86, 88, 91, 93, 95, 96, 98, 99, 100, 101, 104, 105] (some 75, none)) = true := by decide +kernel
theorem hc_217_0 : (hWk hw_217_0 && hChk xTf_12 (hCw hvs hrt hw_217_0) true hd_217_0 prog_14_method_9_code [0, 1, 4, 5, 8, 11, 12, 13, 14, 16, 17, 18, 19, 20, 21] (none, none)) = true := by decide +kernel
theorem hc_218_0 : (hWk hw_218_0 && hChk xTf_12 (hCw hvs hrt hw_218_0) false hd_218_0 prog_14_method_19_code [0, 1, 4, 5, 6, 7, 8, 11, 12, 13, 14, 15, 18, 19, 21, 22, 23, 26, 27, 28, 29, 30, 33, 34, 35, 36, 37, 38, 39, 40, 43, 44, 47, 48, 49, 50, 51, 52, 53, 54, 55, 58, 59, 60, 61, 62, 63, 64, 65, 68, 71] (some 75, none)) = true := by decide +kernel
theorem hc_219_0 : (hWk hw_219_0 && hChk xTf_12 (hCw hvs hrt hw_219_0) false hd_219_0 prog_14_method_24_code [0, 1, 4, 5, 8, 9, 60, 61, 62, 65, 66, 69, 70, 71, 74, 75, 78, 81, 82, 85, 88, 89, 90, 93, 94, 97, 98, 100, 103, 104, 107, 110, 111, 114, 117, 118, 121, 122, 125, 126, 127, 129, 132, 133, 136, 137, 140, 141, 144, 145, 146, 148, 151, 152, 155, 156, 159, 160, 163, 164, 165, 168, 171, 172, 175, 176, 179, 180, 183, 184, 186, 187, 188, 189, 192, 193, 196, 197, 200, 201, 203, 206, 207, 208, 211, 212, 215, 218, 219, 220, 223, 224, 225, 228] (some 75, none)) = true := by decide +kernel
theorem hc_220_0 : (hWk hw_220_0 && hChk xTf_12 (hCw hvs hrt hw_220_0) false hd_220_0 prog_14_method_26_code [0, 1, 2, 5, 6, 9, 12, 13, 14, 17, 18, 21, 22, 25, 26, 27, 28, 29, 30, 33, 34, 35, 38] (some 75, none)) = true := by decide +kernel
theorem hc_221_0 : (hWk hw_221_0 && hChk xTf_12 (hCw hvs hrt hw_221_0) false hd_221_0 prog_14_method_30_code [0, 1, 4, 5, 6, 7, 10, 11, 12, 15, 16, 19, 22, 23, 24, 25, 28, 29, 30, 33, 36, 37, 38, 39, 40, 41, 42, 45, 48, 49, 52, 53, 54, 57, 58, 59, 60, 63, 64, 65, 68, 69, 70, 72, 75, 76, 77, 80, 83, 84, 87, 88, 89, 91, 92, 95, 96, 97, 100] (some 75, none)) = true := by decide +kernel
theorem hc_222_0 : (hWk hw_222_0 && hChk xTf_12 (hCw hvs hrt hw_222_0) true hd_222_0 prog_14_method_28_code [0, 1, 2, 3, 4, 5, 6, 7, 10, 13, 14, 17, 18, 19, 22, 23] (none, none)) = true := by decide +kernel
theorem hc_223_0 : (hWk hw_223_0 && hChk xTf_12 (hCw hvs hrt hw_223_0) true hd_223_0 prog_14_method_29_code [0, 1, 2, 3, 6, 7, 8, 10, 12, 13, 16, 17, 20, 21, 22, 25, 28, 29, 32, 33, 34, 35, 36] (none, none)) = true := by decide +kernel
theorem hc_224_0 : (hWk hw_224_0 && hChk xTf_12 (hCw hvs hrt hw_224_0) false hd_224_0 prog_14_method_31_code [0, 2, 3, 6, 7, 9, 10, 13, 14, 17, 18, 19, 20, 21, 22, 25, 26, 27, 30, 31, 32, 33, 35, 38, 39, 42, 43, 44, 45, 46, 47, 50, 53, 54, 55, 56, 57, 60, 63, 64, 67, 68, 69, 72, 73, 74, 75, 76, 77, 78, 79, 80, 83, 86, 87, 88, 91, 92, 95, 98, 99, 102, 103, 106, 107, 108, 109, 110, 111] (some 75, none)) = true := by decide +kernel
theorem hc_225_0 : (hWk hw_225_0 && hChk xTf_12 (hCw hvs hrt hw_225_0) false hd_225_0 prog_14_method_32_code [0, 2, 3, 6, 7, 8, 11, 12, 15, 16, 17, 18, 19, 22, 23, 24, 27, 28, 31, 32, 33, 36, 37, 38, 39, 40, 41, 44, 47, 48, 51, 53, 54, 55, 56, 57, 58, 61, 62, 63, 64, 67, 70, 71, 74, 75, 76, 77, 79, 82, 83, 84, 87, 88, 89, 90, 92, 95, 96, 97, 98, 101, 102, 105, 108, 109, 112, 113, 116, 117, 118, 119, 120, 121] (some 75, none)) = true := by decide +kernel
theorem hc_226_0 : (hWk hw_226_0 && hChk xTf_12 (hCw hvs hrt hw_226_0) false hd_226_0 prog_14_method_33_code [0, 1, 2, 5, 6, 9, 10, 11, 12, 13, 16, 19, 20, 22, 25, 28, 29, 30, 33, 34, 35, 38, 39, 42, 45, 46, 49, 50, 53, 54, 57, 58, 61, 62, 63, 64, 67, 68, 71, 72, 75, 76, 77, 80, 81, 83, 86, 87, 90, 91, 94, 95, 98, 99, 100, 103, 106, 107, 110, 111, 113, 116, 117, 120, 121, 123, 126, 129, 130, 133, 134, 137, 138, 139, 140, 143, 144, 145, 148, 149, 152, 155, 156, 157, 160, 161, 162, 165, 166, 167, 168, 169, 170, 171, 174, 175, 176, 179, 180, 181, 182, 183, 186, 187] (some 75, none)) = true := by decide +kernel
theorem hc_227_0 : (hWk hw_227_0 && hChk xTf_12 (hCw hvs hrt hw_227_0) false hd_227_0 prog_14_method_34_code [0, 1, 4, 5, 8, 9, 12, 13, 14, 17, 20, 21, 24, 25, 28, 29, 32, 33, 36, 37, 38, 39, 42, 43, 44, 47] (some 75, none)) = true := by decide +kernel
theorem hc_228_0 : (hWk hw_228_0 && hChk xTf_12 (hCw hvs hrt hw_228_0) false hd_228_0 prog_14_method_35_code [0, 1, 4, 5, 8, 9, 10, 11, 14, 15, 18, 19, 20, 21, 22, 25, 26, 27, 30] (some 75, none)) = true := by decide +kernel
theorem hc_229_0 : (hWk hw_229_0 && hChk xTf_12 (hCw hvs hrt hw_229_0) false hd_229_0 prog_14_method_36_code [0, 1, 4, 7, 8, 11, 12, 15, 16, 17, 18, 19, 20, 22, 25, 26, 29, 30, 32, 35, 36, 38, 41, 42, 43, 44, 47, 48, 49, 52, 53, 54, 56, 59, 60, 63, 64, 66, 69, 70, 73, 74, 76, 79, 80, 83, 84, 85, 88, 91] (some 75, none)) = true := by decide +kernel
theorem hc_230_0 : (hWk hw_230_0 && hChk xTf_12 (hCw hvs hrt hw_230_0) false hd_230_0 prog_14_method_37_code [0, 1, 2, 5, 6, 9, 10, 11, 12, 13, 16, 17, 20, 23, 24, 26, 29, 32, 33, 36, 38, 41, 42, 43, 46, 47, 48, 51, 52, 53, 56, 57, 60, 61, 64, 65, 68, 70, 71, 72, 73, 76, 77, 78, 81, 84, 85, 88, 89, 92, 95, 96, 97, 99, 102, 105, 106, 109, 110, 113, 114, 115, 118, 119, 120, 123, 124, 125, 128, 129, 130, 133, 134, 135, 138, 139, 142, 145, 146, 148, 151, 154, 155, 157, 160, 163, 164, 166, 169, 172, 173, 175, 178, 181, 182, 185, 186, 187, 188, 191, 192, 195, 196, 199, 200, 201, 204, 205, 206, 209, 210, 211, 212, 214, 217, 220, 221, 223, 226, 229, 230, 233, 234, 237, 238, 241, 242, 245, 246, 249, 250, 253, 254, 255, 256, 257, 260, 261, 262, 265, 266, 269, 272] (some 75, none)) = true := by decide +kernel
theorem hc_231_0 : (hWk hw_231_0 && hChk xTf_12 (hCw hvs hrt hw_231_0) false hd_231_0 prog_14_method_38_code [0, 1, 2, 5, 8, 9, 10, 11, 14, 15, 18, 19, 22, 23, 26, 29, 30, 33, 36, 37, 40, 41, 44, 45, 47, 50, 51, 54, 55, 58, 59, 61, 64, 65, 66, 67, 70, 71, 74, 75, 77, 78, 81, 82, 85, 88, 89, 90, 93] (some 75, none)) = true := by decide +kernel
theorem hc_232_0 : (hWk hw_232_0 && hChk xTf_12 (hCw hvs hrt hw_232_0) true hd_232_0 prog_14_method_39_code [0, 1, 2, 3, 5, 7, 8, 11, 12, 15, 17, 18, 20, 22, 23, 26, 27, 30, 31, 33, 36, 37, 40, 42, 43, 46, 47, 50, 51, 54, 56, 57, 58, 59, 62, 65, 68, 69, 72, 73, 74, 75, 76, 78, 79, 82, 83, 84, 86, 88, 89, 92, 94, 97, 98, 99, 102, 103, 104, 105, 108, 109, 110, 111, 113, 114, 117, 119, 121, 122, 125, 127, 128, 131, 133, 135, 136, 139, 141, 142, 145, 147, 149, 150, 153, 155, 157, 158, 159, 162, 165, 166, 169, 170, 171] (some 75, none)) = true := by decide +kernel
theorem hc_233_0 : (hWk hw_233_0 && hChk xTf_7 (hCw hvs hrt hw_233_0) false hd_233_0 prog_8_method_5_code [0, 1, 4, 5, 8, 11, 12, 15, 16, 17, 20, 21] (some 13, none)) = true := by decide +kernel
theorem hc_234_0 : (hWk hw_234_0 && hChk xTf_3 (hCw hvs hrt hw_234_0) true hd_234_0 prog_4_method_16_code [0, 1, 2, 5, 8, 9, 10, 11, 12, 13, 16, 19, 20, 23, 25, 28, 29, 32, 34, 37, 38, 41, 42, 43, 44, 47, 50, 51, 52, 55, 58, 59, 60, 61, 64, 65, 67, 70, 71, 74, 75, 76, 79, 82, 85, 86] (some 12, none)) = true := by decide +kernel
theorem hc_235_0 : (hWk hw_235_0 && hChk xTf_3 (hCw hvs hrt hw_235_0) true hd_235_0 prog_4_method_17_code [0, 1, 2, 5, 8, 9, 10, 11, 12, 13, 16, 19, 20, 23, 25, 28, 29, 32, 34, 37, 38, 41, 42, 43, 44, 47, 50, 51, 52, 55, 58, 59, 60, 61, 64, 65, 67, 70, 71, 74, 75, 76, 79, 82, 85, 86] (some 12, none)) = true := by decide +kernel
theorem hc_236_0 : (hWk hw_236_0 && hChk xTf_3 (hCw hvs hrt hw_236_0) true hd_236_0 prog_4_method_18_code [0, 1, 4, 5, 6, 8, 11, 12, 14, 17, 18, 19, 22, 25, 26, 28, 31, 34, 35, 36, 37, 38, 41, 44, 45, 47, 50, 53, 54, 57, 58, 59, 60, 61, 64, 65, 68, 69, 70, 71, 74, 75, 78, 81, 84, 85, 86, 89, 90, 91, 94, 97, 98, 101, 102, 103, 106, 107, 110, 111, 112, 115, 116, 117, 118, 121] (some 12, none)) = true := by decide +kernel
theorem hc_237_0 : (hWk hw_237_0 && hChk xTf_3 (hCw hvs hrt hw_237_0) true hd_237_0 prog_4_method_13_code [0, 1, 4, 5, 8, 11, 12, 13, 14, 15, 16, 18, 19] (some 12, none)) = true := by decide +kernel
theorem hc_238_0 : (hWk hw_238_0 && hChk xTf_3 (hCw hvs hrt hw_238_0) true hd_238_0 prog_4_method_12_code [0, 1, 2, 3, 4, 7, 10, 11, 12, 15, 16, 17, 18, 21, 23, 26, 27, 28, 31, 34, 35] (some 12, none)) = true := by decide +kernel
theorem hc_239_0 : (hWk hw_239_0 && hChk xTf_8 (hCw hvs hrt hw_239_0) true hd_239_0 prog_9_method_7_code [0, 1, 2, 3, 4, 5, 8, 11, 12, 14, 17, 18, 21, 22, 23, 24, 27, 28, 29, 32, 35, 36, 37, 40, 41, 44, 45, 46, 47, 50, 57, 60, 61, 64, 65] (some 1, none)) = true := by decide +kernel
theorem hc_240_0 : (hWk hw_240_0 && hChk xTf_8 (hCw hvs hrt hw_240_0) true hd_240_0 prog_9_method_8_code [0, 1, 2, 3, 5, 8, 9, 10, 11, 12, 15, 18, 21, 22, 23, 24, 27, 30, 31] (some 1, none)) = true := by decide +kernel
theorem hc_241_0 : (hWk hw_241_0 && hChk xTf_8 (hCw hvs hrt hw_241_0) true hd_241_0 prog_9_method_9_code [0, 1, 3, 5, 7, 10, 12, 13, 16, 17, 18, 20, 21, 22, 25, 27, 29, 41, 43, 46, 47, 48, 51, 54, 55] (none, none)) = true := by decide +kernel
theorem hc_242_0 : (hWk hw_242_0 && hChk xTf_8 (hCw hvs hrt hw_242_0) true hd_242_0 prog_9_method_6_code [0, 1, 2, 3, 6, 7, 8, 11, 12, 13, 14, 17, 20, 21, 22, 23, 24, 25, 27, 29, 30, 33, 34, 37, 38, 40, 41, 44, 47, 50, 51, 53, 54, 57, 60, 63, 66, 68, 69, 70] (some 1, none)) = true := by decide +kernel
theorem hc_243_0 : (hWk hw_243_0 && hChk xTf_2 (hCw hvs hrt hw_243_0) true hd_243_0 prog_3_method_9_code [0, 1, 28, 29, 30, 31, 32, 33, 34, 35, 36, 37, 38, 39, 40, 41, 44, 45, 48, 49, 50, 51] (none, none)) = true := by decide +kernel
theorem hm_n {α : Type} {P : α → Prop} : ∀ p, p ∈ ([] : List α) → P p := fun p hp => absurd hp List.not_mem_nil
theorem hm_c {α : Type} {P : α → Prop} {a : α} {l : List α} (h : P a) (t : ∀ p, p ∈ l → P p) : ∀ p, p ∈ a :: l → P p := fun p hp => by
  rcases List.mem_cons.mp hp with e | e
  · rw [e]; exact h
  · exact t p e
theorem hg_0_0 : hGd hvs hrt (⟨"CapitalCase$History", "keep", "(LCapitalCase$Town;)V"⟩, prog_2_method_2_code, 3, none) (some 40, some 28) hw_0_0 (hrt 0) := by
  rw [show hrt 0 = false from by decide +kernel]
  exact Or.inl ⟨_, _, _, xo_1, hc_0_0⟩
theorem hg_1_0 : hGd hvs hrt (⟨"CapitalCase$History", "takeBack", "(LCapitalCase$Town;)Z"⟩, prog_2_method_3_code, 4, (some .boolean)) (some 40, some 28) hw_1_0 (hrt 1) := by
  rw [show hrt 1 = true from by decide +kernel]
  exact Or.inl ⟨_, _, _, xo_1, hc_1_0⟩
theorem hg_2_0 : hGd hvs hrt (⟨"CapitalCase$Judge", "givesLeave", "(LCapitalCase$Town;III)Z"⟩, prog_3_method_2_code, 5, (some .boolean)) (some 48, some 28) hw_2_0 (hrt 2) := by
  rw [show hrt 2 = true from by decide +kernel]
  exact Or.inl ⟨_, _, _, xo_2, hc_2_0⟩
theorem hg_2_1 : hGd hvs hrt (⟨"CapitalCase$Judge", "givesLeave", "(LCapitalCase$Town;III)Z"⟩, prog_3_method_2_code, 5, (some .boolean)) (some 48, some 34) hw_2_1 (hrt 2) := by
  rw [show hrt 2 = true from by decide +kernel]
  exact Or.inl ⟨_, _, _, xo_2, hc_2_1⟩
theorem hg_2_2 : hGd hvs hrt (⟨"CapitalCase$Judge", "givesLeave", "(LCapitalCase$Town;III)Z"⟩, prog_3_method_2_code, 5, (some .boolean)) (some 48, some 60) hw_2_2 (hrt 2) := by
  rw [show hrt 2 = true from by decide +kernel]
  exact Or.inl ⟨_, _, _, xo_2, hc_2_2⟩
theorem hg_3_0 : hGd hvs hrt (⟨"CapitalCase$Judge", "judge", "(I)I"⟩, prog_3_method_8_code, 6, (some .int)) (some 48, none) hw_3_0 (hrt 3) := by
  rw [show hrt 3 = true from by decide +kernel]
  exact Or.inl ⟨_, _, _, xo_2, hc_3_0⟩
theorem hg_4_0 : hGd hvs hrt (⟨"CapitalCase$Judge", "lookAtHouse", "(LCapitalCase$Town;II)V"⟩, prog_3_method_7_code, 5, none) (some 48, some 28) hw_4_0 (hrt 4) := by
  rw [show hrt 4 = false from by decide +kernel]
  exact Or.inl ⟨_, _, _, xo_2, hc_4_0⟩
theorem hg_4_1 : hGd hvs hrt (⟨"CapitalCase$Judge", "lookAtHouse", "(LCapitalCase$Town;II)V"⟩, prog_3_method_7_code, 5, none) (some 48, some 34) hw_4_1 (hrt 4) := by
  rw [show hrt 4 = false from by decide +kernel]
  exact Or.inl ⟨_, _, _, xo_2, hc_4_1⟩
theorem hg_4_2 : hGd hvs hrt (⟨"CapitalCase$Judge", "lookAtHouse", "(LCapitalCase$Town;II)V"⟩, prog_3_method_7_code, 5, none) (some 48, some 60) hw_4_2 (hrt 4) := by
  rw [show hrt 4 = false from by decide +kernel]
  exact Or.inl ⟨_, _, _, xo_2, hc_4_2⟩
theorem hg_5_0 : hGd hvs hrt (⟨"CapitalCase$Judge", "lookAtVerse", "(I)V"⟩, prog_3_method_6_code, 2, none) (some 48, none) hw_5_0 (hrt 5) := by
  rw [show hrt 5 = false from by decide +kernel]
  exact Or.inl ⟨_, _, _, xo_2, hc_5_0⟩
theorem hg_6_0 : hGd hvs hrt (⟨"CapitalCase$Judge", "pays", "(II)I"⟩, prog_3_method_5_code, 3, (some .int)) (some 48, none) hw_6_0 (hrt 6) := by
  rw [show hrt 6 = true from by decide +kernel]
  exact Or.inl ⟨_, _, _, xo_2, hc_6_0⟩
theorem hg_7_0 : hGd hvs hrt (⟨"CapitalCase$Judge", "rank", "(LCapitalCase$Town;III)I"⟩, prog_3_method_3_code, 5, (some .int)) (some 48, some 28) hw_7_0 (hrt 7) := by
  rw [show hrt 7 = true from by decide +kernel]
  exact Or.inl ⟨_, _, _, xo_2, hc_7_0⟩
theorem hg_7_1 : hGd hvs hrt (⟨"CapitalCase$Judge", "rank", "(LCapitalCase$Town;III)I"⟩, prog_3_method_3_code, 5, (some .int)) (some 48, some 34) hw_7_1 (hrt 7) := by
  rw [show hrt 7 = true from by decide +kernel]
  exact Or.inl ⟨_, _, _, xo_2, hc_7_1⟩
theorem hg_7_2 : hGd hvs hrt (⟨"CapitalCase$Judge", "rank", "(LCapitalCase$Town;III)I"⟩, prog_3_method_3_code, 5, (some .int)) (some 48, some 60) hw_7_2 (hrt 7) := by
  rw [show hrt 7 = true from by decide +kernel]
  exact Or.inl ⟨_, _, _, xo_2, hc_7_2⟩
theorem hg_8_0 : hGd hvs hrt (⟨"CapitalCase$Judge", "wears", "(LCapitalCase$Town;II)I"⟩, prog_3_method_4_code, 4, (some .int)) (some 48, some 28) hw_8_0 (hrt 8) := by
  rw [show hrt 8 = true from by decide +kernel]
  exact Or.inl ⟨_, _, _, xo_2, hc_8_0⟩
theorem hg_8_1 : hGd hvs hrt (⟨"CapitalCase$Judge", "wears", "(LCapitalCase$Town;II)I"⟩, prog_3_method_4_code, 4, (some .int)) (some 48, some 34) hw_8_1 (hrt 8) := by
  rw [show hrt 8 = true from by decide +kernel]
  exact Or.inl ⟨_, _, _, xo_2, hc_8_1⟩
theorem hg_8_2 : hGd hvs hrt (⟨"CapitalCase$Judge", "wears", "(LCapitalCase$Town;II)I"⟩, prog_3_method_4_code, 4, (some .int)) (some 48, some 60) hw_8_2 (hrt 8) := by
  rw [show hrt 8 = true from by decide +kernel]
  exact Or.inl ⟨_, _, _, xo_2, hc_8_2⟩
theorem hg_9_0 : hGd hvs hrt (⟨"CapitalCase$Parser", "accept", "(I)Z"⟩, prog_4_method_5_code, 2, (some .boolean)) (some 12, none) hw_9_0 (hrt 9) := by
  rw [show hrt 9 = true from by decide +kernel]
  exact Or.inl ⟨_, _, _, xo_3, hc_9_0⟩
theorem hg_10_0 : hGd hvs hrt (⟨"CapitalCase$Parser", "fail", "(I)Z"⟩, prog_4_method_4_code, 2, (some .boolean)) (some 12, none) hw_10_0 (hrt 10) := by
  rw [show hrt 10 = true from by decide +kernel]
  exact Or.inl ⟨_, _, _, xo_3, hc_10_0⟩
theorem hg_11_0 : hGd hvs hrt (⟨"CapitalCase$Parser", "intOf", "(III)I"⟩, prog_4_method_14_code, 6, (some .int)) (some 12, none) hw_11_0 (hrt 11) := by
  rw [show hrt 11 = true from by decide +kernel]
  exact Or.inl ⟨_, _, _, xo_3, hc_11_0⟩
theorem hg_12_0 : hGd hvs hrt (⟨"CapitalCase$Parser", "isSame", "(II)Z"⟩, prog_4_method_11_code, 4, (some .boolean)) (some 12, none) hw_12_0 (hrt 12) := by
  rw [show hrt 12 = true from by decide +kernel]
  exact Or.inl ⟨_, _, _, xo_3, hc_12_0⟩
theorem hg_13_0 : hGd hvs hrt (⟨"CapitalCase$Parser", "next", "()I"⟩, prog_4_method_3_code, 1, (some .int)) (some 12, none) hw_13_0 (hrt 13) := by
  rw [show hrt 13 = true from by decide +kernel]
  exact Or.inl ⟨_, _, _, xo_3, hc_13_0⟩
theorem hg_14_0 : hGd hvs hrt (⟨"CapitalCase$Parser", "noteLater", "(ZII)V"⟩, prog_4_method_6_code, 4, none) (some 12, none) hw_14_0 (hrt 14) := by
  rw [show hrt 14 = false from by decide +kernel]
  exact Or.inl ⟨_, _, _, xo_3, hc_14_0⟩
theorem hg_15_0 : hGd hvs hrt (⟨"CapitalCase$Parser", "noteName", "(I)V"⟩, prog_4_method_10_code, 3, none) (some 12, none) hw_15_0 (hrt 15) := by
  rw [show hrt 15 = false from by decide +kernel]
  exact Or.inl ⟨_, _, _, xo_3, hc_15_0⟩
theorem hg_16_0 : hGd hvs hrt (⟨"CapitalCase$Parser", "parse", "(I)I"⟩, prog_4_method_2_code, 3, (some .int)) (some 12, none) hw_16_0 (hrt 16) := by
  rw [show hrt 16 = true from by decide +kernel]
  exact Or.inl ⟨_, _, _, xo_3, hc_16_0⟩
theorem hg_17_0 : hGd hvs hrt (⟨"CapitalCase$Parser", "parseHouse", "()V"⟩, prog_4_method_7_code, 4, none) (some 12, none) hw_17_0 (hrt 17) := by
  rw [show hrt 17 = false from by decide +kernel]
  exact Or.inl ⟨_, _, _, xo_3, hc_17_0⟩
theorem hg_18_0 : hGd hvs hrt (⟨"CapitalCase$Parser", "parseLaw", "(I)V"⟩, prog_4_method_15_code, 5, none) (some 12, none) hw_18_0 (hrt 18) := by
  rw [show hrt 18 = false from by decide +kernel]
  exact Or.inl ⟨_, _, _, xo_3, hc_18_0⟩
theorem hg_19_0 : hGd hvs hrt (⟨"CapitalCase$Parser", "parseNumber", "(I)V"⟩, prog_4_method_9_code, 3, none) (some 12, none) hw_19_0 (hrt 19) := by
  rw [show hrt 19 = false from by decide +kernel]
  exact Or.inl ⟨_, _, _, xo_3, hc_19_0⟩
theorem hg_20_0 : hGd hvs hrt (⟨"CapitalCase$Parser", "parseVerse", "()V"⟩, prog_4_method_8_code, 5, none) (some 12, none) hw_20_0 (hrt 20) := by
  rw [show hrt 20 = false from by decide +kernel]
  exact Or.inl ⟨_, _, _, xo_3, hc_20_0⟩
theorem hg_21_0 : hGd hvs hrt (⟨"CapitalCase$Planner", "giveUp", "(II)V"⟩, prog_5_method_6_code, 5, none) (some 52, none) hw_21_0 (hrt 21) := by
  rw [show hrt 21 = false from by decide +kernel]
  exact Or.inl ⟨_, _, _, xo_4, hc_21_0⟩
theorem hg_21_1 : hGd hvs hrt (⟨"CapitalCase$Planner", "giveUp", "(II)V"⟩, prog_5_method_6_code, 5, none) (some 67, none) hw_21_1 (hrt 21) := by
  rw [show hrt 21 = false from by decide +kernel]
  exact Or.inl ⟨_, _, _, xo_4, hc_21_1⟩
theorem hg_22_0 : hGd hvs hrt (⟨"CapitalCase$Planner", "keepIfMore", "(II)V"⟩, prog_5_method_10_code, 3, none) (some 52, none) hw_22_0 (hrt 22) := by
  rw [show hrt 22 = false from by decide +kernel]
  exact Or.inl ⟨_, _, _, xo_4, hc_22_0⟩
theorem hg_22_1 : hGd hvs hrt (⟨"CapitalCase$Planner", "keepIfMore", "(II)V"⟩, prog_5_method_10_code, 3, none) (some 67, none) hw_22_1 (hrt 22) := by
  rw [show hrt 22 = false from by decide +kernel]
  exact Or.inl ⟨_, _, _, xo_4, hc_22_1⟩
theorem hg_23_0 : hGd hvs hrt (⟨"CapitalCase$Planner", "lastOf", "(I)I"⟩, prog_5_method_11_code, 2, (some .int)) (none, none) hw_23_0 (hrt 23) := by
  rw [show hrt 23 = true from by decide +kernel]
  exact Or.inl ⟨_, _, _, xo_4, hc_23_0⟩
theorem hg_24_0 : hGd hvs hrt (⟨"CapitalCase$Planner", "orderGivers", "(LCapitalCase$Town;II)V"⟩, prog_5_method_3_code, 9, none) (some 52, some 28) hw_24_0 (hrt 24) := by
  rw [show hrt 24 = false from by decide +kernel]
  exact Or.inl ⟨_, _, _, xo_4, hc_24_0⟩
theorem hg_24_1 : hGd hvs hrt (⟨"CapitalCase$Planner", "orderGivers", "(LCapitalCase$Town;II)V"⟩, prog_5_method_3_code, 9, none) (some 52, some 34) hw_24_1 (hrt 24) := by
  rw [show hrt 24 = false from by decide +kernel]
  exact Or.inl ⟨_, _, _, xo_4, hc_24_1⟩
theorem hg_24_2 : hGd hvs hrt (⟨"CapitalCase$Planner", "orderGivers", "(LCapitalCase$Town;II)V"⟩, prog_5_method_3_code, 9, none) (some 67, some 60) hw_24_2 (hrt 24) := by
  rw [show hrt 24 = false from by decide +kernel]
  exact Or.inl ⟨_, _, _, xo_4, hc_24_2⟩
theorem hg_25_0 : hGd hvs hrt (⟨"CapitalCase$Planner", "pick", "(II)I"⟩, prog_5_method_5_code, 7, (some .int)) (some 52, none) hw_25_0 (hrt 25) := by
  rw [show hrt 25 = true from by decide +kernel]
  exact Or.inl ⟨_, _, _, xo_4, hc_25_0⟩
theorem hg_25_1 : hGd hvs hrt (⟨"CapitalCase$Planner", "pick", "(II)I"⟩, prog_5_method_5_code, 7, (some .int)) (some 67, none) hw_25_1 (hrt 25) := by
  rw [show hrt 25 = true from by decide +kernel]
  exact Or.inl ⟨_, _, _, xo_4, hc_25_1⟩
theorem hg_26_0 : hGd hvs hrt (⟨"CapitalCase$Planner", "prepare", "(LCapitalCase$Town;I)V"⟩, prog_5_method_2_code, 5, none) (some 52, some 28) hw_26_0 (hrt 26) := by
  rw [show hrt 26 = false from by decide +kernel]
  exact Or.inl ⟨_, _, _, xo_4, hc_26_0⟩
theorem hg_26_1 : hGd hvs hrt (⟨"CapitalCase$Planner", "prepare", "(LCapitalCase$Town;I)V"⟩, prog_5_method_2_code, 5, none) (some 52, some 34) hw_26_1 (hrt 26) := by
  rw [show hrt 26 = false from by decide +kernel]
  exact Or.inl ⟨_, _, _, xo_4, hc_26_1⟩
theorem hg_26_2 : hGd hvs hrt (⟨"CapitalCase$Planner", "prepare", "(LCapitalCase$Town;I)V"⟩, prog_5_method_2_code, 5, none) (some 67, some 60) hw_26_2 (hrt 26) := by
  rw [show hrt 26 = false from by decide +kernel]
  exact Or.inl ⟨_, _, _, xo_4, hc_26_2⟩
theorem hg_27_0 : hGd hvs hrt (⟨"CapitalCase$Planner", "search", "()V"⟩, prog_5_method_9_code, 6, none) (some 52, none) hw_27_0 (hrt 27) := by
  rw [show hrt 27 = false from by decide +kernel]
  exact Or.inl ⟨_, _, _, xo_4, hc_27_0⟩
theorem hg_27_1 : hGd hvs hrt (⟨"CapitalCase$Planner", "search", "()V"⟩, prog_5_method_9_code, 6, none) (some 67, none) hw_27_1 (hrt 27) := by
  rw [show hrt 27 = false from by decide +kernel]
  exact Or.inl ⟨_, _, _, xo_4, hc_27_1⟩
theorem hg_28_0 : hGd hvs hrt (⟨"CapitalCase$Planner", "seek", "(LCapitalCase$Town;)V"⟩, prog_5_method_7_code, 2, none) (some 52, some 28) hw_28_0 (hrt 28) := by
  rw [show hrt 28 = false from by decide +kernel]
  exact Or.inl ⟨_, _, _, xo_4, hc_28_0⟩
theorem hg_28_1 : hGd hvs hrt (⟨"CapitalCase$Planner", "seek", "(LCapitalCase$Town;)V"⟩, prog_5_method_7_code, 2, none) (some 52, some 34) hw_28_1 (hrt 28) := by
  rw [show hrt 28 = false from by decide +kernel]
  exact Or.inl ⟨_, _, _, xo_4, hc_28_1⟩
theorem hg_28_2 : hGd hvs hrt (⟨"CapitalCase$Planner", "seek", "(LCapitalCase$Town;)V"⟩, prog_5_method_7_code, 2, none) (some 67, some 60) hw_28_2 (hrt 28) := by
  rw [show hrt 28 = false from by decide +kernel]
  exact Or.inl ⟨_, _, _, xo_4, hc_28_2⟩
theorem hg_29_0 : hGd hvs hrt (⟨"CapitalCase$Planner", "seekWithout", "(LCapitalCase$Town;I)V"⟩, prog_5_method_8_code, 4, none) (some 52, some 28) hw_29_0 (hrt 29) := by
  rw [show hrt 29 = false from by decide +kernel]
  exact Or.inl ⟨_, _, _, xo_4, hc_29_0⟩
theorem hg_30_0 : hGd hvs hrt (⟨"CapitalCase$Planner", "take", "(I)Z"⟩, prog_5_method_4_code, 5, (some .boolean)) (some 52, none) hw_30_0 (hrt 30) := by
  rw [show hrt 30 = true from by decide +kernel]
  exact Or.inl ⟨_, _, _, xo_4, hc_30_0⟩
theorem hg_30_1 : hGd hvs hrt (⟨"CapitalCase$Planner", "take", "(I)Z"⟩, prog_5_method_4_code, 5, (some .boolean)) (some 67, none) hw_30_1 (hrt 30) := by
  rw [show hrt 30 = true from by decide +kernel]
  exact Or.inl ⟨_, _, _, xo_4, hc_30_1⟩
theorem hg_31_0 : hGd hvs hrt (⟨"CapitalCase$Press", "daysTillWornOut", "(LCapitalCase$Town;II)I"⟩, prog_6_method_10_code, 5, (some .int)) (some 51, some 34) hw_31_0 (hrt 31) := by
  rw [show hrt 31 = true from by decide +kernel]
  exact Or.inl ⟨_, _, _, xo_5, hc_31_0⟩
theorem hg_32_0 : hGd hvs hrt (⟨"CapitalCase$Press", "lot", "(III)I"⟩, prog_6_method_8_code, 4, (some .int)) (none, none) hw_32_0 (hrt 32) := by
  rw [show hrt 32 = true from by decide +kernel]
  exact Or.inl ⟨_, _, _, xo_5, hc_32_0⟩
theorem hg_33_0 : hGd hvs hrt (⟨"CapitalCase$Press", "mix", "(II)I"⟩, prog_6_method_9_code, 3, (some .int)) (none, none) hw_33_0 (hrt 33) := by
  rw [show hrt 33 = true from by decide +kernel]
  exact Or.inl ⟨_, _, _, xo_5, hc_33_0⟩
theorem hg_34_0 : hGd hvs hrt (⟨"CapitalCase$Press", "owed", "(LCapitalCase$Town;)I"⟩, prog_6_method_3_code, 4, (some .int)) (some 51, some 28) hw_34_0 (hrt 34) := by
  rw [show hrt 34 = true from by decide +kernel]
  exact Or.inl ⟨_, _, _, xo_5, hc_34_0⟩
theorem hg_34_1 : hGd hvs hrt (⟨"CapitalCase$Press", "owed", "(LCapitalCase$Town;)I"⟩, prog_6_method_3_code, 4, (some .int)) (some 51, some 34) hw_34_1 (hrt 34) := by
  rw [show hrt 34 = true from by decide +kernel]
  exact Or.inl ⟨_, _, _, xo_5, hc_34_1⟩
theorem hg_34_2 : hGd hvs hrt (⟨"CapitalCase$Press", "owed", "(LCapitalCase$Town;)I"⟩, prog_6_method_3_code, 4, (some .int)) (some 51, some 60) hw_34_2 (hrt 34) := by
  rw [show hrt 34 = true from by decide +kernel]
  exact Or.inl ⟨_, _, _, xo_5, hc_34_2⟩
theorem hg_35_0 : hGd hvs hrt (⟨"CapitalCase$Press", "passDays", "(LCapitalCase$Town;II)V"⟩, prog_6_method_2_code, 5, none) (some 51, some 28) hw_35_0 (hrt 35) := by
  rw [show hrt 35 = false from by decide +kernel]
  exact Or.inl ⟨_, _, _, xo_5, hc_35_0⟩
theorem hg_35_1 : hGd hvs hrt (⟨"CapitalCase$Press", "passDays", "(LCapitalCase$Town;II)V"⟩, prog_6_method_2_code, 5, none) (some 51, some 34) hw_35_1 (hrt 35) := by
  rw [show hrt 35 = false from by decide +kernel]
  exact Or.inl ⟨_, _, _, xo_5, hc_35_1⟩
theorem hg_36_0 : hGd hvs hrt (⟨"CapitalCase$Press", "steal", "(LCapitalCase$Town;I)V"⟩, prog_6_method_7_code, 6, none) (some 51, some 28) hw_36_0 (hrt 36) := by
  rw [show hrt 36 = false from by decide +kernel]
  exact Or.inl ⟨_, _, _, xo_5, hc_36_0⟩
theorem hg_36_1 : hGd hvs hrt (⟨"CapitalCase$Press", "steal", "(LCapitalCase$Town;I)V"⟩, prog_6_method_7_code, 6, none) (some 51, some 34) hw_36_1 (hrt 36) := by
  rw [show hrt 36 = false from by decide +kernel]
  exact Or.inl ⟨_, _, _, xo_5, hc_36_1⟩
theorem hg_37_0 : hGd hvs hrt (⟨"CapitalCase$Press", "thievesCome", "(II)Z"⟩, prog_6_method_6_code, 3, (some .boolean)) (some 51, none) hw_37_0 (hrt 37) := by
  rw [show hrt 37 = true from by decide +kernel]
  exact Or.inl ⟨_, _, _, xo_5, hc_37_0⟩
theorem hg_38_0 : hGd hvs hrt (⟨"CapitalCase$Press", "wear", "(LCapitalCase$Town;II)Z"⟩, prog_6_method_5_code, 6, (some .boolean)) (some 51, some 28) hw_38_0 (hrt 38) := by
  rw [show hrt 38 = true from by decide +kernel]
  exact Or.inl ⟨_, _, _, xo_5, hc_38_0⟩
theorem hg_38_1 : hGd hvs hrt (⟨"CapitalCase$Press", "wear", "(LCapitalCase$Town;II)Z"⟩, prog_6_method_5_code, 6, (some .boolean)) (some 51, some 34) hw_38_1 (hrt 38) := by
  rw [show hrt 38 = true from by decide +kernel]
  exact Or.inl ⟨_, _, _, xo_5, hc_38_1⟩
theorem hg_38_2 : hGd hvs hrt (⟨"CapitalCase$Press", "wear", "(LCapitalCase$Town;II)Z"⟩, prog_6_method_5_code, 6, (some .boolean)) (some 51, some 60) hw_38_2 (hrt 38) := by
  rw [show hrt 38 = true from by decide +kernel]
  exact Or.inl ⟨_, _, _, xo_5, hc_38_2⟩
theorem hg_39_0 : hGd hvs hrt (⟨"CapitalCase$Press", "work", "(LCapitalCase$Town;)V"⟩, prog_6_method_4_code, 4, none) (some 51, some 28) hw_39_0 (hrt 39) := by
  rw [show hrt 39 = false from by decide +kernel]
  exact Or.inl ⟨_, _, _, xo_5, hc_39_0⟩
theorem hg_39_1 : hGd hvs hrt (⟨"CapitalCase$Press", "work", "(LCapitalCase$Town;)V"⟩, prog_6_method_4_code, 4, none) (some 51, some 34) hw_39_1 (hrt 39) := by
  rw [show hrt 39 = false from by decide +kernel]
  exact Or.inl ⟨_, _, _, xo_5, hc_39_1⟩
theorem hg_39_2 : hGd hvs hrt (⟨"CapitalCase$Press", "work", "(LCapitalCase$Town;)V"⟩, prog_6_method_4_code, 4, none) (some 51, some 60) hw_39_2 (hrt 39) := by
  rw [show hrt 39 = false from by decide +kernel]
  exact Or.inl ⟨_, _, _, xo_5, hc_39_2⟩
theorem hg_40_0 : hGd hvs hrt (⟨"CapitalCase$Prints", "left", "(LCapitalCase$Town;II)I"⟩, prog_7_method_3_code, 8, (some .int)) (some 44, some 28) hw_40_0 (hrt 40) := by
  rw [show hrt 40 = true from by decide +kernel]
  exact Or.inl ⟨_, _, _, xo_6, hc_40_0⟩
theorem hg_41_0 : hGd hvs hrt (⟨"CapitalCase$Prints", "letterToAsk", "(LCapitalCase$Town;II)I"⟩, prog_7_method_4_code, 9, (some .int)) (some 44, some 28) hw_41_0 (hrt 41) := by
  rw [show hrt 41 = true from by decide +kernel]
  exact Or.inl ⟨_, _, _, xo_6, hc_41_0⟩
theorem hg_42_0 : hGd hvs hrt (⟨"CapitalCase$Prints", "note", "(IIZ)I"⟩, prog_7_method_2_code, 4, (some .int)) (some 44, none) hw_42_0 (hrt 42) := by
  rw [show hrt 42 = true from by decide +kernel]
  exact Or.inl ⟨_, _, _, xo_6, hc_42_0⟩
theorem hg_43_0 : hGd hvs hrt (⟨"CapitalCase$Script", "add", "(II)V"⟩, prog_8_method_4_code, 3, none) (some 13, none) hw_43_0 (hrt 43) := by
  rw [show hrt 43 = false from by decide +kernel]
  exact Or.inl ⟨_, _, _, xo_7, hc_43_0⟩
theorem hg_44_0 : hGd hvs hrt (⟨"CapitalCase$Script", "become", "(LCapitalCase$Script;)V"⟩, prog_8_method_6_code, 2, none) (some 2, some 13) hw_44_0 (hrt 44) := by
  rw [show hrt 44 = false from by decide +kernel]
  exact Or.inl ⟨_, _, _, xo_7, hc_44_0⟩
theorem hg_45_0 : hGd hvs hrt (⟨"CapitalCase$Script", "layDown", "(III)V"⟩, prog_8_method_3_code, 4, none) (some 13, none) hw_45_0 (hrt 45) := by
  rw [show hrt 45 = false from by decide +kernel]
  exact Or.inl ⟨_, _, _, xo_7, hc_45_0⟩
theorem hg_46_0 : hGd hvs hrt (⟨"CapitalCase$Script", "lettersOf", "(I)I"⟩, prog_8_method_7_code, 4, (some .int)) (some 2, none) hw_46_0 (hrt 46) := by
  rw [show hrt 46 = true from by decide +kernel]
  exact Or.inl ⟨_, _, _, xo_7, hc_46_0⟩
theorem hg_47_0 : hGd hvs hrt (⟨"CapitalCase$Script", "wipe", "()V"⟩, prog_8_method_2_code, 1, none) (some 13, none) hw_47_0 (hrt 47) := by
  rw [show hrt 47 = false from by decide +kernel]
  exact Or.inl ⟨_, _, _, xo_7, hc_47_0⟩
theorem hg_48_0 : hGd hvs hrt (⟨"CapitalCase$Tokens", "scan", "([BI)V"⟩, prog_9_method_2_code, 5, none) (some 23, some 1) hw_48_0 (hrt 48) := by
  rw [show hrt 48 = false from by decide +kernel]
  exact Or.inl ⟨_, _, _, xo_8, hc_48_0⟩
theorem hg_49_0 : hGd hvs hrt (⟨"CapitalCase$Town", "become", "(LCapitalCase$Town;)V"⟩, prog_10_method_3_code, 2, none) (some 28, none) hw_49_0 (hrt 49) := by
  rw [show hrt 49 = false from by decide +kernel]
  exact Or.inl ⟨_, _, _, xo_9, hc_49_0⟩
theorem hg_49_1 : hGd hvs hrt (⟨"CapitalCase$Town", "become", "(LCapitalCase$Town;)V"⟩, prog_10_method_3_code, 2, none) (some 34, some 28) hw_49_1 (hrt 49) := by
  rw [show hrt 49 = false from by decide +kernel]
  exact Or.inl ⟨_, _, _, xo_9, hc_49_1⟩
theorem hg_49_2 : hGd hvs hrt (⟨"CapitalCase$Town", "become", "(LCapitalCase$Town;)V"⟩, prog_10_method_3_code, 2, none) (some 60, some 28) hw_49_2 (hrt 49) := by
  rw [show hrt 49 = false from by decide +kernel]
  exact Or.inl ⟨_, _, _, xo_9, hc_49_2⟩
theorem hg_49_3 : hGd hvs hrt (⟨"CapitalCase$Town", "become", "(LCapitalCase$Town;)V"⟩, prog_10_method_3_code, 2, none) (none, none) hw_49_3 (hrt 49) := by
  rw [show hrt 49 = false from by decide +kernel]
  exact Or.inl ⟨_, _, _, xo_9, hc_49_3⟩
theorem hg_50_0 : hGd hvs hrt (⟨"CapitalCase$Town", "begin", "(LCapitalCase$Script;)V"⟩, prog_10_method_2_code, 2, none) (some 28, some 2) hw_50_0 (hrt 50) := by
  rw [show hrt 50 = false from by decide +kernel]
  exact Or.inl ⟨_, _, _, xo_9, hc_50_0⟩
theorem hg_51_0 : hGd hvs hrt (⟨"CapitalCase$Town", "free", "(I)I"⟩, prog_10_method_4_code, 2, (some .int)) (some 28, none) hw_51_0 (hrt 51) := by
  rw [show hrt 51 = true from by decide +kernel]
  exact Or.inl ⟨_, _, _, xo_9, hc_51_0⟩
theorem hg_51_1 : hGd hvs hrt (⟨"CapitalCase$Town", "free", "(I)I"⟩, prog_10_method_4_code, 2, (some .int)) (some 34, none) hw_51_1 (hrt 51) := by
  rw [show hrt 51 = true from by decide +kernel]
  exact Or.inl ⟨_, _, _, xo_9, hc_51_1⟩
theorem hg_51_2 : hGd hvs hrt (⟨"CapitalCase$Town", "free", "(I)I"⟩, prog_10_method_4_code, 2, (some .int)) (some 60, none) hw_51_2 (hrt 51) := by
  rw [show hrt 51 = true from by decide +kernel]
  exact Or.inl ⟨_, _, _, xo_9, hc_51_2⟩
theorem hg_52_0 : hGd hvs hrt (⟨"CapitalCase$Town", "lay", "(LCapitalCase$Script;I[I)V"⟩, prog_10_method_8_code, 6, none) (some 28, some 2) hw_52_0 (hrt 52) := by
  rw [show hrt 52 = false from by decide +kernel]
  exact Or.inl ⟨_, _, _, xo_9, hc_52_0⟩
theorem hg_52_1 : hGd hvs hrt (⟨"CapitalCase$Town", "lay", "(LCapitalCase$Script;I[I)V"⟩, prog_10_method_8_code, 6, none) (some 60, some 2) hw_52_1 (hrt 52) := by
  rw [show hrt 52 = false from by decide +kernel]
  exact Or.inl ⟨_, _, _, xo_9, hc_52_1⟩
theorem hg_53_0 : hGd hvs hrt (⟨"CapitalCase$Town", "lentBy", "(II)I"⟩, prog_10_method_5_code, 5, (some .int)) (some 28, none) hw_53_0 (hrt 53) := by
  rw [show hrt 53 = true from by decide +kernel]
  exact Or.inl ⟨_, _, _, xo_9, hc_53_0⟩
theorem hg_53_1 : hGd hvs hrt (⟨"CapitalCase$Town", "lentBy", "(II)I"⟩, prog_10_method_5_code, 5, (some .int)) (some 34, none) hw_53_1 (hrt 53) := by
  rw [show hrt 53 = true from by decide +kernel]
  exact Or.inl ⟨_, _, _, xo_9, hc_53_1⟩
theorem hg_53_2 : hGd hvs hrt (⟨"CapitalCase$Town", "lentBy", "(II)I"⟩, prog_10_method_5_code, 5, (some .int)) (some 60, none) hw_53_2 (hrt 53) := by
  rw [show hrt 53 = true from by decide +kernel]
  exact Or.inl ⟨_, _, _, xo_9, hc_53_2⟩
theorem hg_54_0 : hGd hvs hrt (⟨"CapitalCase$Town", "lentTo", "(II)I"⟩, prog_10_method_6_code, 5, (some .int)) (some 28, none) hw_54_0 (hrt 54) := by
  rw [show hrt 54 = true from by decide +kernel]
  exact Or.inl ⟨_, _, _, xo_9, hc_54_0⟩
theorem hg_55_0 : hGd hvs hrt (⟨"CapitalCase$Town", "lift", "(LCapitalCase$Script;I)V"⟩, prog_10_method_9_code, 5, none) (some 28, some 2) hw_55_0 (hrt 55) := by
  rw [show hrt 55 = false from by decide +kernel]
  exact Or.inl ⟨_, _, _, xo_9, hc_55_0⟩
theorem hg_55_1 : hGd hvs hrt (⟨"CapitalCase$Town", "lift", "(LCapitalCase$Script;I)V"⟩, prog_10_method_9_code, 5, none) (some 60, some 2) hw_55_1 (hrt 55) := by
  rw [show hrt 55 = false from by decide +kernel]
  exact Or.inl ⟨_, _, _, xo_9, hc_55_1⟩
theorem hg_56_0 : hGd hvs hrt (⟨"CapitalCase$Town", "lose", "(I)Z"⟩, prog_10_method_11_code, 2, (some .boolean)) (some 28, none) hw_56_0 (hrt 56) := by
  rw [show hrt 56 = true from by decide +kernel]
  exact Or.inl ⟨_, _, _, xo_9, hc_56_0⟩
theorem hg_56_1 : hGd hvs hrt (⟨"CapitalCase$Town", "lose", "(I)Z"⟩, prog_10_method_11_code, 2, (some .boolean)) (some 34, none) hw_56_1 (hrt 56) := by
  rw [show hrt 56 = true from by decide +kernel]
  exact Or.inl ⟨_, _, _, xo_9, hc_56_1⟩
theorem hg_56_2 : hGd hvs hrt (⟨"CapitalCase$Town", "lose", "(I)Z"⟩, prog_10_method_11_code, 2, (some .boolean)) (some 60, none) hw_56_2 (hrt 56) := by
  rw [show hrt 56 = true from by decide +kernel]
  exact Or.inl ⟨_, _, _, xo_9, hc_56_2⟩
theorem hg_57_0 : hGd hvs hrt (⟨"CapitalCase$Town", "move", "(III)V"⟩, prog_10_method_10_code, 4, none) (some 28, none) hw_57_0 (hrt 57) := by
  rw [show hrt 57 = false from by decide +kernel]
  exact Or.inl ⟨_, _, _, xo_9, hc_57_0⟩
theorem hg_58_0 : hGd hvs hrt (⟨"CapitalCase$Town", "open", "(I)I"⟩, prog_10_method_7_code, 2, (some .int)) (some 28, none) hw_58_0 (hrt 58) := by
  rw [show hrt 58 = true from by decide +kernel]
  exact Or.inl ⟨_, _, _, xo_9, hc_58_0⟩
theorem hg_58_1 : hGd hvs hrt (⟨"CapitalCase$Town", "open", "(I)I"⟩, prog_10_method_7_code, 2, (some .int)) (some 34, none) hw_58_1 (hrt 58) := by
  rw [show hrt 58 = true from by decide +kernel]
  exact Or.inl ⟨_, _, _, xo_9, hc_58_1⟩
theorem hg_58_2 : hGd hvs hrt (⟨"CapitalCase$Town", "open", "(I)I"⟩, prog_10_method_7_code, 2, (some .int)) (some 60, none) hw_58_2 (hrt 58) := by
  rw [show hrt 58 = true from by decide +kernel]
  exact Or.inl ⟨_, _, _, xo_9, hc_58_2⟩
theorem hg_59_0 : hGd hvs hrt (⟨"CapitalCase$Trade", "freeElsewhere", "(LCapitalCase$Town;II)I"⟩, prog_11_method_3_code, 6, (some .int)) (some 74, some 28) hw_59_0 (hrt 59) := by
  rw [show hrt 59 = true from by decide +kernel]
  exact Or.inl ⟨_, _, _, xo_10, hc_59_0⟩
theorem hg_60_0 : hGd hvs hrt (⟨"CapitalCase$Trade", "gains", "(LCapitalCase$Town;III)Z"⟩, prog_11_method_6_code, 5, (some .boolean)) (some 74, some 28) hw_60_0 (hrt 60) := by
  rw [show hrt 60 = true from by decide +kernel]
  exact Or.inl ⟨_, _, _, xo_10, hc_60_0⟩
theorem hg_61_0 : hGd hvs hrt (⟨"CapitalCase$Trade", "loansFor", "(LCapitalCase$Town;II)I"⟩, prog_11_method_2_code, 9, (some .int)) (some 74, some 28) hw_61_0 (hrt 61) := by
  rw [show hrt 61 = true from by decide +kernel]
  exact Or.inl ⟨_, _, _, xo_10, hc_61_0⟩
theorem hg_62_0 : hGd hvs hrt (⟨"CapitalCase$Trade", "seekBargains", "(LCapitalCase$Town;)V"⟩, prog_11_method_4_code, 4, none) (some 74, some 28) hw_62_0 (hrt 62) := by
  rw [show hrt 62 = false from by decide +kernel]
  exact Or.inl ⟨_, _, _, xo_10, hc_62_0⟩
theorem hg_63_0 : hGd hvs hrt (⟨"CapitalCase$Trade", "seekBetween", "(LCapitalCase$Town;II)V"⟩, prog_11_method_5_code, 6, none) (some 74, some 28) hw_63_0 (hrt 63) := by
  rw [show hrt 63 = false from by decide +kernel]
  exact Or.inl ⟨_, _, _, xo_10, hc_63_0⟩
theorem hg_64_0 : hGd hvs hrt (⟨"CapitalCase$Trade", "versesAlone", "(LCapitalCase$Town;III)I"⟩, prog_11_method_7_code, 12, (some .int)) (some 74, some 28) hw_64_0 (hrt 64) := by
  rw [show hrt 64 = true from by decide +kernel]
  exact Or.inl ⟨_, _, _, xo_10, hc_64_0⟩
theorem hg_65_0 : hGd hvs hrt (⟨"CapitalCase$TwoDays", "giveUpAll", "(I)V"⟩, prog_12_method_5_code, 3, none) (some 59, none) hw_65_0 (hrt 65) := by
  rw [show hrt 65 = false from by decide +kernel]
  exact Or.inl ⟨_, _, _, xo_11, hc_65_0⟩
theorem hg_66_0 : hGd hvs hrt (⟨"CapitalCase$TwoDays", "passFirst", "(LCapitalCase$Town;I)V"⟩, prog_12_method_6_code, 4, none) (some 59, some 28) hw_66_0 (hrt 66) := by
  rw [show hrt 66 = false from by decide +kernel]
  exact Or.inl ⟨_, _, _, xo_11, hc_66_0⟩
theorem hg_67_0 : hGd hvs hrt (⟨"CapitalCase$TwoDays", "seek", "(LCapitalCase$Town;)V"⟩, prog_12_method_2_code, 6, none) (some 59, some 28) hw_67_0 (hrt 67) := by
  rw [show hrt 67 = false from by decide +kernel]
  exact Or.inl ⟨_, _, _, xo_11, hc_67_0⟩
theorem hg_68_0 : hGd hvs hrt (⟨"CapitalCase$TwoDays", "takeAll", "(I)Z"⟩, prog_12_method_4_code, 3, (some .boolean)) (some 59, none) hw_68_0 (hrt 68) := by
  rw [show hrt 68 = true from by decide +kernel]
  exact Or.inl ⟨_, _, _, xo_11, hc_68_0⟩
theorem hg_69_0 : hGd hvs hrt (⟨"CapitalCase$TwoDays", "total", "([II)I"⟩, prog_12_method_3_code, 5, (some .int)) (some 59, some 2003) hw_69_0 (hrt 69) := by
  rw [show hrt 69 = true from by decide +kernel]
  exact Or.inl ⟨_, _, _, xo_11, hc_69_0⟩
theorem hg_69_1 : hGd hvs hrt (⟨"CapitalCase$TwoDays", "total", "([II)I"⟩, prog_12_method_3_code, 5, (some .int)) (some 59, some 66) hw_69_1 (hrt 69) := by
  rw [show hrt 69 = true from by decide +kernel]
  exact Or.inl ⟨_, _, _, xo_11, hc_69_1⟩
theorem hg_70_0 : hGd hvs hrt (⟨"CapitalCase", "append", "(I)V"⟩, prog_1_method_3_code, 3, none) (some 0, none) hw_70_0 (hrt 70) := by
  rw [show hrt 70 = false from by decide +kernel]
  exact Or.inl ⟨_, _, _, xo_0, hc_70_0⟩
theorem hg_71_0 : hGd hvs hrt (⟨"CapitalCase", "ask", "(II)I"⟩, prog_1_method_41_code, 3, (some .int)) (some 0, none) hw_71_0 (hrt 71) := by
  rw [show hrt 71 = true from by decide +kernel]
  exact Or.inl ⟨_, _, _, xo_0, hc_71_0⟩
theorem hg_72_0 : hGd hvs hrt (⟨"CapitalCase", "back", "(I)I"⟩, prog_1_method_4_code, 2, (some .int)) (some 0, none) hw_72_0 (hrt 72) := by
  rw [show hrt 72 = true from by decide +kernel]
  exact Or.inl ⟨_, _, _, xo_0, hc_72_0⟩
theorem hg_73_0 : hGd hvs hrt (⟨"CapitalCase", "bargains", "(I)I"⟩, prog_1_method_30_code, 2, (some .int)) (some 0, none) hw_73_0 (hrt 73) := by
  rw [show hrt 73 = true from by decide +kernel]
  exact Or.inl ⟨_, _, _, xo_0, hc_73_0⟩
theorem hg_74_0 : hGd hvs hrt (⟨"CapitalCase", "beginAnew", "()V"⟩, prog_1_method_6_code, 2, none) (some 0, none) hw_74_0 (hrt 74) := by
  rw [show hrt 74 = false from by decide +kernel]
  exact Or.inl ⟨_, _, _, xo_0, hc_74_0⟩
theorem hg_75_0 : hGd hvs hrt (⟨"CapitalCase", "best", "(I)I"⟩, prog_1_method_25_code, 2, (some .int)) (some 0, none) hw_75_0 (hrt 75) := by
  rw [show hrt 75 = true from by decide +kernel]
  exact Or.inl ⟨_, _, _, xo_0, hc_75_0⟩
theorem hg_76_0 : hGd hvs hrt (⟨"CapitalCase", "clash", "(I)I"⟩, prog_1_method_32_code, 2, (some .int)) (some 0, none) hw_76_0 (hrt 76) := by
  rw [show hrt 76 = true from by decide +kernel]
  exact Or.inl ⟨_, _, _, xo_0, hc_76_0⟩
theorem hg_77_0 : hGd hvs hrt (⟨"CapitalCase", "clear", "(I)Z"⟩, prog_1_method_19_code, 2, (some .boolean)) (some 0, none) hw_77_0 (hrt 77) := by
  rw [show hrt 77 = true from by decide +kernel]
  exact Or.inl ⟨_, _, _, xo_0, hc_77_0⟩
theorem hg_78_0 : hGd hvs hrt (⟨"CapitalCase", "couldBeSet", "(I)Z"⟩, prog_1_method_18_code, 2, (some .boolean)) (some 0, none) hw_78_0 (hrt 78) := by
  rw [show hrt 78 = true from by decide +kernel]
  exact Or.inl ⟨_, _, _, xo_0, hc_78_0⟩
theorem hg_79_0 : hGd hvs hrt (⟨"CapitalCase", "count", "(I)I"⟩, prog_1_method_44_code, 2, (some .int)) (some 0, none) hw_79_0 (hrt 79) := by
  rw [show hrt 79 = true from by decide +kernel]
  exact Or.inl ⟨_, _, _, xo_0, hc_79_0⟩
theorem hg_80_0 : hGd hvs hrt (⟨"CapitalCase", "days", "(I)I"⟩, prog_1_method_22_code, 2, (some .int)) (some 0, none) hw_80_0 (hrt 80) := by
  rw [show hrt 80 = true from by decide +kernel]
  exact Or.inl ⟨_, _, _, xo_0, hc_80_0⟩
theorem hg_81_0 : hGd hvs hrt (⟨"CapitalCase", "feed", "(IIIII)I"⟩, prog_1_method_2_code, 6, (some .int)) (some 0, none) hw_81_0 (hrt 81) := by
  rw [show hrt 81 = true from by decide +kernel]
  exact Or.inl ⟨_, _, _, xo_0, hc_81_0⟩
theorem hg_82_0 : hGd hvs hrt (⟨"CapitalCase", "forget", "()I"⟩, prog_1_method_39_code, 2, (some .int)) (some 0, none) hw_82_0 (hrt 82) := by
  rw [show hrt 82 = true from by decide +kernel]
  exact Or.inl ⟨_, _, _, xo_0, hc_82_0⟩
theorem hg_83_0 : hGd hvs hrt (⟨"CapitalCase", "from", "(II)I"⟩, prog_1_method_24_code, 3, (some .int)) (some 0, none) hw_83_0 (hrt 83) := by
  rw [show hrt 83 = true from by decide +kernel]
  exact Or.inl ⟨_, _, _, xo_0, hc_83_0⟩
theorem hg_84_0 : hGd hvs hrt (⟨"CapitalCase", "giveBack", "(III)Z"⟩, prog_1_method_21_code, 5, (some .boolean)) (some 0, none) hw_84_0 (hrt 84) := by
  rw [show hrt 84 = true from by decide +kernel]
  exact Or.inl ⟨_, _, _, xo_0, hc_84_0⟩
theorem hg_85_0 : hGd hvs hrt (⟨"CapitalCase", "heldSlots", "()I"⟩, prog_1_method_46_code, 3, (some .int)) (some 0, none) hw_85_0 (hrt 85) := by
  rw [show hrt 85 = true from by decide +kernel]
  exact Or.inl ⟨_, _, _, xo_0, hc_85_0⟩
theorem hg_86_0 : hGd hvs hrt (⟨"CapitalCase", "hold", "(I)Z"⟩, prog_1_method_42_code, 2, (some .boolean)) (some 0, none) hw_86_0 (hrt 86) := by
  rw [show hrt 86 = true from by decide +kernel]
  exact Or.inl ⟨_, _, _, xo_0, hc_86_0⟩
theorem hg_87_0 : hGd hvs hrt (⟨"CapitalCase", "house", "(III)I"⟩, prog_1_method_12_code, 5, (some .int)) (some 0, none) hw_87_0 (hrt 87) := by
  rw [show hrt 87 = true from by decide +kernel]
  exact Or.inl ⟨_, _, _, xo_0, hc_87_0⟩
theorem hg_88_0 : hGd hvs hrt (⟨"CapitalCase", "isCell", "(II)Z"⟩, prog_1_method_9_code, 3, (some .boolean)) (some 0, none) hw_88_0 (hrt 88) := by
  rw [show hrt 88 = true from by decide +kernel]
  exact Or.inl ⟨_, _, _, xo_0, hc_88_0⟩
theorem hg_89_0 : hGd hvs hrt (⟨"CapitalCase", "isHouse", "(I)Z"⟩, prog_1_method_8_code, 2, (some .boolean)) (some 0, none) hw_89_0 (hrt 89) := by
  rw [show hrt 89 = true from by decide +kernel]
  exact Or.inl ⟨_, _, _, xo_0, hc_89_0⟩
theorem hg_90_0 : hGd hvs hrt (⟨"CapitalCase", "isOpen", "(I)Z"⟩, prog_1_method_11_code, 2, (some .boolean)) (some 0, none) hw_90_0 (hrt 90) := by
  rw [show hrt 90 = true from by decide +kernel]
  exact Or.inl ⟨_, _, _, xo_0, hc_90_0⟩
theorem hg_91_0 : hGd hvs hrt (⟨"CapitalCase", "isVerse", "(I)Z"⟩, prog_1_method_10_code, 2, (some .boolean)) (some 0, none) hw_91_0 (hrt 91) := by
  rw [show hrt 91 = true from by decide +kernel]
  exact Or.inl ⟨_, _, _, xo_0, hc_91_0⟩
theorem hg_92_0 : hGd hvs hrt (⟨"CapitalCase", "late", "()I"⟩, prog_1_method_33_code, 3, (some .int)) (some 0, none) hw_92_0 (hrt 92) := by
  rw [show hrt 92 = true from by decide +kernel]
  exact Or.inl ⟨_, _, _, xo_0, hc_92_0⟩
theorem hg_93_0 : hGd hvs hrt (⟨"CapitalCase", "lend", "(III)Z"⟩, prog_1_method_20_code, 4, (some .boolean)) (some 0, none) hw_93_0 (hrt 93) := by
  rw [show hrt 93 = true from by decide +kernel]
  exact Or.inl ⟨_, _, _, xo_0, hc_93_0⟩
theorem hg_94_0 : hGd hvs hrt (⟨"CapitalCase", "loans", "(II)I"⟩, prog_1_method_29_code, 3, (some .int)) (some 0, none) hw_94_0 (hrt 94) := by
  rw [show hrt 94 = true from by decide +kernel]
  exact Or.inl ⟨_, _, _, xo_0, hc_94_0⟩
theorem hg_95_0 : hGd hvs hrt (⟨"CapitalCase", "paidIn", "(I)I"⟩, prog_1_method_36_code, 2, (some .int)) (some 0, none) hw_95_0 (hrt 95) := by
  rw [show hrt 95 = true from by decide +kernel]
  exact Or.inl ⟨_, _, _, xo_0, hc_95_0⟩
theorem hg_96_0 : hGd hvs hrt (⟨"CapitalCase", "pillar", "(I)I"⟩, prog_1_method_27_code, 5, (some .int)) (some 0, none) hw_96_0 (hrt 96) := by
  rw [show hrt 96 = true from by decide +kernel]
  exact Or.inl ⟨_, _, _, xo_0, hc_96_0⟩
theorem hg_97_0 : hGd hvs hrt (⟨"CapitalCase", "place", "()I"⟩, prog_1_method_7_code, 1, (some .int)) (some 0, none) hw_97_0 (hrt 97) := by
  rw [show hrt 97 = true from by decide +kernel]
  exact Or.inl ⟨_, _, _, xo_0, hc_97_0⟩
theorem hg_98_0 : hGd hvs hrt (⟨"CapitalCase", "read", "()I"⟩, prog_1_method_5_code, 2, (some .int)) (some 0, none) hw_98_0 (hrt 98) := by
  rw [show hrt 98 = true from by decide +kernel]
  exact Or.inl ⟨_, _, _, xo_0, hc_98_0⟩
theorem hg_99_0 : hGd hvs hrt (⟨"CapitalCase", "restore", "(I)Z"⟩, prog_1_method_43_code, 2, (some .boolean)) (some 0, none) hw_99_0 (hrt 99) := by
  rw [show hrt 99 = true from by decide +kernel]
  exact Or.inl ⟨_, _, _, xo_0, hc_99_0⟩
theorem hg_100_0 : hGd hvs hrt (⟨"CapitalCase", "set", "(I)Z"⟩, prog_1_method_17_code, 2, (some .boolean)) (some 0, none) hw_100_0 (hrt 100) := by
  rw [show hrt 100 = true from by decide +kernel]
  exact Or.inl ⟨_, _, _, xo_0, hc_100_0⟩
theorem hg_101_0 : hGd hvs hrt (⟨"CapitalCase", "settable", "()I"⟩, prog_1_method_47_code, 3, (some .int)) (some 0, none) hw_101_0 (hrt 101) := by
  rw [show hrt 101 = true from by decide +kernel]
  exact Or.inl ⟨_, _, _, xo_0, hc_101_0⟩
theorem hg_102_0 : hGd hvs hrt (⟨"CapitalCase", "standOf", "(I)I"⟩, prog_1_method_14_code, 4, (some .int)) (some 0, none) hw_102_0 (hrt 102) := by
  rw [show hrt 102 = true from by decide +kernel]
  exact Or.inl ⟨_, _, _, xo_0, hc_102_0⟩
theorem hg_103_0 : hGd hvs hrt (⟨"CapitalCase", "strike", "(I)I"⟩, prog_1_method_31_code, 4, (some .int)) (some 0, none) hw_103_0 (hrt 103) := by
  rw [show hrt 103 = true from by decide +kernel]
  exact Or.inl ⟨_, _, _, xo_0, hc_103_0⟩
theorem hg_104_0 : hGd hvs hrt (⟨"CapitalCase", "sum", "([I)I"⟩, prog_1_method_45_code, 6, (some .int)) (some 29, none) hw_104_0 (hrt 104) := by
  rw [show hrt 104 = true from by decide +kernel]
  exact Or.inl ⟨_, _, _, xo_0, hc_104_0⟩
theorem hg_104_1 : hGd hvs hrt (⟨"CapitalCase", "sum", "([I)I"⟩, prog_1_method_45_code, 6, (some .int)) (some 30, none) hw_104_1 (hrt 104) := by
  rw [show hrt 104 = true from by decide +kernel]
  exact Or.inl ⟨_, _, _, xo_0, hc_104_1⟩
theorem hg_104_2 : hGd hvs hrt (⟨"CapitalCase", "sum", "([I)I"⟩, prog_1_method_45_code, 6, (some .int)) (some 32, none) hw_104_2 (hrt 104) := by
  rw [show hrt 104 = true from by decide +kernel]
  exact Or.inl ⟨_, _, _, xo_0, hc_104_2⟩
theorem hg_105_0 : hGd hvs hrt (⟨"CapitalCase", "tell", "(IIZ)I"⟩, prog_1_method_38_code, 4, (some .int)) (some 0, none) hw_105_0 (hrt 105) := by
  rw [show hrt 105 = true from by decide +kernel]
  exact Or.inl ⟨_, _, _, xo_0, hc_105_0⟩
theorem hg_106_0 : hGd hvs hrt (⟨"CapitalCase", "tells", "(IIII)I"⟩, prog_1_method_16_code, 5, (some .int)) (some 0, none) hw_106_0 (hrt 106) := by
  rw [show hrt 106 = true from by decide +kernel]
  exact Or.inl ⟨_, _, _, xo_0, hc_106_0⟩
theorem hg_107_0 : hGd hvs hrt (⟨"CapitalCase", "then", "(IIII)I"⟩, prog_1_method_35_code, 6, (some .int)) (some 0, none) hw_107_0 (hrt 107) := by
  rw [show hrt 107 = true from by decide +kernel]
  exact Or.inl ⟨_, _, _, xo_0, hc_107_0⟩
theorem hg_108_0 : hGd hvs hrt (⟨"CapitalCase", "twoDays", "(I)I"⟩, prog_1_method_28_code, 2, (some .int)) (some 0, none) hw_108_0 (hrt 108) := by
  rw [show hrt 108 = true from by decide +kernel]
  exact Or.inl ⟨_, _, _, xo_0, hc_108_0⟩
theorem hg_109_0 : hGd hvs hrt (⟨"CapitalCase", "undo", "()Z"⟩, prog_1_method_23_code, 1, (some .boolean)) (some 0, none) hw_109_0 (hrt 109) := by
  rw [show hrt 109 = true from by decide +kernel]
  exact Or.inl ⟨_, _, _, xo_0, hc_109_0⟩
theorem hg_110_0 : hGd hvs hrt (⟨"CapitalCase", "verse", "(II)I"⟩, prog_1_method_13_code, 3, (some .int)) (some 0, none) hw_110_0 (hrt 110) := by
  rw [show hrt 110 = true from by decide +kernel]
  exact Or.inl ⟨_, _, _, xo_0, hc_110_0⟩
theorem hg_111_0 : hGd hvs hrt (⟨"CapitalCase", "wants", "(II)I"⟩, prog_1_method_15_code, 3, (some .int)) (some 0, none) hw_111_0 (hrt 111) := by
  rw [show hrt 111 = true from by decide +kernel]
  exact Or.inl ⟨_, _, _, xo_0, hc_111_0⟩
theorem hg_112_0 : hGd hvs hrt (⟨"CapitalCase", "whose", "(II)I"⟩, prog_1_method_40_code, 4, (some .int)) (some 0, none) hw_112_0 (hrt 112) := by
  rw [show hrt 112 = true from by decide +kernel]
  exact Or.inl ⟨_, _, _, xo_0, hc_112_0⟩
theorem hg_113_0 : hGd hvs hrt (⟨"CapitalCase", "wornOut", "(II)I"⟩, prog_1_method_34_code, 3, (some .int)) (some 0, none) hw_113_0 (hrt 113) := by
  rw [show hrt 113 = true from by decide +kernel]
  exact Or.inl ⟨_, _, _, xo_0, hc_113_0⟩
theorem hg_114_0 : hGd hvs hrt (⟨"CapitalCase", "worth", "(II)I"⟩, prog_1_method_26_code, 4, (some .int)) (some 0, none) hw_114_0 (hrt 114) := by
  rw [show hrt 114 = true from by decide +kernel]
  exact Or.inl ⟨_, _, _, xo_0, hc_114_0⟩
theorem hg_115_0 : hGd hvs hrt (⟨"CapitalCase", "year", "(IIII)I"⟩, prog_1_method_37_code, 7, (some .int)) (some 0, none) hw_115_0 (hrt 115) := by
  rw [show hrt 115 = true from by decide +kernel]
  exact Or.inl ⟨_, _, _, xo_0, hc_115_0⟩
theorem hg_116_0 : hGd hvs hrt (⟨"CapitalCaseModel", "areThieves", "()Z"⟩, prog_14_method_51_code, 1, (some .boolean)) (some 75, none) hw_116_0 (hrt 116) := by
  rw [show hrt 116 = true from by decide +kernel]
  exact Or.inl ⟨_, _, _, xo_12, hc_116_0⟩
theorem hg_117_0 : hGd hvs hrt (⟨"CapitalCaseModel", "areTwo", "(III)Z"⟩, prog_14_method_79_code, 4, (some .boolean)) (some 75, none) hw_117_0 (hrt 117) := by
  rw [show hrt 117 = true from by decide +kernel]
  exact Or.inl ⟨_, _, _, xo_12, hc_117_0⟩
theorem hg_118_0 : hGd hvs hrt (⟨"CapitalCaseModel", "ask", "(II)I"⟩, prog_14_method_110_code, 9, (some .int)) (some 75, none) hw_118_0 (hrt 118) := by
  rw [show hrt 118 = true from by decide +kernel]
  exact Or.inl ⟨_, _, _, xo_12, hc_118_0⟩
theorem hg_119_0 : hGd hvs hrt (⟨"CapitalCaseModel", "back", "(I)I"⟩, prog_14_method_5_code, 2, (some .int)) (some 75, none) hw_119_0 (hrt 119) := by
  rw [show hrt 119 = true from by decide +kernel]
  exact Or.inl ⟨_, _, _, xo_12, hc_119_0⟩
theorem hg_120_0 : hGd hvs hrt (⟨"CapitalCaseModel", "bargains", "(I)I"⟩, prog_14_method_97_code, 7, (some .int)) (some 75, none) hw_120_0 (hrt 120) := by
  rw [show hrt 120 = true from by decide +kernel]
  exact Or.inl ⟨_, _, _, xo_12, hc_120_0⟩
theorem hg_121_0 : hGd hvs hrt (⟨"CapitalCaseModel", "begins", "()V"⟩, prog_14_method_46_code, 2, none) (some 75, none) hw_121_0 (hrt 121) := by
  rw [show hrt 121 = false from by decide +kernel]
  exact Or.inl ⟨_, _, _, xo_12, hc_121_0⟩
theorem hg_122_0 : hGd hvs hrt (⟨"CapitalCaseModel", "best", "(I)I"⟩, prog_14_method_88_code, 2, (some .int)) (some 75, none) hw_122_0 (hrt 122) := by
  rw [show hrt 122 = true from by decide +kernel]
  exact Or.inl ⟨_, _, _, xo_12, hc_122_0⟩
theorem hg_123_0 : hGd hvs hrt (⟨"CapitalCaseModel", "bits", "(I)I"⟩, prog_14_method_42_code, 3, (some .int)) (none, none) hw_123_0 (hrt 123) := by
  rw [show hrt 123 = true from by decide +kernel]
  exact Or.inl ⟨_, _, _, xo_12, hc_123_0⟩
theorem hg_124_0 : hGd hvs hrt (⟨"CapitalCaseModel", "bounded", "(II)I"⟩, prog_14_method_27_code, 4, (some .int)) (some 75, none) hw_124_0 (hrt 124) := by
  rw [show hrt 124 = true from by decide +kernel]
  exact Or.inl ⟨_, _, _, xo_12, hc_124_0⟩
theorem hg_125_0 : hGd hvs hrt (⟨"CapitalCaseModel", "canSet", "(I)Z"⟩, prog_14_method_86_code, 3, (some .boolean)) (some 75, none) hw_125_0 (hrt 125) := by
  rw [show hrt 125 = true from by decide +kernel]
  exact Or.inl ⟨_, _, _, xo_12, hc_125_0⟩
theorem hg_126_0 : hGd hvs hrt (⟨"CapitalCaseModel", "clash", "(I)I"⟩, prog_14_method_99_code, 6, (some .int)) (some 75, none) hw_126_0 (hrt 126) := by
  rw [show hrt 126 = true from by decide +kernel]
  exact Or.inl ⟨_, _, _, xo_12, hc_126_0⟩
theorem hg_127_0 : hGd hvs hrt (⟨"CapitalCaseModel", "clear", "(I)Z"⟩, prog_14_method_78_code, 2, (some .boolean)) (some 75, none) hw_127_0 (hrt 127) := by
  rw [show hrt 127 = true from by decide +kernel]
  exact Or.inl ⟨_, _, _, xo_12, hc_127_0⟩
theorem hg_128_0 : hGd hvs hrt (⟨"CapitalCaseModel", "clears", "(I)V"⟩, prog_14_method_64_code, 3, none) (some 75, none) hw_128_0 (hrt 128) := by
  rw [show hrt 128 = false from by decide +kernel]
  exact Or.inl ⟨_, _, _, xo_12, hc_128_0⟩
theorem hg_129_0 : hGd hvs hrt (⟨"CapitalCaseModel", "copies", "()V"⟩, prog_14_method_48_code, 2, none) (some 75, none) hw_129_0 (hrt 129) := by
  rw [show hrt 129 = false from by decide +kernel]
  exact Or.inl ⟨_, _, _, xo_12, hc_129_0⟩
theorem hg_130_0 : hGd hvs hrt (⟨"CapitalCaseModel", "count", "(I)I"⟩, prog_14_method_115_code, 5, (some .int)) (some 75, none) hw_130_0 (hrt 130) := by
  rw [show hrt 130 = true from by decide +kernel]
  exact Or.inl ⟨_, _, _, xo_12, hc_130_0⟩
theorem hg_131_0 : hGd hvs hrt (⟨"CapitalCaseModel", "dayGoes", "()V"⟩, prog_14_method_70_code, 2, none) (some 75, none) hw_131_0 (hrt 131) := by
  rw [show hrt 131 = false from by decide +kernel]
  exact Or.inl ⟨_, _, _, xo_12, hc_131_0⟩
theorem hg_132_0 : hGd hvs hrt (⟨"CapitalCaseModel", "days", "(I)I"⟩, prog_14_method_82_code, 2, (some .int)) (some 75, none) hw_132_0 (hrt 132) := by
  rw [show hrt 132 = true from by decide +kernel]
  exact Or.inl ⟨_, _, _, xo_12, hc_132_0⟩
theorem hg_133_0 : hGd hvs hrt (⟨"CapitalCaseModel", "fail", "(I)V"⟩, prog_14_method_15_code, 2, none) (some 75, none) hw_133_0 (hrt 133) := by
  rw [show hrt 133 = false from by decide +kernel]
  exact Or.inl ⟨_, _, _, xo_12, hc_133_0⟩
theorem hg_134_0 : hGd hvs hrt (⟨"CapitalCaseModel", "feed", "(IIIII)I"⟩, prog_14_method_3_code, 6, (some .int)) (some 75, none) hw_134_0 (hrt 134) := by
  rw [show hrt 134 = true from by decide +kernel]
  exact Or.inl ⟨_, _, _, xo_12, hc_134_0⟩
theorem hg_135_0 : hGd hvs hrt (⟨"CapitalCaseModel", "findsBest", "()V"⟩, prog_14_method_87_code, 5, none) (some 75, none) hw_135_0 (hrt 135) := by
  rw [show hrt 135 = false from by decide +kernel]
  exact Or.inl ⟨_, _, _, xo_12, hc_135_0⟩
theorem hg_136_0 : hGd hvs hrt (⟨"CapitalCaseModel", "firstDay", "(I)I"⟩, prog_14_method_91_code, 3, (some .int)) (some 75, none) hw_136_0 (hrt 136) := by
  rw [show hrt 136 = true from by decide +kernel]
  exact Or.inl ⟨_, _, _, xo_12, hc_136_0⟩
theorem hg_137_0 : hGd hvs hrt (⟨"CapitalCaseModel", "forget", "()I"⟩, prog_14_method_107_code, 2, (some .int)) (some 75, none) hw_137_0 (hrt 137) := by
  rw [show hrt 137 = true from by decide +kernel]
  exact Or.inl ⟨_, _, _, xo_12, hc_137_0⟩
theorem hg_138_0 : hGd hvs hrt (⟨"CapitalCaseModel", "freeOf", "(II)I"⟩, prog_14_method_54_code, 4, (some .int)) (some 75, none) hw_138_0 (hrt 138) := by
  rw [show hrt 138 = true from by decide +kernel]
  exact Or.inl ⟨_, _, _, xo_12, hc_138_0⟩
theorem hg_139_0 : hGd hvs hrt (⟨"CapitalCaseModel", "from", "(II)I"⟩, prog_14_method_84_code, 3, (some .int)) (some 75, none) hw_139_0 (hrt 139) := by
  rw [show hrt 139 = true from by decide +kernel]
  exact Or.inl ⟨_, _, _, xo_12, hc_139_0⟩
theorem hg_140_0 : hGd hvs hrt (⟨"CapitalCaseModel", "giveBack", "(III)Z"⟩, prog_14_method_81_code, 5, (some .boolean)) (some 75, none) hw_140_0 (hrt 140) := by
  rw [show hrt 140 = true from by decide +kernel]
  exact Or.inl ⟨_, _, _, xo_12, hc_140_0⟩
theorem hg_141_0 : hGd hvs hrt (⟨"CapitalCaseModel", "giverOf", "(II)I"⟩, prog_14_method_63_code, 7, (some .int)) (some 75, none) hw_141_0 (hrt 141) := by
  rw [show hrt 141 = true from by decide +kernel]
  exact Or.inl ⟨_, _, _, xo_12, hc_141_0⟩
theorem hg_142_0 : hGd hvs hrt (⟨"CapitalCaseModel", "givesLeave", "(III)Z"⟩, prog_14_method_59_code, 4, (some .boolean)) (some 75, none) hw_142_0 (hrt 142) := by
  rw [show hrt 142 = true from by decide +kernel]
  exact Or.inl ⟨_, _, _, xo_12, hc_142_0⟩
theorem hg_143_0 : hGd hvs hrt (⟨"CapitalCaseModel", "goes", "(I)V"⟩, prog_14_method_71_code, 3, none) (some 75, none) hw_143_0 (hrt 143) := by
  rw [show hrt 143 = false from by decide +kernel]
  exact Or.inl ⟨_, _, _, xo_12, hc_143_0⟩
theorem hg_144_0 : hGd hvs hrt (⟨"CapitalCaseModel", "goesOn", "()V"⟩, prog_14_method_17_code, 1, none) (some 75, none) hw_144_0 (hrt 144) := by
  rw [show hrt 144 = false from by decide +kernel]
  exact Or.inl ⟨_, _, _, xo_12, hc_144_0⟩
theorem hg_145_0 : hGd hvs hrt (⟨"CapitalCaseModel", "held", "(III)I"⟩, prog_14_method_41_code, 3, (some .int)) (none, none) hw_145_0 (hrt 145) := by
  rw [show hrt 145 = true from by decide +kernel]
  exact Or.inl ⟨_, _, _, xo_12, hc_145_0⟩
theorem hg_146_0 : hGd hvs hrt (⟨"CapitalCaseModel", "hold", "(I)Z"⟩, prog_14_method_111_code, 3, (some .boolean)) (some 75, none) hw_146_0 (hrt 146) := by
  rw [show hrt 146 = true from by decide +kernel]
  exact Or.inl ⟨_, _, _, xo_12, hc_146_0⟩
theorem hg_147_0 : hGd hvs hrt (⟨"CapitalCaseModel", "house", "(III)I"⟩, prog_14_method_72_code, 5, (some .int)) (some 75, none) hw_147_0 (hrt 147) := by
  rw [show hrt 147 = true from by decide +kernel]
  exact Or.inl ⟨_, _, _, xo_12, hc_147_0⟩
theorem hg_148_0 : hGd hvs hrt (⟨"CapitalCaseModel", "in", "(III)Z"⟩, prog_14_method_40_code, 3, (some .boolean)) (none, none) hw_148_0 (hrt 148) := by
  rw [show hrt 148 = true from by decide +kernel]
  exact Or.inl ⟨_, _, _, xo_12, hc_148_0⟩
theorem hg_149_0 : hGd hvs hrt (⟨"CapitalCaseModel", "is", "(I)Z"⟩, prog_14_method_14_code, 2, (some .boolean)) (some 75, none) hw_149_0 (hrt 149) := by
  rw [show hrt 149 = true from by decide +kernel]
  exact Or.inl ⟨_, _, _, xo_12, hc_149_0⟩
theorem hg_150_0 : hGd hvs hrt (⟨"CapitalCaseModel", "isBargain", "(IIII)Z"⟩, prog_14_method_96_code, 5, (some .boolean)) (some 75, none) hw_150_0 (hrt 150) := by
  rw [show hrt 150 = true from by decide +kernel]
  exact Or.inl ⟨_, _, _, xo_12, hc_150_0⟩
theorem hg_151_0 : hGd hvs hrt (⟨"CapitalCaseModel", "isHouse", "(I)Z"⟩, prog_14_method_43_code, 2, (some .boolean)) (some 75, none) hw_151_0 (hrt 151) := by
  rw [show hrt 151 = true from by decide +kernel]
  exact Or.inl ⟨_, _, _, xo_12, hc_151_0⟩
theorem hg_152_0 : hGd hvs hrt (⟨"CapitalCaseModel", "isLong", "(I)Z"⟩, prog_14_method_101_code, 1, (some .boolean)) (none, none) hw_152_0 (hrt 152) := by
  rw [show hrt 152 = true from by decide +kernel]
  exact Or.inl ⟨_, _, _, xo_12, hc_152_0⟩
theorem hg_153_0 : hGd hvs hrt (⟨"CapitalCaseModel", "isOpen", "(I)Z"⟩, prog_14_method_66_code, 2, (some .boolean)) (some 75, none) hw_153_0 (hrt 153) := by
  rw [show hrt 153 = true from by decide +kernel]
  exact Or.inl ⟨_, _, _, xo_12, hc_153_0⟩
theorem hg_154_0 : hGd hvs hrt (⟨"CapitalCaseModel", "isSort", "(I)Z"⟩, prog_14_method_44_code, 1, (some .boolean)) (none, none) hw_154_0 (hrt 154) := by
  rw [show hrt 154 = true from by decide +kernel]
  exact Or.inl ⟨_, _, _, xo_12, hc_154_0⟩
theorem hg_155_0 : hGd hvs hrt (⟨"CapitalCaseModel", "isVerse", "(I)Z"⟩, prog_14_method_45_code, 2, (some .boolean)) (some 75, none) hw_155_0 (hrt 155) := by
  rw [show hrt 155 = true from by decide +kernel]
  exact Or.inl ⟨_, _, _, xo_12, hc_155_0⟩
theorem hg_156_0 : hGd hvs hrt (⟨"CapitalCaseModel", "keepsAhead", "()V"⟩, prog_14_method_85_code, 2, none) (some 75, none) hw_156_0 (hrt 156) := by
  rw [show hrt 156 = false from by decide +kernel]
  exact Or.inl ⟨_, _, _, xo_12, hc_156_0⟩
theorem hg_157_0 : hGd hvs hrt (⟨"CapitalCaseModel", "keepsRow", "()V"⟩, prog_14_method_47_code, 2, none) (some 75, none) hw_157_0 (hrt 157) := by
  rw [show hrt 157 = false from by decide +kernel]
  exact Or.inl ⟨_, _, _, xo_12, hc_157_0⟩
theorem hg_158_0 : hGd hvs hrt (⟨"CapitalCaseModel", "late", "()I"⟩, prog_14_method_100_code, 3, (some .int)) (some 75, none) hw_158_0 (hrt 158) := by
  rw [show hrt 158 = true from by decide +kernel]
  exact Or.inl ⟨_, _, _, xo_12, hc_158_0⟩
theorem hg_159_0 : hGd hvs hrt (⟨"CapitalCaseModel", "lawTells", "(II)I"⟩, prog_14_method_58_code, 7, (some .int)) (some 75, none) hw_159_0 (hrt 159) := by
  rw [show hrt 159 = true from by decide +kernel]
  exact Or.inl ⟨_, _, _, xo_12, hc_159_0⟩
theorem hg_160_0 : hGd hvs hrt (⟨"CapitalCaseModel", "lend", "(III)Z"⟩, prog_14_method_80_code, 4, (some .boolean)) (some 75, none) hw_160_0 (hrt 160) := by
  rw [show hrt 160 = true from by decide +kernel]
  exact Or.inl ⟨_, _, _, xo_12, hc_160_0⟩
theorem hg_161_0 : hGd hvs hrt (⟨"CapitalCaseModel", "lentOut", "(II)I"⟩, prog_14_method_52_code, 5, (some .int)) (some 75, none) hw_161_0 (hrt 161) := by
  rw [show hrt 161 = true from by decide +kernel]
  exact Or.inl ⟨_, _, _, xo_12, hc_161_0⟩
theorem hg_162_0 : hGd hvs hrt (⟨"CapitalCaseModel", "lentTo", "(II)I"⟩, prog_14_method_53_code, 5, (some .int)) (some 75, none) hw_162_0 (hrt 162) := by
  rw [show hrt 162 = true from by decide +kernel]
  exact Or.inl ⟨_, _, _, xo_12, hc_162_0⟩
theorem hg_163_0 : hGd hvs hrt (⟨"CapitalCaseModel", "loans", "(II)I"⟩, prog_14_method_94_code, 8, (some .int)) (some 75, none) hw_163_0 (hrt 163) := by
  rw [show hrt 163 = true from by decide +kernel]
  exact Or.inl ⟨_, _, _, xo_12, hc_163_0⟩
theorem hg_164_0 : hGd hvs hrt (⟨"CapitalCaseModel", "looks", "()V"⟩, prog_14_method_55_code, 2, none) (some 75, none) hw_164_0 (hrt 164) := by
  rw [show hrt 164 = false from by decide +kernel]
  exact Or.inl ⟨_, _, _, xo_12, hc_164_0⟩
theorem hg_165_0 : hGd hvs hrt (⟨"CapitalCaseModel", "looksAt", "(II)V"⟩, prog_14_method_56_code, 3, none) (some 75, none) hw_165_0 (hrt 165) := by
  rw [show hrt 165 = false from by decide +kernel]
  exact Or.inl ⟨_, _, _, xo_12, hc_165_0⟩
theorem hg_166_0 : hGd hvs hrt (⟨"CapitalCaseModel", "looksFor", "(I)V"⟩, prog_14_method_57_code, 2, none) (some 75, none) hw_166_0 (hrt 166) := by
  rw [show hrt 166 = false from by decide +kernel]
  exact Or.inl ⟨_, _, _, xo_12, hc_166_0⟩
theorem hg_167_0 : hGd hvs hrt (⟨"CapitalCaseModel", "lotOf", "(II)I"⟩, prog_14_method_50_code, 3, (some .int)) (some 75, none) hw_167_0 (hrt 167) := by
  rw [show hrt 167 = true from by decide +kernel]
  exact Or.inl ⟨_, _, _, xo_12, hc_167_0⟩
theorem hg_168_0 : hGd hvs hrt (⟨"CapitalCaseModel", "mixed", "(II)I"⟩, prog_14_method_49_code, 3, (some .int)) (none, none) hw_168_0 (hrt 168) := by
  rw [show hrt 168 = true from by decide +kernel]
  exact Or.inl ⟨_, _, _, xo_12, hc_168_0⟩
theorem hg_169_0 : hGd hvs hrt (⟨"CapitalCaseModel", "must", "(I)V"⟩, prog_14_method_18_code, 2, none) (some 75, none) hw_169_0 (hrt 169) := by
  rw [show hrt 169 = false from by decide +kernel]
  exact Or.inl ⟨_, _, _, xo_12, hc_169_0⟩
theorem hg_170_0 : hGd hvs hrt (⟨"CapitalCaseModel", "named", "()I"⟩, prog_14_method_25_code, 3, (some .int)) (some 75, none) hw_170_0 (hrt 170) := by
  rw [show hrt 170 = true from by decide +kernel]
  exact Or.inl ⟨_, _, _, xo_12, hc_170_0⟩
theorem hg_171_0 : hGd hvs hrt (⟨"CapitalCaseModel", "needsOf", "(II)I"⟩, prog_14_method_93_code, 5, (some .int)) (some 75, none) hw_171_0 (hrt 171) := by
  rw [show hrt 171 = true from by decide +kernel]
  exact Or.inl ⟨_, _, _, xo_12, hc_171_0⟩
theorem hg_172_0 : hGd hvs hrt (⟨"CapitalCaseModel", "openBits", "()I"⟩, prog_14_method_67_code, 3, (some .int)) (some 75, none) hw_172_0 (hrt 172) := by
  rw [show hrt 172 = true from by decide +kernel]
  exact Or.inl ⟨_, _, _, xo_12, hc_172_0⟩
theorem hg_173_0 : hGd hvs hrt (⟨"CapitalCaseModel", "ownVerses", "(III)I"⟩, prog_14_method_95_code, 8, (some .int)) (some 75, none) hw_173_0 (hrt 173) := by
  rw [show hrt 173 = true from by decide +kernel]
  exact Or.inl ⟨_, _, _, xo_12, hc_173_0⟩
theorem hg_174_0 : hGd hvs hrt (⟨"CapitalCaseModel", "paidIn", "(I)I"⟩, prog_14_method_104_code, 2, (some .int)) (some 75, none) hw_174_0 (hrt 174) := by
  rw [show hrt 174 = true from by decide +kernel]
  exact Or.inl ⟨_, _, _, xo_12, hc_174_0⟩
theorem hg_175_0 : hGd hvs hrt (⟨"CapitalCaseModel", "paysOf", "(I)I"⟩, prog_14_method_62_code, 2, (some .int)) (some 75, none) hw_175_0 (hrt 175) := by
  rw [show hrt 175 = true from by decide +kernel]
  exact Or.inl ⟨_, _, _, xo_12, hc_175_0⟩
theorem hg_176_0 : hGd hvs hrt (⟨"CapitalCaseModel", "pillar", "(I)I"⟩, prog_14_method_90_code, 5, (some .int)) (some 75, none) hw_176_0 (hrt 176) := by
  rw [show hrt 176 = true from by decide +kernel]
  exact Or.inl ⟨_, _, _, xo_12, hc_176_0⟩
theorem hg_177_0 : hGd hvs hrt (⟨"CapitalCaseModel", "place", "()I"⟩, prog_14_method_21_code, 1, (some .int)) (some 75, none) hw_177_0 (hrt 177) := by
  rw [show hrt 177 = true from by decide +kernel]
  exact Or.inl ⟨_, _, _, xo_12, hc_177_0⟩
theorem hg_178_0 : hGd hvs hrt (⟨"CapitalCaseModel", "put", "(I)V"⟩, prog_14_method_4_code, 3, none) (some 75, none) hw_178_0 (hrt 178) := by
  rw [show hrt 178 = false from by decide +kernel]
  exact Or.inl ⟨_, _, _, xo_12, hc_178_0⟩
theorem hg_179_0 : hGd hvs hrt (⟨"CapitalCaseModel", "rankOf", "(III)I"⟩, prog_14_method_60_code, 4, (some .int)) (some 75, none) hw_179_0 (hrt 179) := by
  rw [show hrt 179 = true from by decide +kernel]
  exact Or.inl ⟨_, _, _, xo_12, hc_179_0⟩
theorem hg_180_0 : hGd hvs hrt (⟨"CapitalCaseModel", "read", "()I"⟩, prog_14_method_20_code, 2, (some .int)) (some 75, none) hw_180_0 (hrt 180) := by
  rw [show hrt 180 = true from by decide +kernel]
  exact Or.inl ⟨_, _, _, xo_12, hc_180_0⟩
theorem hg_181_0 : hGd hvs hrt (⟨"CapitalCaseModel", "records", "()V"⟩, prog_14_method_76_code, 2, none) (some 75, none) hw_181_0 (hrt 181) := by
  rw [show hrt 181 = false from by decide +kernel]
  exact Or.inl ⟨_, _, _, xo_12, hc_181_0⟩
theorem hg_182_0 : hGd hvs hrt (⟨"CapitalCaseModel", "restore", "(I)Z"⟩, prog_14_method_112_code, 3, (some .boolean)) (some 75, none) hw_182_0 (hrt 182) := by
  rw [show hrt 182 = true from by decide +kernel]
  exact Or.inl ⟨_, _, _, xo_12, hc_182_0⟩
theorem hg_183_0 : hGd hvs hrt (⟨"CapitalCaseModel", "roomFor", "(II)V"⟩, prog_14_method_22_code, 3, none) (some 75, none) hw_183_0 (hrt 183) := by
  rw [show hrt 183 = false from by decide +kernel]
  exact Or.inl ⟨_, _, _, xo_12, hc_183_0⟩
theorem hg_184_0 : hGd hvs hrt (⟨"CapitalCaseModel", "set", "(I)Z"⟩, prog_14_method_77_code, 2, (some .boolean)) (some 75, none) hw_184_0 (hrt 184) := by
  rw [show hrt 184 = true from by decide +kernel]
  exact Or.inl ⟨_, _, _, xo_12, hc_184_0⟩
theorem hg_185_0 : hGd hvs hrt (⟨"CapitalCaseModel", "sets", "(I)Z"⟩, prog_14_method_65_code, 5, (some .boolean)) (some 75, none) hw_185_0 (hrt 185) := by
  rw [show hrt 185 = true from by decide +kernel]
  exact Or.inl ⟨_, _, _, xo_12, hc_185_0⟩
theorem hg_186_0 : hGd hvs hrt (⟨"CapitalCaseModel", "strike", "(I)I"⟩, prog_14_method_98_code, 5, (some .int)) (some 75, none) hw_186_0 (hrt 186) := by
  rw [show hrt 186 = true from by decide +kernel]
  exact Or.inl ⟨_, _, _, xo_12, hc_186_0⟩
theorem hg_187_0 : hGd hvs hrt (⟨"CapitalCaseModel", "sumNow", "(II)I"⟩, prog_14_method_113_code, 5, (some .int)) (some 75, none) hw_187_0 (hrt 187) := by
  rw [show hrt 187 = true from by decide +kernel]
  exact Or.inl ⟨_, _, _, xo_12, hc_187_0⟩
theorem hg_188_0 : hGd hvs hrt (⟨"CapitalCaseModel", "tell", "(IIZ)I"⟩, prog_14_method_106_code, 4, (some .int)) (some 75, none) hw_188_0 (hrt 188) := by
  rw [show hrt 188 = true from by decide +kernel]
  exact Or.inl ⟨_, _, _, xo_12, hc_188_0⟩
theorem hg_189_0 : hGd hvs hrt (⟨"CapitalCaseModel", "tells", "(IIII)I"⟩, prog_14_method_75_code, 5, (some .int)) (some 75, none) hw_189_0 (hrt 189) := by
  rw [show hrt 189 = true from by decide +kernel]
  exact Or.inl ⟨_, _, _, xo_12, hc_189_0⟩
theorem hg_190_0 : hGd hvs hrt (⟨"CapitalCaseModel", "then", "(IIII)I"⟩, prog_14_method_103_code, 5, (some .int)) (some 75, none) hw_190_0 (hrt 190) := by
  rw [show hrt 190 = true from by decide +kernel]
  exact Or.inl ⟨_, _, _, xo_12, hc_190_0⟩
theorem hg_191_0 : hGd hvs hrt (⟨"CapitalCaseModel", "thievesCome", "()V"⟩, prog_14_method_69_code, 4, none) (some 75, none) hw_191_0 (hrt 191) := by
  rw [show hrt 191 = false from by decide +kernel]
  exact Or.inl ⟨_, _, _, xo_12, hc_191_0⟩
theorem hg_192_0 : hGd hvs hrt (⟨"CapitalCaseModel", "toldInt", "(II)I"⟩, prog_14_method_23_code, 4, (some .int)) (some 75, none) hw_192_0 (hrt 192) := by
  rw [show hrt 192 = true from by decide +kernel]
  exact Or.inl ⟨_, _, _, xo_12, hc_192_0⟩
theorem hg_193_0 : hGd hvs hrt (⟨"CapitalCaseModel", "twoDays", "(I)I"⟩, prog_14_method_92_code, 7, (some .int)) (some 75, none) hw_193_0 (hrt 193) := by
  rw [show hrt 193 = true from by decide +kernel]
  exact Or.inl ⟨_, _, _, xo_12, hc_193_0⟩
theorem hg_194_0 : hGd hvs hrt (⟨"CapitalCaseModel", "undo", "()Z"⟩, prog_14_method_83_code, 2, (some .boolean)) (some 75, none) hw_194_0 (hrt 194) := by
  rw [show hrt 194 = true from by decide +kernel]
  exact Or.inl ⟨_, _, _, xo_12, hc_194_0⟩
theorem hg_195_0 : hGd hvs hrt (⟨"CapitalCaseModel", "verse", "(II)I"⟩, prog_14_method_73_code, 3, (some .int)) (some 75, none) hw_195_0 (hrt 195) := by
  rw [show hrt 195 = true from by decide +kernel]
  exact Or.inl ⟨_, _, _, xo_12, hc_195_0⟩
theorem hg_196_0 : hGd hvs hrt (⟨"CapitalCaseModel", "versesSo", "(II)I"⟩, prog_14_method_114_code, 5, (some .int)) (some 75, none) hw_196_0 (hrt 196) := by
  rw [show hrt 196 = true from by decide +kernel]
  exact Or.inl ⟨_, _, _, xo_12, hc_196_0⟩
theorem hg_197_0 : hGd hvs hrt (⟨"CapitalCaseModel", "wants", "(II)I"⟩, prog_14_method_74_code, 3, (some .int)) (some 75, none) hw_197_0 (hrt 197) := by
  rw [show hrt 197 = true from by decide +kernel]
  exact Or.inl ⟨_, _, _, xo_12, hc_197_0⟩
theorem hg_198_0 : hGd hvs hrt (⟨"CapitalCaseModel", "wears", "(I)V"⟩, prog_14_method_68_code, 2, none) (some 75, none) hw_198_0 (hrt 198) := by
  rw [show hrt 198 = false from by decide +kernel]
  exact Or.inl ⟨_, _, _, xo_12, hc_198_0⟩
theorem hg_199_0 : hGd hvs hrt (⟨"CapitalCaseModel", "wearsOf", "(II)I"⟩, prog_14_method_61_code, 3, (some .int)) (some 75, none) hw_199_0 (hrt 199) := by
  rw [show hrt 199 = true from by decide +kernel]
  exact Or.inl ⟨_, _, _, xo_12, hc_199_0⟩
theorem hg_200_0 : hGd hvs hrt (⟨"CapitalCaseModel", "whose", "(II)I"⟩, prog_14_method_109_code, 4, (some .int)) (some 75, none) hw_200_0 (hrt 200) := by
  rw [show hrt 200 = true from by decide +kernel]
  exact Or.inl ⟨_, _, _, xo_12, hc_200_0⟩
theorem hg_201_0 : hGd hvs hrt (⟨"CapitalCaseModel", "whoseBits", "(I)I"⟩, prog_14_method_108_code, 6, (some .int)) (some 75, none) hw_201_0 (hrt 201) := by
  rw [show hrt 201 = true from by decide +kernel]
  exact Or.inl ⟨_, _, _, xo_12, hc_201_0⟩
theorem hg_202_0 : hGd hvs hrt (⟨"CapitalCaseModel", "wornOut", "(II)I"⟩, prog_14_method_102_code, 4, (some .int)) (some 75, none) hw_202_0 (hrt 202) := by
  rw [show hrt 202 = true from by decide +kernel]
  exact Or.inl ⟨_, _, _, xo_12, hc_202_0⟩
theorem hg_203_0 : hGd hvs hrt (⟨"CapitalCaseModel", "worth", "(II)I"⟩, prog_14_method_89_code, 4, (some .int)) (some 75, none) hw_203_0 (hrt 203) := by
  rw [show hrt 203 = true from by decide +kernel]
  exact Or.inl ⟨_, _, _, xo_12, hc_203_0⟩
theorem hg_204_0 : hGd hvs hrt (⟨"CapitalCaseModel", "wrong", "(II)V"⟩, prog_14_method_16_code, 4, none) (some 75, none) hw_204_0 (hrt 204) := by
  rw [show hrt 204 = false from by decide +kernel]
  exact Or.inl ⟨_, _, _, xo_12, hc_204_0⟩
theorem hg_205_0 : hGd hvs hrt (⟨"CapitalCaseModel", "year", "(IIII)I"⟩, prog_14_method_105_code, 7, (some .int)) (some 75, none) hw_205_0 (hrt 205) := by
  rw [show hrt 205 = true from by decide +kernel]
  exact Or.inl ⟨_, _, _, xo_12, hc_205_0⟩
theorem hg_206_0 : hGd hvs hrt (⟨"java/lang/Integer", "bitCount", "(I)I"⟩, prog_16_method_49_code, 1, (some .int)) (none, none) hw_206_0 (hrt 206) := by
  rw [show hrt 206 = true from by decide +kernel]
  exact Or.inl ⟨_, _, _, xo_13, hc_206_0⟩
theorem hg_207_0 : hGd hvs hrt (⟨"java/util/Arrays", "fill", "([II)V"⟩, prog_22_method_103_code, 4, none) (some 14, none) hw_207_0 (hrt 207) := by
  rw [show hrt 207 = false from by decide +kernel]
  exact Or.inl ⟨_, _, _, xo_14, hc_207_0⟩
theorem hg_207_1 : hGd hvs hrt (⟨"java/util/Arrays", "fill", "([II)V"⟩, prog_22_method_103_code, 4, none) (some 19, none) hw_207_1 (hrt 207) := by
  rw [show hrt 207 = false from by decide +kernel]
  exact Or.inl ⟨_, _, _, xo_14, hc_207_1⟩
theorem hg_207_2 : hGd hvs hrt (⟨"java/util/Arrays", "fill", "([II)V"⟩, prog_22_method_103_code, 4, none) (some 30, none) hw_207_2 (hrt 207) := by
  rw [show hrt 207 = false from by decide +kernel]
  exact Or.inl ⟨_, _, _, xo_14, hc_207_2⟩
theorem hg_207_3 : hGd hvs hrt (⟨"java/util/Arrays", "fill", "([II)V"⟩, prog_22_method_103_code, 4, none) (some 31, none) hw_207_3 (hrt 207) := by
  rw [show hrt 207 = false from by decide +kernel]
  exact Or.inl ⟨_, _, _, xo_14, hc_207_3⟩
theorem hg_207_4 : hGd hvs hrt (⟨"java/util/Arrays", "fill", "([II)V"⟩, prog_22_method_103_code, 4, none) (some 32, none) hw_207_4 (hrt 207) := by
  rw [show hrt 207 = false from by decide +kernel]
  exact Or.inl ⟨_, _, _, xo_14, hc_207_4⟩
theorem hg_207_5 : hGd hvs hrt (⟨"java/util/Arrays", "fill", "([II)V"⟩, prog_22_method_103_code, 4, none) (some 49, none) hw_207_5 (hrt 207) := by
  rw [show hrt 207 = false from by decide +kernel]
  exact Or.inl ⟨_, _, _, xo_14, hc_207_5⟩
theorem hg_208_0 : hGd hvs hrt (⟨"CapitalCase$Tokens", "isBlank", "(I)Z"⟩, prog_9_method_3_code, 1, (some .boolean)) (none, none) hw_208_0 (hrt 208) := by
  rw [show hrt 208 = true from by decide +kernel]
  exact Or.inl ⟨_, _, _, xo_8, hc_208_0⟩
theorem hg_209_0 : hGd hvs hrt (⟨"CapitalCase$Tokens", "isDigit", "(I)Z"⟩, prog_9_method_5_code, 1, (some .boolean)) (none, none) hw_209_0 (hrt 209) := by
  rw [show hrt 209 = true from by decide +kernel]
  exact Or.inl ⟨_, _, _, xo_8, hc_209_0⟩
theorem hg_210_0 : hGd hvs hrt (⟨"CapitalCase$Tokens", "isLower", "(I)Z"⟩, prog_9_method_4_code, 1, (some .boolean)) (none, none) hw_210_0 (hrt 210) := by
  rw [show hrt 210 = true from by decide +kernel]
  exact Or.inl ⟨_, _, _, xo_8, hc_210_0⟩
theorem hg_211_0 : hGd hvs hrt (⟨"CapitalCaseModel", "byteAt", "(I)I"⟩, prog_14_method_6_code, 2, (some .int)) (some 75, none) hw_211_0 (hrt 211) := by
  rw [show hrt 211 = true from by decide +kernel]
  exact Or.inl ⟨_, _, _, xo_12, hc_211_0⟩
theorem hg_212_0 : hGd hvs hrt (⟨"CapitalCaseModel", "isDigit", "(I)Z"⟩, prog_14_method_7_code, 1, (some .boolean)) (none, none) hw_212_0 (hrt 212) := by
  rw [show hrt 212 = true from by decide +kernel]
  exact Or.inl ⟨_, _, _, xo_12, hc_212_0⟩
theorem hg_213_0 : hGd hvs hrt (⟨"CapitalCaseModel", "isLetter", "(I)Z"⟩, prog_14_method_8_code, 1, (some .boolean)) (none, none) hw_213_0 (hrt 213) := by
  rw [show hrt 213 = true from by decide +kernel]
  exact Or.inl ⟨_, _, _, xo_12, hc_213_0⟩
theorem hg_214_0 : hGd hvs hrt (⟨"CapitalCaseModel", "cut", "()V"⟩, prog_14_method_12_code, 8, none) (some 75, none) hw_214_0 (hrt 214) := by
  rw [show hrt 214 = false from by decide +kernel]
  exact Or.inl ⟨_, _, _, xo_12, hc_214_0⟩
theorem hg_215_0 : hGd hvs hrt (⟨"CapitalCaseModel", "token", "(IIIJ)V"⟩, prog_14_method_11_code, 6, none) (some 75, none) hw_215_0 (hrt 215) := by
  rw [show hrt 215 = false from by decide +kernel]
  exact Or.inl ⟨_, _, _, xo_12, hc_215_0⟩
theorem hg_216_0 : hGd hvs hrt (⟨"CapitalCaseModel", "sign", "(III)I"⟩, prog_14_method_13_code, 5, (some .int)) (some 75, none) hw_216_0 (hrt 216) := by
  rw [show hrt 216 = true from by decide +kernel]
  exact Or.inl ⟨_, _, _, xo_12, hc_216_0⟩
theorem hg_217_0 : hGd hvs hrt (⟨"CapitalCaseModel", "appends", "(JI)J"⟩, prog_14_method_9_code, 3, (some .long)) (none, none) hw_217_0 (hrt 217) := by
  rw [show hrt 217 = true from by decide +kernel]
  exact Or.inl ⟨_, _, _, xo_12, hc_217_0⟩
theorem hg_218_0 : hGd hvs hrt (⟨"CapitalCaseModel", "plain", "(I)V"⟩, prog_14_method_19_code, 3, none) (some 75, none) hw_218_0 (hrt 218) := by
  rw [show hrt 218 = false from by decide +kernel]
  exact Or.inl ⟨_, _, _, xo_12, hc_218_0⟩
theorem hg_219_0 : hGd hvs hrt (⟨"CapitalCaseModel", "tellOne", "()V"⟩, prog_14_method_24_code, 2, none) (some 75, none) hw_219_0 (hrt 219) := by
  rw [show hrt 219 = false from by decide +kernel]
  exact Or.inl ⟨_, _, _, xo_12, hc_219_0⟩
theorem hg_220_0 : hGd hvs hrt (⟨"CapitalCaseModel", "ends", "(I)V"⟩, prog_14_method_26_code, 2, none) (some 75, none) hw_220_0 (hrt 220) := by
  rw [show hrt 220 = false from by decide +kernel]
  exact Or.inl ⟨_, _, _, xo_12, hc_220_0⟩
theorem hg_221_0 : hGd hvs hrt (⟨"CapitalCaseModel", "takesLetters", "()V"⟩, prog_14_method_30_code, 4, none) (some 75, none) hw_221_0 (hrt 221) := by
  rw [show hrt 221 = false from by decide +kernel]
  exact Or.inl ⟨_, _, _, xo_12, hc_221_0⟩
theorem hg_222_0 : hGd hvs hrt (⟨"CapitalCaseModel", "lettersIn", "(J)I"⟩, prog_14_method_28_code, 5, (some .int)) (none, none) hw_222_0 (hrt 222) := by
  rw [show hrt 222 = true from by decide +kernel]
  exact Or.inl ⟨_, _, _, xo_12, hc_222_0⟩
theorem hg_223_0 : hGd hvs hrt (⟨"CapitalCaseModel", "letterIn", "(JI)I"⟩, prog_14_method_29_code, 6, (some .int)) (none, none) hw_223_0 (hrt 223) := by
  rw [show hrt 223 = true from by decide +kernel]
  exact Or.inl ⟨_, _, _, xo_12, hc_223_0⟩
theorem hg_224_0 : hGd hvs hrt (⟨"CapitalCaseModel", "tellHouse", "()V"⟩, prog_14_method_31_code, 4, none) (some 75, none) hw_224_0 (hrt 224) := by
  rw [show hrt 224 = false from by decide +kernel]
  exact Or.inl ⟨_, _, _, xo_12, hc_224_0⟩
theorem hg_225_0 : hGd hvs hrt (⟨"CapitalCaseModel", "tellVerse", "()V"⟩, prog_14_method_32_code, 4, none) (some 75, none) hw_225_0 (hrt 225) := by
  rw [show hrt 225 = false from by decide +kernel]
  exact Or.inl ⟨_, _, _, xo_12, hc_225_0⟩
theorem hg_226_0 : hGd hvs hrt (⟨"CapitalCaseModel", "tellLaw", "(I)V"⟩, prog_14_method_33_code, 4, none) (some 75, none) hw_226_0 (hrt 226) := by
  rw [show hrt 226 = false from by decide +kernel]
  exact Or.inl ⟨_, _, _, xo_12, hc_226_0⟩
theorem hg_227_0 : hGd hvs hrt (⟨"CapitalCaseModel", "term", "()V"⟩, prog_14_method_34_code, 1, none) (some 75, none) hw_227_0 (hrt 227) := by
  rw [show hrt 227 = false from by decide +kernel]
  exact Or.inl ⟨_, _, _, xo_12, hc_227_0⟩
theorem hg_228_0 : hGd hvs hrt (⟨"CapitalCaseModel", "emit", "(II)V"⟩, prog_14_method_35_code, 3, none) (some 75, none) hw_228_0 (hrt 228) := by
  rw [show hrt 228 = false from by decide +kernel]
  exact Or.inl ⟨_, _, _, xo_12, hc_228_0⟩
theorem hg_229_0 : hGd hvs hrt (⟨"CapitalCaseModel", "comesOut", "(Z)V"⟩, prog_14_method_36_code, 3, none) (some 75, none) hw_229_0 (hrt 229) := by
  rw [show hrt 229 = false from by decide +kernel]
  exact Or.inl ⟨_, _, _, xo_12, hc_229_0⟩
theorem hg_230_0 : hGd hvs hrt (⟨"CapitalCaseModel", "expression", "()V"⟩, prog_14_method_37_code, 3, none) (some 75, none) hw_230_0 (hrt 230) := by
  rw [show hrt 230 = false from by decide +kernel]
  exact Or.inl ⟨_, _, _, xo_12, hc_230_0⟩
theorem hg_231_0 : hGd hvs hrt (⟨"CapitalCaseModel", "unit", "()V"⟩, prog_14_method_38_code, 1, none) (some 75, none) hw_231_0 (hrt 231) := by
  rw [show hrt 231 = false from by decide +kernel]
  exact Or.inl ⟨_, _, _, xo_12, hc_231_0⟩
theorem hg_232_0 : hGd hvs hrt (⟨"CapitalCaseModel", "termOf", "(II)I"⟩, prog_14_method_39_code, 8, (some .int)) (some 75, none) hw_232_0 (hrt 232) := by
  rw [show hrt 232 = true from by decide +kernel]
  exact Or.inl ⟨_, _, _, xo_12, hc_232_0⟩
theorem hg_233_0 : hGd hvs hrt (⟨"CapitalCase$Script", "leadOn", "(I)V"⟩, prog_8_method_5_code, 2, none) (some 13, none) hw_233_0 (hrt 233) := by
  rw [show hrt 233 = false from by decide +kernel]
  exact Or.inl ⟨_, _, _, xo_7, hc_233_0⟩
theorem hg_234_0 : hGd hvs hrt (⟨"CapitalCase$Parser", "parseSum", "(I)Z"⟩, prog_4_method_16_code, 4, (some .boolean)) (some 12, none) hw_234_0 (hrt 234) := by
  rw [show hrt 234 = true from by decide +kernel]
  exact Or.inl ⟨_, _, _, xo_3, hc_234_0⟩
theorem hg_235_0 : hGd hvs hrt (⟨"CapitalCase$Parser", "parsePart", "(I)Z"⟩, prog_4_method_17_code, 4, (some .boolean)) (some 12, none) hw_235_0 (hrt 235) := by
  rw [show hrt 235 = true from by decide +kernel]
  exact Or.inl ⟨_, _, _, xo_3, hc_235_0⟩
theorem hg_236_0 : hGd hvs hrt (⟨"CapitalCase$Parser", "parseUnit", "(I)Z"⟩, prog_4_method_18_code, 3, (some .boolean)) (some 12, none) hw_236_0 (hrt 236) := by
  rw [show hrt 236 = true from by decide +kernel]
  exact Or.inl ⟨_, _, _, xo_3, hc_236_0⟩
theorem hg_237_0 : hGd hvs hrt (⟨"CapitalCase$Parser", "letterOf", "(II)I"⟩, prog_4_method_13_code, 3, (some .int)) (some 12, none) hw_237_0 (hrt 237) := by
  rw [show hrt 237 = true from by decide +kernel]
  exact Or.inl ⟨_, _, _, xo_3, hc_237_0⟩
theorem hg_238_0 : hGd hvs hrt (⟨"CapitalCase$Parser", "areLetters", "(I)Z"⟩, prog_4_method_12_code, 3, (some .boolean)) (some 12, none) hw_238_0 (hrt 238) := by
  rw [show hrt 238 = true from by decide +kernel]
  exact Or.inl ⟨_, _, _, xo_3, hc_238_0⟩
theorem hg_239_0 : hGd hvs hrt (⟨"CapitalCase$Tokens", "kindOf", "([BII)I"⟩, prog_9_method_7_code, 4, (some .int)) (some 1, none) hw_239_0 (hrt 239) := by
  rw [show hrt 239 = true from by decide +kernel]
  exact Or.inl ⟨_, _, _, xo_8, hc_239_0⟩
theorem hg_240_0 : hGd hvs hrt (⟨"CapitalCase$Tokens", "wordOrName", "([BII)I"⟩, prog_9_method_8_code, 4, (some .int)) (some 1, none) hw_240_0 (hrt 240) := by
  rw [show hrt 240 = true from by decide +kernel]
  exact Or.inl ⟨_, _, _, xo_8, hc_240_0⟩
theorem hg_241_0 : hGd hvs hrt (⟨"CapitalCase$Tokens", "isWord", "(I[BII)Z"⟩, prog_9_method_9_code, 6, (some .boolean)) (none, none) hw_241_0 (hrt 241) := by
  rw [show hrt 241 = true from by decide +kernel]
  exact Or.inl ⟨_, _, _, xo_8, hc_241_0⟩
theorem hg_242_0 : hGd hvs hrt (⟨"CapitalCase$Tokens", "sizeAt", "([BII)I"⟩, prog_9_method_6_code, 5, (some .int)) (some 1, none) hw_242_0 (hrt 242) := by
  rw [show hrt 242 = true from by decide +kernel]
  exact Or.inl ⟨_, _, _, xo_8, hc_242_0⟩
theorem hg_243_0 : hGd hvs hrt (⟨"CapitalCase$Judge", "reckon", "(III)I"⟩, prog_3_method_9_code, 3, (some .int)) (none, none) hw_243_0 (hrt 243) := by
  rw [show hrt 243 = true from by decide +kernel]
  exact Or.inl ⟨_, _, _, xo_2, hc_243_0⟩
theorem hV0 : ∀ (mn : Nat) (q : xP), xMB mn = some q → ∀ p, p ∈ hvs mn → hGd hvs hrt q p.1 p.2 (hrt mn) := (xB_n (xB_n (xB_n (xB_n (xB_n (xB_n (xB_n (xB_l (hm_c hg_0_0 hm_n)) (xB_n (xB_l (hm_c hg_1_0 hm_n)) (xB_l (hm_c hg_2_0 (hm_c hg_2_1 (hm_c hg_2_2 hm_n)))))) (xB_n (xB_n (xB_l (hm_c hg_3_0 hm_n)) (xB_l (hm_c hg_4_0 (hm_c hg_4_1 (hm_c hg_4_2 hm_n))))) (xB_n (xB_l (hm_c hg_5_0 hm_n)) (xB_l (hm_c hg_6_0 hm_n))))) (xB_n (xB_n (xB_n (xB_l (hm_c hg_7_0 (hm_c hg_7_1 (hm_c hg_7_2 hm_n)))) (xB_l (hm_c hg_8_0 (hm_c hg_8_1 (hm_c hg_8_2 hm_n))))) (xB_n (xB_l (hm_c hg_9_0 hm_n)) (xB_l (hm_c hg_10_0 hm_n)))) (xB_n (xB_n (xB_l (hm_c hg_11_0 hm_n)) (xB_l (hm_c hg_12_0 hm_n))) (xB_n (xB_l (hm_c hg_13_0 hm_n)) (xB_l (hm_c hg_14_0 hm_n)))))) (xB_n (xB_n (xB_n (xB_l (hm_c hg_15_0 hm_n)) (xB_n (xB_l (hm_c hg_16_0 hm_n)) (xB_l (hm_c hg_17_0 hm_n)))) (xB_n (xB_n (xB_l (hm_c hg_18_0 hm_n)) (xB_l (hm_c hg_19_0 hm_n))) (xB_n (xB_l (hm_c hg_20_0 hm_n)) (xB_l (hm_c hg_21_0 (hm_c hg_21_1 hm_n)))))) (xB_n (xB_n (xB_n (xB_l (hm_c hg_22_0 (hm_c hg_22_1 hm_n))) (xB_l (hm_c hg_23_0 hm_n))) (xB_n (xB_l (hm_c hg_24_0 (hm_c hg_24_1 (hm_c hg_24_2 hm_n)))) (xB_l (hm_c hg_25_0 (hm_c hg_25_1 hm_n))))) (xB_n (xB_n (xB_l (hm_c hg_26_0 (hm_c hg_26_1 (hm_c hg_26_2 hm_n)))) (xB_l (hm_c hg_27_0 (hm_c hg_27_1 hm_n)))) (xB_n (xB_l (hm_c hg_28_0 (hm_c hg_28_1 (hm_c hg_28_2 hm_n)))) (xB_l (hm_c hg_29_0 hm_n))))))) (xB_n (xB_n (xB_n (xB_n (xB_l (hm_c hg_30_0 (hm_c hg_30_1 hm_n))) (xB_n (xB_l (hm_c hg_31_0 hm_n)) (xB_l (hm_c hg_32_0 hm_n)))) (xB_n (xB_n (xB_l (hm_c hg_33_0 hm_n)) (xB_l (hm_c hg_34_0 (hm_c hg_34_1 (hm_c hg_34_2 hm_n))))) (xB_n (xB_l (hm_c hg_35_0 (hm_c hg_35_1 hm_n))) (xB_l (hm_c hg_36_0 (hm_c hg_36_1 hm_n)))))) (xB_n (xB_n (xB_n (xB_l (hm_c hg_37_0 hm_n)) (xB_l (hm_c hg_38_0 (hm_c hg_38_1 (hm_c hg_38_2 hm_n))))) (xB_n (xB_l (hm_c hg_39_0 (hm_c hg_39_1 (hm_c hg_39_2 hm_n)))) (xB_l (hm_c hg_40_0 hm_n)))) (xB_n (xB_n (xB_l (hm_c hg_41_0 hm_n)) (xB_l (hm_c hg_42_0 hm_n))) (xB_n (xB_l (hm_c hg_43_0 hm_n)) (xB_l (hm_c hg_44_0 hm_n)))))) (xB_n (xB_n (xB_n (xB_n (xB_l (hm_c hg_45_0 hm_n)) (xB_l (hm_c hg_46_0 hm_n))) (xB_n (xB_l (hm_c hg_47_0 hm_n)) (xB_l (hm_c hg_48_0 hm_n)))) (xB_n (xB_n (xB_l (hm_c hg_49_0 (hm_c hg_49_1 (hm_c hg_49_2 (hm_c hg_49_3 hm_n))))) (xB_l (hm_c hg_50_0 hm_n))) (xB_n (xB_l (hm_c hg_51_0 (hm_c hg_51_1 (hm_c hg_51_2 hm_n)))) (xB_l (hm_c hg_52_0 (hm_c hg_52_1 hm_n)))))) (xB_n (xB_n (xB_n (xB_l (hm_c hg_53_0 (hm_c hg_53_1 (hm_c hg_53_2 hm_n)))) (xB_l (hm_c hg_54_0 hm_n))) (xB_n (xB_l (hm_c hg_55_0 (hm_c hg_55_1 hm_n))) (xB_l (hm_c hg_56_0 (hm_c hg_56_1 (hm_c hg_56_2 hm_n)))))) (xB_n (xB_n (xB_l (hm_c hg_57_0 hm_n)) (xB_l (hm_c hg_58_0 (hm_c hg_58_1 (hm_c hg_58_2 hm_n))))) (xB_n (xB_l (hm_c hg_59_0 hm_n)) (xB_l (hm_c hg_60_0 hm_n)))))))) (xB_n (xB_n (xB_n (xB_n (xB_n (xB_l (hm_c hg_61_0 hm_n)) (xB_n (xB_l (hm_c hg_62_0 hm_n)) (xB_l (hm_c hg_63_0 hm_n)))) (xB_n (xB_n (xB_l (hm_c hg_64_0 hm_n)) (xB_l (hm_c hg_65_0 hm_n))) (xB_n (xB_l (hm_c hg_66_0 hm_n)) (xB_l (hm_c hg_67_0 hm_n))))) (xB_n (xB_n (xB_n (xB_l (hm_c hg_68_0 hm_n)) (xB_l (hm_c hg_69_0 (hm_c hg_69_1 hm_n)))) (xB_n (xB_l (hm_c hg_70_0 hm_n)) (xB_l (hm_c hg_71_0 hm_n)))) (xB_n (xB_n (xB_l (hm_c hg_72_0 hm_n)) (xB_l (hm_c hg_73_0 hm_n))) (xB_n (xB_l (hm_c hg_74_0 hm_n)) (xB_l (hm_c hg_75_0 hm_n)))))) (xB_n (xB_n (xB_n (xB_l (hm_c hg_76_0 hm_n)) (xB_n (xB_l (hm_c hg_77_0 hm_n)) (xB_l (hm_c hg_78_0 hm_n)))) (xB_n (xB_n (xB_l (hm_c hg_79_0 hm_n)) (xB_l (hm_c hg_80_0 hm_n))) (xB_n (xB_l (hm_c hg_81_0 hm_n)) (xB_l (hm_c hg_82_0 hm_n))))) (xB_n (xB_n (xB_n (xB_l (hm_c hg_83_0 hm_n)) (xB_l (hm_c hg_84_0 hm_n))) (xB_n (xB_l (hm_c hg_85_0 hm_n)) (xB_l (hm_c hg_86_0 hm_n)))) (xB_n (xB_n (xB_l (hm_c hg_87_0 hm_n)) (xB_l (hm_c hg_88_0 hm_n))) (xB_n (xB_l (hm_c hg_89_0 hm_n)) (xB_l (hm_c hg_90_0 hm_n))))))) (xB_n (xB_n (xB_n (xB_n (xB_l (hm_c hg_91_0 hm_n)) (xB_n (xB_l (hm_c hg_92_0 hm_n)) (xB_l (hm_c hg_93_0 hm_n)))) (xB_n (xB_n (xB_l (hm_c hg_94_0 hm_n)) (xB_l (hm_c hg_95_0 hm_n))) (xB_n (xB_l (hm_c hg_96_0 hm_n)) (xB_l (hm_c hg_97_0 hm_n))))) (xB_n (xB_n (xB_n (xB_l (hm_c hg_98_0 hm_n)) (xB_l (hm_c hg_99_0 hm_n))) (xB_n (xB_l (hm_c hg_100_0 hm_n)) (xB_l (hm_c hg_101_0 hm_n)))) (xB_n (xB_n (xB_l (hm_c hg_102_0 hm_n)) (xB_l (hm_c hg_103_0 hm_n))) (xB_n (xB_l (hm_c hg_104_0 (hm_c hg_104_1 (hm_c hg_104_2 hm_n)))) (xB_l (hm_c hg_105_0 hm_n)))))) (xB_n (xB_n (xB_n (xB_n (xB_l (hm_c hg_106_0 hm_n)) (xB_l (hm_c hg_107_0 hm_n))) (xB_n (xB_l (hm_c hg_108_0 hm_n)) (xB_l (hm_c hg_109_0 hm_n)))) (xB_n (xB_n (xB_l (hm_c hg_110_0 hm_n)) (xB_l (hm_c hg_111_0 hm_n))) (xB_n (xB_l (hm_c hg_112_0 hm_n)) (xB_l (hm_c hg_113_0 hm_n))))) (xB_n (xB_n (xB_n (xB_l (hm_c hg_114_0 hm_n)) (xB_l (hm_c hg_115_0 hm_n))) (xB_n (xB_l (hm_c hg_116_0 hm_n)) (xB_l (hm_c hg_117_0 hm_n)))) (xB_n (xB_n (xB_l (hm_c hg_118_0 hm_n)) (xB_l (hm_c hg_119_0 hm_n))) (xB_n (xB_l (hm_c hg_120_0 hm_n)) (xB_l (hm_c hg_121_0 hm_n))))))))) (xB_n (xB_n (xB_n (xB_n (xB_n (xB_n (xB_l (hm_c hg_122_0 hm_n)) (xB_n (xB_l (hm_c hg_123_0 hm_n)) (xB_l (hm_c hg_124_0 hm_n)))) (xB_n (xB_n (xB_l (hm_c hg_125_0 hm_n)) (xB_l (hm_c hg_126_0 hm_n))) (xB_n (xB_l (hm_c hg_127_0 hm_n)) (xB_l (hm_c hg_128_0 hm_n))))) (xB_n (xB_n (xB_n (xB_l (hm_c hg_129_0 hm_n)) (xB_l (hm_c hg_130_0 hm_n))) (xB_n (xB_l (hm_c hg_131_0 hm_n)) (xB_l (hm_c hg_132_0 hm_n)))) (xB_n (xB_n (xB_l (hm_c hg_133_0 hm_n)) (xB_l (hm_c hg_134_0 hm_n))) (xB_n (xB_l (hm_c hg_135_0 hm_n)) (xB_l (hm_c hg_136_0 hm_n)))))) (xB_n (xB_n (xB_n (xB_l (hm_c hg_137_0 hm_n)) (xB_n (xB_l (hm_c hg_138_0 hm_n)) (xB_l (hm_c hg_139_0 hm_n)))) (xB_n (xB_n (xB_l (hm_c hg_140_0 hm_n)) (xB_l (hm_c hg_141_0 hm_n))) (xB_n (xB_l (hm_c hg_142_0 hm_n)) (xB_l (hm_c hg_143_0 hm_n))))) (xB_n (xB_n (xB_n (xB_l (hm_c hg_144_0 hm_n)) (xB_l (hm_c hg_145_0 hm_n))) (xB_n (xB_l (hm_c hg_146_0 hm_n)) (xB_l (hm_c hg_147_0 hm_n)))) (xB_n (xB_n (xB_l (hm_c hg_148_0 hm_n)) (xB_l (hm_c hg_149_0 hm_n))) (xB_n (xB_l (hm_c hg_150_0 hm_n)) (xB_l (hm_c hg_151_0 hm_n))))))) (xB_n (xB_n (xB_n (xB_n (xB_l (hm_c hg_152_0 hm_n)) (xB_n (xB_l (hm_c hg_153_0 hm_n)) (xB_l (hm_c hg_154_0 hm_n)))) (xB_n (xB_n (xB_l (hm_c hg_155_0 hm_n)) (xB_l (hm_c hg_156_0 hm_n))) (xB_n (xB_l (hm_c hg_157_0 hm_n)) (xB_l (hm_c hg_158_0 hm_n))))) (xB_n (xB_n (xB_n (xB_l (hm_c hg_159_0 hm_n)) (xB_l (hm_c hg_160_0 hm_n))) (xB_n (xB_l (hm_c hg_161_0 hm_n)) (xB_l (hm_c hg_162_0 hm_n)))) (xB_n (xB_n (xB_l (hm_c hg_163_0 hm_n)) (xB_l (hm_c hg_164_0 hm_n))) (xB_n (xB_l (hm_c hg_165_0 hm_n)) (xB_l (hm_c hg_166_0 hm_n)))))) (xB_n (xB_n (xB_n (xB_n (xB_l (hm_c hg_167_0 hm_n)) (xB_l (hm_c hg_168_0 hm_n))) (xB_n (xB_l (hm_c hg_169_0 hm_n)) (xB_l (hm_c hg_170_0 hm_n)))) (xB_n (xB_n (xB_l (hm_c hg_171_0 hm_n)) (xB_l (hm_c hg_172_0 hm_n))) (xB_n (xB_l (hm_c hg_173_0 hm_n)) (xB_l (hm_c hg_174_0 hm_n))))) (xB_n (xB_n (xB_n (xB_l (hm_c hg_175_0 hm_n)) (xB_l (hm_c hg_176_0 hm_n))) (xB_n (xB_l (hm_c hg_177_0 hm_n)) (xB_l (hm_c hg_178_0 hm_n)))) (xB_n (xB_n (xB_l (hm_c hg_179_0 hm_n)) (xB_l (hm_c hg_180_0 hm_n))) (xB_n (xB_l (hm_c hg_181_0 hm_n)) (xB_l (hm_c hg_182_0 hm_n)))))))) (xB_n (xB_n (xB_n (xB_n (xB_n (xB_l (hm_c hg_183_0 hm_n)) (xB_n (xB_l (hm_c hg_184_0 hm_n)) (xB_l (hm_c hg_185_0 hm_n)))) (xB_n (xB_n (xB_l (hm_c hg_186_0 hm_n)) (xB_l (hm_c hg_187_0 hm_n))) (xB_n (xB_l (hm_c hg_188_0 hm_n)) (xB_l (hm_c hg_189_0 hm_n))))) (xB_n (xB_n (xB_n (xB_l (hm_c hg_190_0 hm_n)) (xB_l (hm_c hg_191_0 hm_n))) (xB_n (xB_l (hm_c hg_192_0 hm_n)) (xB_l (hm_c hg_193_0 hm_n)))) (xB_n (xB_n (xB_l (hm_c hg_194_0 hm_n)) (xB_l (hm_c hg_195_0 hm_n))) (xB_n (xB_l (hm_c hg_196_0 hm_n)) (xB_l (hm_c hg_197_0 hm_n)))))) (xB_n (xB_n (xB_n (xB_l (hm_c hg_198_0 hm_n)) (xB_n (xB_l (hm_c hg_199_0 hm_n)) (xB_l (hm_c hg_200_0 hm_n)))) (xB_n (xB_n (xB_l (hm_c hg_201_0 hm_n)) (xB_l (hm_c hg_202_0 hm_n))) (xB_n (xB_l (hm_c hg_203_0 hm_n)) (xB_l (hm_c hg_204_0 hm_n))))) (xB_n (xB_n (xB_n (xB_l (hm_c hg_205_0 hm_n)) (xB_l (hm_c hg_206_0 hm_n))) (xB_n (xB_l (hm_c hg_207_0 (hm_c hg_207_1 (hm_c hg_207_2 (hm_c hg_207_3 (hm_c hg_207_4 (hm_c hg_207_5 hm_n))))))) (xB_l (hm_c hg_208_0 hm_n)))) (xB_n (xB_n (xB_l (hm_c hg_209_0 hm_n)) (xB_l (hm_c hg_210_0 hm_n))) (xB_n (xB_l (hm_c hg_211_0 hm_n)) (xB_l (hm_c hg_212_0 hm_n))))))) (xB_n (xB_n (xB_n (xB_n (xB_l (hm_c hg_213_0 hm_n)) (xB_n (xB_l (hm_c hg_214_0 hm_n)) (xB_l (hm_c hg_215_0 hm_n)))) (xB_n (xB_n (xB_l (hm_c hg_216_0 hm_n)) (xB_l (hm_c hg_217_0 hm_n))) (xB_n (xB_l (hm_c hg_218_0 hm_n)) (xB_l (hm_c hg_219_0 hm_n))))) (xB_n (xB_n (xB_n (xB_l (hm_c hg_220_0 hm_n)) (xB_l (hm_c hg_221_0 hm_n))) (xB_n (xB_l (hm_c hg_222_0 hm_n)) (xB_l (hm_c hg_223_0 hm_n)))) (xB_n (xB_n (xB_l (hm_c hg_224_0 hm_n)) (xB_l (hm_c hg_225_0 hm_n))) (xB_n (xB_l (hm_c hg_226_0 hm_n)) (xB_l (hm_c hg_227_0 hm_n)))))) (xB_n (xB_n (xB_n (xB_n (xB_l (hm_c hg_228_0 hm_n)) (xB_l (hm_c hg_229_0 hm_n))) (xB_n (xB_l (hm_c hg_230_0 hm_n)) (xB_l (hm_c hg_231_0 hm_n)))) (xB_n (xB_n (xB_l (hm_c hg_232_0 hm_n)) (xB_l (hm_c hg_233_0 hm_n))) (xB_n (xB_l (hm_c hg_234_0 hm_n)) (xB_l (hm_c hg_235_0 hm_n))))) (xB_n (xB_n (xB_n (xB_l (hm_c hg_236_0 hm_n)) (xB_l (hm_c hg_237_0 hm_n))) (xB_n (xB_l (hm_c hg_238_0 hm_n)) (xB_l (hm_c hg_239_0 hm_n)))) (xB_n (xB_n (xB_l (hm_c hg_240_0 hm_n)) (xB_l (hm_c hg_241_0 hm_n))) (xB_n (xB_l (hm_c hg_242_0 hm_n)) (xB_l (hm_c hg_243_0 hm_n))))))))))
theorem hEn0 {c : Nat} (hc : c < 119) {as : List zV} : hEn (some c, none) (.inr (.inl (some c)) :: as) := ⟨(fun d e => by cases e; exact ⟨_, _, rfl, c, rfl, fun _ => rfl, fun q => absurd q (by omega)⟩), (fun d e => by cases e)⟩
theorem hEn1 {c d : Nat} (hc : c < 119) (hd : d < 119) {as : List zV} : hEn (some c, some d) (.inr (.inl (some c)) :: .inr (.inl (some d)) :: as) := ⟨(fun x e => by cases e; exact ⟨_, _, rfl, c, rfl, fun _ => rfl, fun q => absurd q (by omega)⟩), fun x e => by cases e; exact ⟨(fun q => by cases q), _, _, _, rfl, d, rfl, fun _ => rfl, fun q => absurd q (by omega)⟩⟩
theorem hEnn {as : List zV} : hEn (none, none) as := ⟨(fun d e => by cases e), (fun d e => by cases e)⟩
theorem hf_0_0 {as : List zV} {r : Option zV} {μ μ' : xM} (h : Ex gx (⟨"CapitalCase$History", "keep", "(LCapitalCase$Town;)V"⟩, prog_2_method_2_code, 3, none) as μ r μ') (hE : hEn (some 40, some 28) as) (hO : hOK μ) : r.isSome = false ∧ hRm (hP hw_0_0) (hQ hw_0_0) μ μ' := by
  rw [← show hrt 0 = false from by decide +kernel]
  exact hAll hV0 hg_0_0 hE h hO
theorem hf_1_0 {as : List zV} {r : Option zV} {μ μ' : xM} (h : Ex gx (⟨"CapitalCase$History", "takeBack", "(LCapitalCase$Town;)Z"⟩, prog_2_method_3_code, 4, (some .boolean)) as μ r μ') (hE : hEn (some 40, some 28) as) (hO : hOK μ) : r.isSome = true ∧ hRm (hP hw_1_0) (hQ hw_1_0) μ μ' := by
  rw [← show hrt 1 = true from by decide +kernel]
  exact hAll hV0 hg_1_0 hE h hO
theorem hf_2_0 {as : List zV} {r : Option zV} {μ μ' : xM} (h : Ex gx (⟨"CapitalCase$Judge", "givesLeave", "(LCapitalCase$Town;III)Z"⟩, prog_3_method_2_code, 5, (some .boolean)) as μ r μ') (hE : hEn (some 48, some 28) as) (hO : hOK μ) : r.isSome = true ∧ hRm (hP hw_2_0) (hQ hw_2_0) μ μ' := by
  rw [← show hrt 2 = true from by decide +kernel]
  exact hAll hV0 hg_2_0 hE h hO
theorem hf_2_1 {as : List zV} {r : Option zV} {μ μ' : xM} (h : Ex gx (⟨"CapitalCase$Judge", "givesLeave", "(LCapitalCase$Town;III)Z"⟩, prog_3_method_2_code, 5, (some .boolean)) as μ r μ') (hE : hEn (some 48, some 34) as) (hO : hOK μ) : r.isSome = true ∧ hRm (hP hw_2_1) (hQ hw_2_1) μ μ' := by
  rw [← show hrt 2 = true from by decide +kernel]
  exact hAll hV0 hg_2_1 hE h hO
theorem hf_2_2 {as : List zV} {r : Option zV} {μ μ' : xM} (h : Ex gx (⟨"CapitalCase$Judge", "givesLeave", "(LCapitalCase$Town;III)Z"⟩, prog_3_method_2_code, 5, (some .boolean)) as μ r μ') (hE : hEn (some 48, some 60) as) (hO : hOK μ) : r.isSome = true ∧ hRm (hP hw_2_2) (hQ hw_2_2) μ μ' := by
  rw [← show hrt 2 = true from by decide +kernel]
  exact hAll hV0 hg_2_2 hE h hO
theorem hf_3_0 {as : List zV} {r : Option zV} {μ μ' : xM} (h : Ex gx (⟨"CapitalCase$Judge", "judge", "(I)I"⟩, prog_3_method_8_code, 6, (some .int)) as μ r μ') (hE : hEn (some 48, none) as) (hO : hOK μ) : r.isSome = true ∧ hRm (hP hw_3_0) (hQ hw_3_0) μ μ' := by
  rw [← show hrt 3 = true from by decide +kernel]
  exact hAll hV0 hg_3_0 hE h hO
theorem hf_4_0 {as : List zV} {r : Option zV} {μ μ' : xM} (h : Ex gx (⟨"CapitalCase$Judge", "lookAtHouse", "(LCapitalCase$Town;II)V"⟩, prog_3_method_7_code, 5, none) as μ r μ') (hE : hEn (some 48, some 28) as) (hO : hOK μ) : r.isSome = false ∧ hRm (hP hw_4_0) (hQ hw_4_0) μ μ' := by
  rw [← show hrt 4 = false from by decide +kernel]
  exact hAll hV0 hg_4_0 hE h hO
theorem hf_4_1 {as : List zV} {r : Option zV} {μ μ' : xM} (h : Ex gx (⟨"CapitalCase$Judge", "lookAtHouse", "(LCapitalCase$Town;II)V"⟩, prog_3_method_7_code, 5, none) as μ r μ') (hE : hEn (some 48, some 34) as) (hO : hOK μ) : r.isSome = false ∧ hRm (hP hw_4_1) (hQ hw_4_1) μ μ' := by
  rw [← show hrt 4 = false from by decide +kernel]
  exact hAll hV0 hg_4_1 hE h hO
theorem hf_4_2 {as : List zV} {r : Option zV} {μ μ' : xM} (h : Ex gx (⟨"CapitalCase$Judge", "lookAtHouse", "(LCapitalCase$Town;II)V"⟩, prog_3_method_7_code, 5, none) as μ r μ') (hE : hEn (some 48, some 60) as) (hO : hOK μ) : r.isSome = false ∧ hRm (hP hw_4_2) (hQ hw_4_2) μ μ' := by
  rw [← show hrt 4 = false from by decide +kernel]
  exact hAll hV0 hg_4_2 hE h hO
theorem hf_5_0 {as : List zV} {r : Option zV} {μ μ' : xM} (h : Ex gx (⟨"CapitalCase$Judge", "lookAtVerse", "(I)V"⟩, prog_3_method_6_code, 2, none) as μ r μ') (hE : hEn (some 48, none) as) (hO : hOK μ) : r.isSome = false ∧ hRm (hP hw_5_0) (hQ hw_5_0) μ μ' := by
  rw [← show hrt 5 = false from by decide +kernel]
  exact hAll hV0 hg_5_0 hE h hO
theorem hf_6_0 {as : List zV} {r : Option zV} {μ μ' : xM} (h : Ex gx (⟨"CapitalCase$Judge", "pays", "(II)I"⟩, prog_3_method_5_code, 3, (some .int)) as μ r μ') (hE : hEn (some 48, none) as) (hO : hOK μ) : r.isSome = true ∧ hRm (hP hw_6_0) (hQ hw_6_0) μ μ' := by
  rw [← show hrt 6 = true from by decide +kernel]
  exact hAll hV0 hg_6_0 hE h hO
theorem hf_7_0 {as : List zV} {r : Option zV} {μ μ' : xM} (h : Ex gx (⟨"CapitalCase$Judge", "rank", "(LCapitalCase$Town;III)I"⟩, prog_3_method_3_code, 5, (some .int)) as μ r μ') (hE : hEn (some 48, some 28) as) (hO : hOK μ) : r.isSome = true ∧ hRm (hP hw_7_0) (hQ hw_7_0) μ μ' := by
  rw [← show hrt 7 = true from by decide +kernel]
  exact hAll hV0 hg_7_0 hE h hO
theorem hf_7_1 {as : List zV} {r : Option zV} {μ μ' : xM} (h : Ex gx (⟨"CapitalCase$Judge", "rank", "(LCapitalCase$Town;III)I"⟩, prog_3_method_3_code, 5, (some .int)) as μ r μ') (hE : hEn (some 48, some 34) as) (hO : hOK μ) : r.isSome = true ∧ hRm (hP hw_7_1) (hQ hw_7_1) μ μ' := by
  rw [← show hrt 7 = true from by decide +kernel]
  exact hAll hV0 hg_7_1 hE h hO
theorem hf_7_2 {as : List zV} {r : Option zV} {μ μ' : xM} (h : Ex gx (⟨"CapitalCase$Judge", "rank", "(LCapitalCase$Town;III)I"⟩, prog_3_method_3_code, 5, (some .int)) as μ r μ') (hE : hEn (some 48, some 60) as) (hO : hOK μ) : r.isSome = true ∧ hRm (hP hw_7_2) (hQ hw_7_2) μ μ' := by
  rw [← show hrt 7 = true from by decide +kernel]
  exact hAll hV0 hg_7_2 hE h hO
theorem hf_8_0 {as : List zV} {r : Option zV} {μ μ' : xM} (h : Ex gx (⟨"CapitalCase$Judge", "wears", "(LCapitalCase$Town;II)I"⟩, prog_3_method_4_code, 4, (some .int)) as μ r μ') (hE : hEn (some 48, some 28) as) (hO : hOK μ) : r.isSome = true ∧ hRm (hP hw_8_0) (hQ hw_8_0) μ μ' := by
  rw [← show hrt 8 = true from by decide +kernel]
  exact hAll hV0 hg_8_0 hE h hO
theorem hf_8_1 {as : List zV} {r : Option zV} {μ μ' : xM} (h : Ex gx (⟨"CapitalCase$Judge", "wears", "(LCapitalCase$Town;II)I"⟩, prog_3_method_4_code, 4, (some .int)) as μ r μ') (hE : hEn (some 48, some 34) as) (hO : hOK μ) : r.isSome = true ∧ hRm (hP hw_8_1) (hQ hw_8_1) μ μ' := by
  rw [← show hrt 8 = true from by decide +kernel]
  exact hAll hV0 hg_8_1 hE h hO
theorem hf_8_2 {as : List zV} {r : Option zV} {μ μ' : xM} (h : Ex gx (⟨"CapitalCase$Judge", "wears", "(LCapitalCase$Town;II)I"⟩, prog_3_method_4_code, 4, (some .int)) as μ r μ') (hE : hEn (some 48, some 60) as) (hO : hOK μ) : r.isSome = true ∧ hRm (hP hw_8_2) (hQ hw_8_2) μ μ' := by
  rw [← show hrt 8 = true from by decide +kernel]
  exact hAll hV0 hg_8_2 hE h hO
theorem hf_9_0 {as : List zV} {r : Option zV} {μ μ' : xM} (h : Ex gx (⟨"CapitalCase$Parser", "accept", "(I)Z"⟩, prog_4_method_5_code, 2, (some .boolean)) as μ r μ') (hE : hEn (some 12, none) as) (hO : hOK μ) : r.isSome = true ∧ hRm (hP hw_9_0) (hQ hw_9_0) μ μ' := by
  rw [← show hrt 9 = true from by decide +kernel]
  exact hAll hV0 hg_9_0 hE h hO
theorem hf_10_0 {as : List zV} {r : Option zV} {μ μ' : xM} (h : Ex gx (⟨"CapitalCase$Parser", "fail", "(I)Z"⟩, prog_4_method_4_code, 2, (some .boolean)) as μ r μ') (hE : hEn (some 12, none) as) (hO : hOK μ) : r.isSome = true ∧ hRm (hP hw_10_0) (hQ hw_10_0) μ μ' := by
  rw [← show hrt 10 = true from by decide +kernel]
  exact hAll hV0 hg_10_0 hE h hO
theorem hf_11_0 {as : List zV} {r : Option zV} {μ μ' : xM} (h : Ex gx (⟨"CapitalCase$Parser", "intOf", "(III)I"⟩, prog_4_method_14_code, 6, (some .int)) as μ r μ') (hE : hEn (some 12, none) as) (hO : hOK μ) : r.isSome = true ∧ hRm (hP hw_11_0) (hQ hw_11_0) μ μ' := by
  rw [← show hrt 11 = true from by decide +kernel]
  exact hAll hV0 hg_11_0 hE h hO
theorem hf_12_0 {as : List zV} {r : Option zV} {μ μ' : xM} (h : Ex gx (⟨"CapitalCase$Parser", "isSame", "(II)Z"⟩, prog_4_method_11_code, 4, (some .boolean)) as μ r μ') (hE : hEn (some 12, none) as) (hO : hOK μ) : r.isSome = true ∧ hRm (hP hw_12_0) (hQ hw_12_0) μ μ' := by
  rw [← show hrt 12 = true from by decide +kernel]
  exact hAll hV0 hg_12_0 hE h hO
theorem hf_13_0 {as : List zV} {r : Option zV} {μ μ' : xM} (h : Ex gx (⟨"CapitalCase$Parser", "next", "()I"⟩, prog_4_method_3_code, 1, (some .int)) as μ r μ') (hE : hEn (some 12, none) as) (hO : hOK μ) : r.isSome = true ∧ hRm (hP hw_13_0) (hQ hw_13_0) μ μ' := by
  rw [← show hrt 13 = true from by decide +kernel]
  exact hAll hV0 hg_13_0 hE h hO
theorem hf_14_0 {as : List zV} {r : Option zV} {μ μ' : xM} (h : Ex gx (⟨"CapitalCase$Parser", "noteLater", "(ZII)V"⟩, prog_4_method_6_code, 4, none) as μ r μ') (hE : hEn (some 12, none) as) (hO : hOK μ) : r.isSome = false ∧ hRm (hP hw_14_0) (hQ hw_14_0) μ μ' := by
  rw [← show hrt 14 = false from by decide +kernel]
  exact hAll hV0 hg_14_0 hE h hO
theorem hf_15_0 {as : List zV} {r : Option zV} {μ μ' : xM} (h : Ex gx (⟨"CapitalCase$Parser", "noteName", "(I)V"⟩, prog_4_method_10_code, 3, none) as μ r μ') (hE : hEn (some 12, none) as) (hO : hOK μ) : r.isSome = false ∧ hRm (hP hw_15_0) (hQ hw_15_0) μ μ' := by
  rw [← show hrt 15 = false from by decide +kernel]
  exact hAll hV0 hg_15_0 hE h hO
theorem hf_16_0 {as : List zV} {r : Option zV} {μ μ' : xM} (h : Ex gx (⟨"CapitalCase$Parser", "parse", "(I)I"⟩, prog_4_method_2_code, 3, (some .int)) as μ r μ') (hE : hEn (some 12, none) as) (hO : hOK μ) : r.isSome = true ∧ hRm (hP hw_16_0) (hQ hw_16_0) μ μ' := by
  rw [← show hrt 16 = true from by decide +kernel]
  exact hAll hV0 hg_16_0 hE h hO
theorem hf_17_0 {as : List zV} {r : Option zV} {μ μ' : xM} (h : Ex gx (⟨"CapitalCase$Parser", "parseHouse", "()V"⟩, prog_4_method_7_code, 4, none) as μ r μ') (hE : hEn (some 12, none) as) (hO : hOK μ) : r.isSome = false ∧ hRm (hP hw_17_0) (hQ hw_17_0) μ μ' := by
  rw [← show hrt 17 = false from by decide +kernel]
  exact hAll hV0 hg_17_0 hE h hO
theorem hf_18_0 {as : List zV} {r : Option zV} {μ μ' : xM} (h : Ex gx (⟨"CapitalCase$Parser", "parseLaw", "(I)V"⟩, prog_4_method_15_code, 5, none) as μ r μ') (hE : hEn (some 12, none) as) (hO : hOK μ) : r.isSome = false ∧ hRm (hP hw_18_0) (hQ hw_18_0) μ μ' := by
  rw [← show hrt 18 = false from by decide +kernel]
  exact hAll hV0 hg_18_0 hE h hO
theorem hf_19_0 {as : List zV} {r : Option zV} {μ μ' : xM} (h : Ex gx (⟨"CapitalCase$Parser", "parseNumber", "(I)V"⟩, prog_4_method_9_code, 3, none) as μ r μ') (hE : hEn (some 12, none) as) (hO : hOK μ) : r.isSome = false ∧ hRm (hP hw_19_0) (hQ hw_19_0) μ μ' := by
  rw [← show hrt 19 = false from by decide +kernel]
  exact hAll hV0 hg_19_0 hE h hO
theorem hf_20_0 {as : List zV} {r : Option zV} {μ μ' : xM} (h : Ex gx (⟨"CapitalCase$Parser", "parseVerse", "()V"⟩, prog_4_method_8_code, 5, none) as μ r μ') (hE : hEn (some 12, none) as) (hO : hOK μ) : r.isSome = false ∧ hRm (hP hw_20_0) (hQ hw_20_0) μ μ' := by
  rw [← show hrt 20 = false from by decide +kernel]
  exact hAll hV0 hg_20_0 hE h hO
theorem hf_21_0 {as : List zV} {r : Option zV} {μ μ' : xM} (h : Ex gx (⟨"CapitalCase$Planner", "giveUp", "(II)V"⟩, prog_5_method_6_code, 5, none) as μ r μ') (hE : hEn (some 52, none) as) (hO : hOK μ) : r.isSome = false ∧ hRm (hP hw_21_0) (hQ hw_21_0) μ μ' := by
  rw [← show hrt 21 = false from by decide +kernel]
  exact hAll hV0 hg_21_0 hE h hO
theorem hf_21_1 {as : List zV} {r : Option zV} {μ μ' : xM} (h : Ex gx (⟨"CapitalCase$Planner", "giveUp", "(II)V"⟩, prog_5_method_6_code, 5, none) as μ r μ') (hE : hEn (some 67, none) as) (hO : hOK μ) : r.isSome = false ∧ hRm (hP hw_21_1) (hQ hw_21_1) μ μ' := by
  rw [← show hrt 21 = false from by decide +kernel]
  exact hAll hV0 hg_21_1 hE h hO
theorem hf_22_0 {as : List zV} {r : Option zV} {μ μ' : xM} (h : Ex gx (⟨"CapitalCase$Planner", "keepIfMore", "(II)V"⟩, prog_5_method_10_code, 3, none) as μ r μ') (hE : hEn (some 52, none) as) (hO : hOK μ) : r.isSome = false ∧ hRm (hP hw_22_0) (hQ hw_22_0) μ μ' := by
  rw [← show hrt 22 = false from by decide +kernel]
  exact hAll hV0 hg_22_0 hE h hO
theorem hf_22_1 {as : List zV} {r : Option zV} {μ μ' : xM} (h : Ex gx (⟨"CapitalCase$Planner", "keepIfMore", "(II)V"⟩, prog_5_method_10_code, 3, none) as μ r μ') (hE : hEn (some 67, none) as) (hO : hOK μ) : r.isSome = false ∧ hRm (hP hw_22_1) (hQ hw_22_1) μ μ' := by
  rw [← show hrt 22 = false from by decide +kernel]
  exact hAll hV0 hg_22_1 hE h hO
theorem hf_23_0 {as : List zV} {r : Option zV} {μ μ' : xM} (h : Ex gx (⟨"CapitalCase$Planner", "lastOf", "(I)I"⟩, prog_5_method_11_code, 2, (some .int)) as μ r μ') (hE : hEn (none, none) as) (hO : hOK μ) : r.isSome = true ∧ hRm (hP hw_23_0) (hQ hw_23_0) μ μ' := by
  rw [← show hrt 23 = true from by decide +kernel]
  exact hAll hV0 hg_23_0 hE h hO
theorem hf_24_0 {as : List zV} {r : Option zV} {μ μ' : xM} (h : Ex gx (⟨"CapitalCase$Planner", "orderGivers", "(LCapitalCase$Town;II)V"⟩, prog_5_method_3_code, 9, none) as μ r μ') (hE : hEn (some 52, some 28) as) (hO : hOK μ) : r.isSome = false ∧ hRm (hP hw_24_0) (hQ hw_24_0) μ μ' := by
  rw [← show hrt 24 = false from by decide +kernel]
  exact hAll hV0 hg_24_0 hE h hO
theorem hf_24_1 {as : List zV} {r : Option zV} {μ μ' : xM} (h : Ex gx (⟨"CapitalCase$Planner", "orderGivers", "(LCapitalCase$Town;II)V"⟩, prog_5_method_3_code, 9, none) as μ r μ') (hE : hEn (some 52, some 34) as) (hO : hOK μ) : r.isSome = false ∧ hRm (hP hw_24_1) (hQ hw_24_1) μ μ' := by
  rw [← show hrt 24 = false from by decide +kernel]
  exact hAll hV0 hg_24_1 hE h hO
theorem hf_24_2 {as : List zV} {r : Option zV} {μ μ' : xM} (h : Ex gx (⟨"CapitalCase$Planner", "orderGivers", "(LCapitalCase$Town;II)V"⟩, prog_5_method_3_code, 9, none) as μ r μ') (hE : hEn (some 67, some 60) as) (hO : hOK μ) : r.isSome = false ∧ hRm (hP hw_24_2) (hQ hw_24_2) μ μ' := by
  rw [← show hrt 24 = false from by decide +kernel]
  exact hAll hV0 hg_24_2 hE h hO
theorem hf_25_0 {as : List zV} {r : Option zV} {μ μ' : xM} (h : Ex gx (⟨"CapitalCase$Planner", "pick", "(II)I"⟩, prog_5_method_5_code, 7, (some .int)) as μ r μ') (hE : hEn (some 52, none) as) (hO : hOK μ) : r.isSome = true ∧ hRm (hP hw_25_0) (hQ hw_25_0) μ μ' := by
  rw [← show hrt 25 = true from by decide +kernel]
  exact hAll hV0 hg_25_0 hE h hO
theorem hf_25_1 {as : List zV} {r : Option zV} {μ μ' : xM} (h : Ex gx (⟨"CapitalCase$Planner", "pick", "(II)I"⟩, prog_5_method_5_code, 7, (some .int)) as μ r μ') (hE : hEn (some 67, none) as) (hO : hOK μ) : r.isSome = true ∧ hRm (hP hw_25_1) (hQ hw_25_1) μ μ' := by
  rw [← show hrt 25 = true from by decide +kernel]
  exact hAll hV0 hg_25_1 hE h hO
theorem hf_26_0 {as : List zV} {r : Option zV} {μ μ' : xM} (h : Ex gx (⟨"CapitalCase$Planner", "prepare", "(LCapitalCase$Town;I)V"⟩, prog_5_method_2_code, 5, none) as μ r μ') (hE : hEn (some 52, some 28) as) (hO : hOK μ) : r.isSome = false ∧ hRm (hP hw_26_0) (hQ hw_26_0) μ μ' := by
  rw [← show hrt 26 = false from by decide +kernel]
  exact hAll hV0 hg_26_0 hE h hO
theorem hf_26_1 {as : List zV} {r : Option zV} {μ μ' : xM} (h : Ex gx (⟨"CapitalCase$Planner", "prepare", "(LCapitalCase$Town;I)V"⟩, prog_5_method_2_code, 5, none) as μ r μ') (hE : hEn (some 52, some 34) as) (hO : hOK μ) : r.isSome = false ∧ hRm (hP hw_26_1) (hQ hw_26_1) μ μ' := by
  rw [← show hrt 26 = false from by decide +kernel]
  exact hAll hV0 hg_26_1 hE h hO
theorem hf_26_2 {as : List zV} {r : Option zV} {μ μ' : xM} (h : Ex gx (⟨"CapitalCase$Planner", "prepare", "(LCapitalCase$Town;I)V"⟩, prog_5_method_2_code, 5, none) as μ r μ') (hE : hEn (some 67, some 60) as) (hO : hOK μ) : r.isSome = false ∧ hRm (hP hw_26_2) (hQ hw_26_2) μ μ' := by
  rw [← show hrt 26 = false from by decide +kernel]
  exact hAll hV0 hg_26_2 hE h hO
theorem hf_27_0 {as : List zV} {r : Option zV} {μ μ' : xM} (h : Ex gx (⟨"CapitalCase$Planner", "search", "()V"⟩, prog_5_method_9_code, 6, none) as μ r μ') (hE : hEn (some 52, none) as) (hO : hOK μ) : r.isSome = false ∧ hRm (hP hw_27_0) (hQ hw_27_0) μ μ' := by
  rw [← show hrt 27 = false from by decide +kernel]
  exact hAll hV0 hg_27_0 hE h hO
theorem hf_27_1 {as : List zV} {r : Option zV} {μ μ' : xM} (h : Ex gx (⟨"CapitalCase$Planner", "search", "()V"⟩, prog_5_method_9_code, 6, none) as μ r μ') (hE : hEn (some 67, none) as) (hO : hOK μ) : r.isSome = false ∧ hRm (hP hw_27_1) (hQ hw_27_1) μ μ' := by
  rw [← show hrt 27 = false from by decide +kernel]
  exact hAll hV0 hg_27_1 hE h hO
theorem hf_28_0 {as : List zV} {r : Option zV} {μ μ' : xM} (h : Ex gx (⟨"CapitalCase$Planner", "seek", "(LCapitalCase$Town;)V"⟩, prog_5_method_7_code, 2, none) as μ r μ') (hE : hEn (some 52, some 28) as) (hO : hOK μ) : r.isSome = false ∧ hRm (hP hw_28_0) (hQ hw_28_0) μ μ' := by
  rw [← show hrt 28 = false from by decide +kernel]
  exact hAll hV0 hg_28_0 hE h hO
theorem hf_28_1 {as : List zV} {r : Option zV} {μ μ' : xM} (h : Ex gx (⟨"CapitalCase$Planner", "seek", "(LCapitalCase$Town;)V"⟩, prog_5_method_7_code, 2, none) as μ r μ') (hE : hEn (some 52, some 34) as) (hO : hOK μ) : r.isSome = false ∧ hRm (hP hw_28_1) (hQ hw_28_1) μ μ' := by
  rw [← show hrt 28 = false from by decide +kernel]
  exact hAll hV0 hg_28_1 hE h hO
theorem hf_28_2 {as : List zV} {r : Option zV} {μ μ' : xM} (h : Ex gx (⟨"CapitalCase$Planner", "seek", "(LCapitalCase$Town;)V"⟩, prog_5_method_7_code, 2, none) as μ r μ') (hE : hEn (some 67, some 60) as) (hO : hOK μ) : r.isSome = false ∧ hRm (hP hw_28_2) (hQ hw_28_2) μ μ' := by
  rw [← show hrt 28 = false from by decide +kernel]
  exact hAll hV0 hg_28_2 hE h hO
theorem hf_29_0 {as : List zV} {r : Option zV} {μ μ' : xM} (h : Ex gx (⟨"CapitalCase$Planner", "seekWithout", "(LCapitalCase$Town;I)V"⟩, prog_5_method_8_code, 4, none) as μ r μ') (hE : hEn (some 52, some 28) as) (hO : hOK μ) : r.isSome = false ∧ hRm (hP hw_29_0) (hQ hw_29_0) μ μ' := by
  rw [← show hrt 29 = false from by decide +kernel]
  exact hAll hV0 hg_29_0 hE h hO
theorem hf_30_0 {as : List zV} {r : Option zV} {μ μ' : xM} (h : Ex gx (⟨"CapitalCase$Planner", "take", "(I)Z"⟩, prog_5_method_4_code, 5, (some .boolean)) as μ r μ') (hE : hEn (some 52, none) as) (hO : hOK μ) : r.isSome = true ∧ hRm (hP hw_30_0) (hQ hw_30_0) μ μ' := by
  rw [← show hrt 30 = true from by decide +kernel]
  exact hAll hV0 hg_30_0 hE h hO
theorem hf_30_1 {as : List zV} {r : Option zV} {μ μ' : xM} (h : Ex gx (⟨"CapitalCase$Planner", "take", "(I)Z"⟩, prog_5_method_4_code, 5, (some .boolean)) as μ r μ') (hE : hEn (some 67, none) as) (hO : hOK μ) : r.isSome = true ∧ hRm (hP hw_30_1) (hQ hw_30_1) μ μ' := by
  rw [← show hrt 30 = true from by decide +kernel]
  exact hAll hV0 hg_30_1 hE h hO
theorem hf_31_0 {as : List zV} {r : Option zV} {μ μ' : xM} (h : Ex gx (⟨"CapitalCase$Press", "daysTillWornOut", "(LCapitalCase$Town;II)I"⟩, prog_6_method_10_code, 5, (some .int)) as μ r μ') (hE : hEn (some 51, some 34) as) (hO : hOK μ) : r.isSome = true ∧ hRm (hP hw_31_0) (hQ hw_31_0) μ μ' := by
  rw [← show hrt 31 = true from by decide +kernel]
  exact hAll hV0 hg_31_0 hE h hO
theorem hf_32_0 {as : List zV} {r : Option zV} {μ μ' : xM} (h : Ex gx (⟨"CapitalCase$Press", "lot", "(III)I"⟩, prog_6_method_8_code, 4, (some .int)) as μ r μ') (hE : hEn (none, none) as) (hO : hOK μ) : r.isSome = true ∧ hRm (hP hw_32_0) (hQ hw_32_0) μ μ' := by
  rw [← show hrt 32 = true from by decide +kernel]
  exact hAll hV0 hg_32_0 hE h hO
theorem hf_33_0 {as : List zV} {r : Option zV} {μ μ' : xM} (h : Ex gx (⟨"CapitalCase$Press", "mix", "(II)I"⟩, prog_6_method_9_code, 3, (some .int)) as μ r μ') (hE : hEn (none, none) as) (hO : hOK μ) : r.isSome = true ∧ hRm (hP hw_33_0) (hQ hw_33_0) μ μ' := by
  rw [← show hrt 33 = true from by decide +kernel]
  exact hAll hV0 hg_33_0 hE h hO
theorem hf_34_0 {as : List zV} {r : Option zV} {μ μ' : xM} (h : Ex gx (⟨"CapitalCase$Press", "owed", "(LCapitalCase$Town;)I"⟩, prog_6_method_3_code, 4, (some .int)) as μ r μ') (hE : hEn (some 51, some 28) as) (hO : hOK μ) : r.isSome = true ∧ hRm (hP hw_34_0) (hQ hw_34_0) μ μ' := by
  rw [← show hrt 34 = true from by decide +kernel]
  exact hAll hV0 hg_34_0 hE h hO
theorem hf_34_1 {as : List zV} {r : Option zV} {μ μ' : xM} (h : Ex gx (⟨"CapitalCase$Press", "owed", "(LCapitalCase$Town;)I"⟩, prog_6_method_3_code, 4, (some .int)) as μ r μ') (hE : hEn (some 51, some 34) as) (hO : hOK μ) : r.isSome = true ∧ hRm (hP hw_34_1) (hQ hw_34_1) μ μ' := by
  rw [← show hrt 34 = true from by decide +kernel]
  exact hAll hV0 hg_34_1 hE h hO
theorem hf_34_2 {as : List zV} {r : Option zV} {μ μ' : xM} (h : Ex gx (⟨"CapitalCase$Press", "owed", "(LCapitalCase$Town;)I"⟩, prog_6_method_3_code, 4, (some .int)) as μ r μ') (hE : hEn (some 51, some 60) as) (hO : hOK μ) : r.isSome = true ∧ hRm (hP hw_34_2) (hQ hw_34_2) μ μ' := by
  rw [← show hrt 34 = true from by decide +kernel]
  exact hAll hV0 hg_34_2 hE h hO
theorem hf_35_0 {as : List zV} {r : Option zV} {μ μ' : xM} (h : Ex gx (⟨"CapitalCase$Press", "passDays", "(LCapitalCase$Town;II)V"⟩, prog_6_method_2_code, 5, none) as μ r μ') (hE : hEn (some 51, some 28) as) (hO : hOK μ) : r.isSome = false ∧ hRm (hP hw_35_0) (hQ hw_35_0) μ μ' := by
  rw [← show hrt 35 = false from by decide +kernel]
  exact hAll hV0 hg_35_0 hE h hO
theorem hf_35_1 {as : List zV} {r : Option zV} {μ μ' : xM} (h : Ex gx (⟨"CapitalCase$Press", "passDays", "(LCapitalCase$Town;II)V"⟩, prog_6_method_2_code, 5, none) as μ r μ') (hE : hEn (some 51, some 34) as) (hO : hOK μ) : r.isSome = false ∧ hRm (hP hw_35_1) (hQ hw_35_1) μ μ' := by
  rw [← show hrt 35 = false from by decide +kernel]
  exact hAll hV0 hg_35_1 hE h hO
theorem hf_36_0 {as : List zV} {r : Option zV} {μ μ' : xM} (h : Ex gx (⟨"CapitalCase$Press", "steal", "(LCapitalCase$Town;I)V"⟩, prog_6_method_7_code, 6, none) as μ r μ') (hE : hEn (some 51, some 28) as) (hO : hOK μ) : r.isSome = false ∧ hRm (hP hw_36_0) (hQ hw_36_0) μ μ' := by
  rw [← show hrt 36 = false from by decide +kernel]
  exact hAll hV0 hg_36_0 hE h hO
theorem hf_36_1 {as : List zV} {r : Option zV} {μ μ' : xM} (h : Ex gx (⟨"CapitalCase$Press", "steal", "(LCapitalCase$Town;I)V"⟩, prog_6_method_7_code, 6, none) as μ r μ') (hE : hEn (some 51, some 34) as) (hO : hOK μ) : r.isSome = false ∧ hRm (hP hw_36_1) (hQ hw_36_1) μ μ' := by
  rw [← show hrt 36 = false from by decide +kernel]
  exact hAll hV0 hg_36_1 hE h hO
theorem hf_37_0 {as : List zV} {r : Option zV} {μ μ' : xM} (h : Ex gx (⟨"CapitalCase$Press", "thievesCome", "(II)Z"⟩, prog_6_method_6_code, 3, (some .boolean)) as μ r μ') (hE : hEn (some 51, none) as) (hO : hOK μ) : r.isSome = true ∧ hRm (hP hw_37_0) (hQ hw_37_0) μ μ' := by
  rw [← show hrt 37 = true from by decide +kernel]
  exact hAll hV0 hg_37_0 hE h hO
theorem hf_38_0 {as : List zV} {r : Option zV} {μ μ' : xM} (h : Ex gx (⟨"CapitalCase$Press", "wear", "(LCapitalCase$Town;II)Z"⟩, prog_6_method_5_code, 6, (some .boolean)) as μ r μ') (hE : hEn (some 51, some 28) as) (hO : hOK μ) : r.isSome = true ∧ hRm (hP hw_38_0) (hQ hw_38_0) μ μ' := by
  rw [← show hrt 38 = true from by decide +kernel]
  exact hAll hV0 hg_38_0 hE h hO
theorem hf_38_1 {as : List zV} {r : Option zV} {μ μ' : xM} (h : Ex gx (⟨"CapitalCase$Press", "wear", "(LCapitalCase$Town;II)Z"⟩, prog_6_method_5_code, 6, (some .boolean)) as μ r μ') (hE : hEn (some 51, some 34) as) (hO : hOK μ) : r.isSome = true ∧ hRm (hP hw_38_1) (hQ hw_38_1) μ μ' := by
  rw [← show hrt 38 = true from by decide +kernel]
  exact hAll hV0 hg_38_1 hE h hO
theorem hf_38_2 {as : List zV} {r : Option zV} {μ μ' : xM} (h : Ex gx (⟨"CapitalCase$Press", "wear", "(LCapitalCase$Town;II)Z"⟩, prog_6_method_5_code, 6, (some .boolean)) as μ r μ') (hE : hEn (some 51, some 60) as) (hO : hOK μ) : r.isSome = true ∧ hRm (hP hw_38_2) (hQ hw_38_2) μ μ' := by
  rw [← show hrt 38 = true from by decide +kernel]
  exact hAll hV0 hg_38_2 hE h hO
theorem hf_39_0 {as : List zV} {r : Option zV} {μ μ' : xM} (h : Ex gx (⟨"CapitalCase$Press", "work", "(LCapitalCase$Town;)V"⟩, prog_6_method_4_code, 4, none) as μ r μ') (hE : hEn (some 51, some 28) as) (hO : hOK μ) : r.isSome = false ∧ hRm (hP hw_39_0) (hQ hw_39_0) μ μ' := by
  rw [← show hrt 39 = false from by decide +kernel]
  exact hAll hV0 hg_39_0 hE h hO
theorem hf_39_1 {as : List zV} {r : Option zV} {μ μ' : xM} (h : Ex gx (⟨"CapitalCase$Press", "work", "(LCapitalCase$Town;)V"⟩, prog_6_method_4_code, 4, none) as μ r μ') (hE : hEn (some 51, some 34) as) (hO : hOK μ) : r.isSome = false ∧ hRm (hP hw_39_1) (hQ hw_39_1) μ μ' := by
  rw [← show hrt 39 = false from by decide +kernel]
  exact hAll hV0 hg_39_1 hE h hO
theorem hf_39_2 {as : List zV} {r : Option zV} {μ μ' : xM} (h : Ex gx (⟨"CapitalCase$Press", "work", "(LCapitalCase$Town;)V"⟩, prog_6_method_4_code, 4, none) as μ r μ') (hE : hEn (some 51, some 60) as) (hO : hOK μ) : r.isSome = false ∧ hRm (hP hw_39_2) (hQ hw_39_2) μ μ' := by
  rw [← show hrt 39 = false from by decide +kernel]
  exact hAll hV0 hg_39_2 hE h hO
theorem hf_40_0 {as : List zV} {r : Option zV} {μ μ' : xM} (h : Ex gx (⟨"CapitalCase$Prints", "left", "(LCapitalCase$Town;II)I"⟩, prog_7_method_3_code, 8, (some .int)) as μ r μ') (hE : hEn (some 44, some 28) as) (hO : hOK μ) : r.isSome = true ∧ hRm (hP hw_40_0) (hQ hw_40_0) μ μ' := by
  rw [← show hrt 40 = true from by decide +kernel]
  exact hAll hV0 hg_40_0 hE h hO
theorem hf_41_0 {as : List zV} {r : Option zV} {μ μ' : xM} (h : Ex gx (⟨"CapitalCase$Prints", "letterToAsk", "(LCapitalCase$Town;II)I"⟩, prog_7_method_4_code, 9, (some .int)) as μ r μ') (hE : hEn (some 44, some 28) as) (hO : hOK μ) : r.isSome = true ∧ hRm (hP hw_41_0) (hQ hw_41_0) μ μ' := by
  rw [← show hrt 41 = true from by decide +kernel]
  exact hAll hV0 hg_41_0 hE h hO
theorem hf_42_0 {as : List zV} {r : Option zV} {μ μ' : xM} (h : Ex gx (⟨"CapitalCase$Prints", "note", "(IIZ)I"⟩, prog_7_method_2_code, 4, (some .int)) as μ r μ') (hE : hEn (some 44, none) as) (hO : hOK μ) : r.isSome = true ∧ hRm (hP hw_42_0) (hQ hw_42_0) μ μ' := by
  rw [← show hrt 42 = true from by decide +kernel]
  exact hAll hV0 hg_42_0 hE h hO
theorem hf_43_0 {as : List zV} {r : Option zV} {μ μ' : xM} (h : Ex gx (⟨"CapitalCase$Script", "add", "(II)V"⟩, prog_8_method_4_code, 3, none) as μ r μ') (hE : hEn (some 13, none) as) (hO : hOK μ) : r.isSome = false ∧ hRm (hP hw_43_0) (hQ hw_43_0) μ μ' := by
  rw [← show hrt 43 = false from by decide +kernel]
  exact hAll hV0 hg_43_0 hE h hO
theorem hf_44_0 {as : List zV} {r : Option zV} {μ μ' : xM} (h : Ex gx (⟨"CapitalCase$Script", "become", "(LCapitalCase$Script;)V"⟩, prog_8_method_6_code, 2, none) as μ r μ') (hE : hEn (some 2, some 13) as) (hO : hOK μ) : r.isSome = false ∧ hRm (hP hw_44_0) (hQ hw_44_0) μ μ' := by
  rw [← show hrt 44 = false from by decide +kernel]
  exact hAll hV0 hg_44_0 hE h hO
theorem hf_45_0 {as : List zV} {r : Option zV} {μ μ' : xM} (h : Ex gx (⟨"CapitalCase$Script", "layDown", "(III)V"⟩, prog_8_method_3_code, 4, none) as μ r μ') (hE : hEn (some 13, none) as) (hO : hOK μ) : r.isSome = false ∧ hRm (hP hw_45_0) (hQ hw_45_0) μ μ' := by
  rw [← show hrt 45 = false from by decide +kernel]
  exact hAll hV0 hg_45_0 hE h hO
theorem hf_46_0 {as : List zV} {r : Option zV} {μ μ' : xM} (h : Ex gx (⟨"CapitalCase$Script", "lettersOf", "(I)I"⟩, prog_8_method_7_code, 4, (some .int)) as μ r μ') (hE : hEn (some 2, none) as) (hO : hOK μ) : r.isSome = true ∧ hRm (hP hw_46_0) (hQ hw_46_0) μ μ' := by
  rw [← show hrt 46 = true from by decide +kernel]
  exact hAll hV0 hg_46_0 hE h hO
theorem hf_47_0 {as : List zV} {r : Option zV} {μ μ' : xM} (h : Ex gx (⟨"CapitalCase$Script", "wipe", "()V"⟩, prog_8_method_2_code, 1, none) as μ r μ') (hE : hEn (some 13, none) as) (hO : hOK μ) : r.isSome = false ∧ hRm (hP hw_47_0) (hQ hw_47_0) μ μ' := by
  rw [← show hrt 47 = false from by decide +kernel]
  exact hAll hV0 hg_47_0 hE h hO
theorem hf_48_0 {as : List zV} {r : Option zV} {μ μ' : xM} (h : Ex gx (⟨"CapitalCase$Tokens", "scan", "([BI)V"⟩, prog_9_method_2_code, 5, none) as μ r μ') (hE : hEn (some 23, some 1) as) (hO : hOK μ) : r.isSome = false ∧ hRm (hP hw_48_0) (hQ hw_48_0) μ μ' := by
  rw [← show hrt 48 = false from by decide +kernel]
  exact hAll hV0 hg_48_0 hE h hO
theorem hf_49_0 {as : List zV} {r : Option zV} {μ μ' : xM} (h : Ex gx (⟨"CapitalCase$Town", "become", "(LCapitalCase$Town;)V"⟩, prog_10_method_3_code, 2, none) as μ r μ') (hE : hEn (some 28, none) as) (hO : hOK μ) : r.isSome = false ∧ hRm (hP hw_49_0) (hQ hw_49_0) μ μ' := by
  rw [← show hrt 49 = false from by decide +kernel]
  exact hAll hV0 hg_49_0 hE h hO
theorem hf_49_1 {as : List zV} {r : Option zV} {μ μ' : xM} (h : Ex gx (⟨"CapitalCase$Town", "become", "(LCapitalCase$Town;)V"⟩, prog_10_method_3_code, 2, none) as μ r μ') (hE : hEn (some 34, some 28) as) (hO : hOK μ) : r.isSome = false ∧ hRm (hP hw_49_1) (hQ hw_49_1) μ μ' := by
  rw [← show hrt 49 = false from by decide +kernel]
  exact hAll hV0 hg_49_1 hE h hO
theorem hf_49_2 {as : List zV} {r : Option zV} {μ μ' : xM} (h : Ex gx (⟨"CapitalCase$Town", "become", "(LCapitalCase$Town;)V"⟩, prog_10_method_3_code, 2, none) as μ r μ') (hE : hEn (some 60, some 28) as) (hO : hOK μ) : r.isSome = false ∧ hRm (hP hw_49_2) (hQ hw_49_2) μ μ' := by
  rw [← show hrt 49 = false from by decide +kernel]
  exact hAll hV0 hg_49_2 hE h hO
theorem hf_49_3 {as : List zV} {r : Option zV} {μ μ' : xM} (h : Ex gx (⟨"CapitalCase$Town", "become", "(LCapitalCase$Town;)V"⟩, prog_10_method_3_code, 2, none) as μ r μ') (hE : hEn (none, none) as) (hO : hOK μ) : r.isSome = false ∧ hRm (hP hw_49_3) (hQ hw_49_3) μ μ' := by
  rw [← show hrt 49 = false from by decide +kernel]
  exact hAll hV0 hg_49_3 hE h hO
theorem hf_50_0 {as : List zV} {r : Option zV} {μ μ' : xM} (h : Ex gx (⟨"CapitalCase$Town", "begin", "(LCapitalCase$Script;)V"⟩, prog_10_method_2_code, 2, none) as μ r μ') (hE : hEn (some 28, some 2) as) (hO : hOK μ) : r.isSome = false ∧ hRm (hP hw_50_0) (hQ hw_50_0) μ μ' := by
  rw [← show hrt 50 = false from by decide +kernel]
  exact hAll hV0 hg_50_0 hE h hO
theorem hf_51_0 {as : List zV} {r : Option zV} {μ μ' : xM} (h : Ex gx (⟨"CapitalCase$Town", "free", "(I)I"⟩, prog_10_method_4_code, 2, (some .int)) as μ r μ') (hE : hEn (some 28, none) as) (hO : hOK μ) : r.isSome = true ∧ hRm (hP hw_51_0) (hQ hw_51_0) μ μ' := by
  rw [← show hrt 51 = true from by decide +kernel]
  exact hAll hV0 hg_51_0 hE h hO
theorem hf_51_1 {as : List zV} {r : Option zV} {μ μ' : xM} (h : Ex gx (⟨"CapitalCase$Town", "free", "(I)I"⟩, prog_10_method_4_code, 2, (some .int)) as μ r μ') (hE : hEn (some 34, none) as) (hO : hOK μ) : r.isSome = true ∧ hRm (hP hw_51_1) (hQ hw_51_1) μ μ' := by
  rw [← show hrt 51 = true from by decide +kernel]
  exact hAll hV0 hg_51_1 hE h hO
theorem hf_51_2 {as : List zV} {r : Option zV} {μ μ' : xM} (h : Ex gx (⟨"CapitalCase$Town", "free", "(I)I"⟩, prog_10_method_4_code, 2, (some .int)) as μ r μ') (hE : hEn (some 60, none) as) (hO : hOK μ) : r.isSome = true ∧ hRm (hP hw_51_2) (hQ hw_51_2) μ μ' := by
  rw [← show hrt 51 = true from by decide +kernel]
  exact hAll hV0 hg_51_2 hE h hO
theorem hf_52_0 {as : List zV} {r : Option zV} {μ μ' : xM} (h : Ex gx (⟨"CapitalCase$Town", "lay", "(LCapitalCase$Script;I[I)V"⟩, prog_10_method_8_code, 6, none) as μ r μ') (hE : hEn (some 28, some 2) as) (hO : hOK μ) : r.isSome = false ∧ hRm (hP hw_52_0) (hQ hw_52_0) μ μ' := by
  rw [← show hrt 52 = false from by decide +kernel]
  exact hAll hV0 hg_52_0 hE h hO
theorem hf_52_1 {as : List zV} {r : Option zV} {μ μ' : xM} (h : Ex gx (⟨"CapitalCase$Town", "lay", "(LCapitalCase$Script;I[I)V"⟩, prog_10_method_8_code, 6, none) as μ r μ') (hE : hEn (some 60, some 2) as) (hO : hOK μ) : r.isSome = false ∧ hRm (hP hw_52_1) (hQ hw_52_1) μ μ' := by
  rw [← show hrt 52 = false from by decide +kernel]
  exact hAll hV0 hg_52_1 hE h hO
theorem hf_53_0 {as : List zV} {r : Option zV} {μ μ' : xM} (h : Ex gx (⟨"CapitalCase$Town", "lentBy", "(II)I"⟩, prog_10_method_5_code, 5, (some .int)) as μ r μ') (hE : hEn (some 28, none) as) (hO : hOK μ) : r.isSome = true ∧ hRm (hP hw_53_0) (hQ hw_53_0) μ μ' := by
  rw [← show hrt 53 = true from by decide +kernel]
  exact hAll hV0 hg_53_0 hE h hO
theorem hf_53_1 {as : List zV} {r : Option zV} {μ μ' : xM} (h : Ex gx (⟨"CapitalCase$Town", "lentBy", "(II)I"⟩, prog_10_method_5_code, 5, (some .int)) as μ r μ') (hE : hEn (some 34, none) as) (hO : hOK μ) : r.isSome = true ∧ hRm (hP hw_53_1) (hQ hw_53_1) μ μ' := by
  rw [← show hrt 53 = true from by decide +kernel]
  exact hAll hV0 hg_53_1 hE h hO
theorem hf_53_2 {as : List zV} {r : Option zV} {μ μ' : xM} (h : Ex gx (⟨"CapitalCase$Town", "lentBy", "(II)I"⟩, prog_10_method_5_code, 5, (some .int)) as μ r μ') (hE : hEn (some 60, none) as) (hO : hOK μ) : r.isSome = true ∧ hRm (hP hw_53_2) (hQ hw_53_2) μ μ' := by
  rw [← show hrt 53 = true from by decide +kernel]
  exact hAll hV0 hg_53_2 hE h hO
theorem hf_54_0 {as : List zV} {r : Option zV} {μ μ' : xM} (h : Ex gx (⟨"CapitalCase$Town", "lentTo", "(II)I"⟩, prog_10_method_6_code, 5, (some .int)) as μ r μ') (hE : hEn (some 28, none) as) (hO : hOK μ) : r.isSome = true ∧ hRm (hP hw_54_0) (hQ hw_54_0) μ μ' := by
  rw [← show hrt 54 = true from by decide +kernel]
  exact hAll hV0 hg_54_0 hE h hO
theorem hf_55_0 {as : List zV} {r : Option zV} {μ μ' : xM} (h : Ex gx (⟨"CapitalCase$Town", "lift", "(LCapitalCase$Script;I)V"⟩, prog_10_method_9_code, 5, none) as μ r μ') (hE : hEn (some 28, some 2) as) (hO : hOK μ) : r.isSome = false ∧ hRm (hP hw_55_0) (hQ hw_55_0) μ μ' := by
  rw [← show hrt 55 = false from by decide +kernel]
  exact hAll hV0 hg_55_0 hE h hO
theorem hf_55_1 {as : List zV} {r : Option zV} {μ μ' : xM} (h : Ex gx (⟨"CapitalCase$Town", "lift", "(LCapitalCase$Script;I)V"⟩, prog_10_method_9_code, 5, none) as μ r μ') (hE : hEn (some 60, some 2) as) (hO : hOK μ) : r.isSome = false ∧ hRm (hP hw_55_1) (hQ hw_55_1) μ μ' := by
  rw [← show hrt 55 = false from by decide +kernel]
  exact hAll hV0 hg_55_1 hE h hO
theorem hf_56_0 {as : List zV} {r : Option zV} {μ μ' : xM} (h : Ex gx (⟨"CapitalCase$Town", "lose", "(I)Z"⟩, prog_10_method_11_code, 2, (some .boolean)) as μ r μ') (hE : hEn (some 28, none) as) (hO : hOK μ) : r.isSome = true ∧ hRm (hP hw_56_0) (hQ hw_56_0) μ μ' := by
  rw [← show hrt 56 = true from by decide +kernel]
  exact hAll hV0 hg_56_0 hE h hO
theorem hf_56_1 {as : List zV} {r : Option zV} {μ μ' : xM} (h : Ex gx (⟨"CapitalCase$Town", "lose", "(I)Z"⟩, prog_10_method_11_code, 2, (some .boolean)) as μ r μ') (hE : hEn (some 34, none) as) (hO : hOK μ) : r.isSome = true ∧ hRm (hP hw_56_1) (hQ hw_56_1) μ μ' := by
  rw [← show hrt 56 = true from by decide +kernel]
  exact hAll hV0 hg_56_1 hE h hO
theorem hf_56_2 {as : List zV} {r : Option zV} {μ μ' : xM} (h : Ex gx (⟨"CapitalCase$Town", "lose", "(I)Z"⟩, prog_10_method_11_code, 2, (some .boolean)) as μ r μ') (hE : hEn (some 60, none) as) (hO : hOK μ) : r.isSome = true ∧ hRm (hP hw_56_2) (hQ hw_56_2) μ μ' := by
  rw [← show hrt 56 = true from by decide +kernel]
  exact hAll hV0 hg_56_2 hE h hO
theorem hf_57_0 {as : List zV} {r : Option zV} {μ μ' : xM} (h : Ex gx (⟨"CapitalCase$Town", "move", "(III)V"⟩, prog_10_method_10_code, 4, none) as μ r μ') (hE : hEn (some 28, none) as) (hO : hOK μ) : r.isSome = false ∧ hRm (hP hw_57_0) (hQ hw_57_0) μ μ' := by
  rw [← show hrt 57 = false from by decide +kernel]
  exact hAll hV0 hg_57_0 hE h hO
theorem hf_58_0 {as : List zV} {r : Option zV} {μ μ' : xM} (h : Ex gx (⟨"CapitalCase$Town", "open", "(I)I"⟩, prog_10_method_7_code, 2, (some .int)) as μ r μ') (hE : hEn (some 28, none) as) (hO : hOK μ) : r.isSome = true ∧ hRm (hP hw_58_0) (hQ hw_58_0) μ μ' := by
  rw [← show hrt 58 = true from by decide +kernel]
  exact hAll hV0 hg_58_0 hE h hO
theorem hf_58_1 {as : List zV} {r : Option zV} {μ μ' : xM} (h : Ex gx (⟨"CapitalCase$Town", "open", "(I)I"⟩, prog_10_method_7_code, 2, (some .int)) as μ r μ') (hE : hEn (some 34, none) as) (hO : hOK μ) : r.isSome = true ∧ hRm (hP hw_58_1) (hQ hw_58_1) μ μ' := by
  rw [← show hrt 58 = true from by decide +kernel]
  exact hAll hV0 hg_58_1 hE h hO
theorem hf_58_2 {as : List zV} {r : Option zV} {μ μ' : xM} (h : Ex gx (⟨"CapitalCase$Town", "open", "(I)I"⟩, prog_10_method_7_code, 2, (some .int)) as μ r μ') (hE : hEn (some 60, none) as) (hO : hOK μ) : r.isSome = true ∧ hRm (hP hw_58_2) (hQ hw_58_2) μ μ' := by
  rw [← show hrt 58 = true from by decide +kernel]
  exact hAll hV0 hg_58_2 hE h hO
theorem hf_59_0 {as : List zV} {r : Option zV} {μ μ' : xM} (h : Ex gx (⟨"CapitalCase$Trade", "freeElsewhere", "(LCapitalCase$Town;II)I"⟩, prog_11_method_3_code, 6, (some .int)) as μ r μ') (hE : hEn (some 74, some 28) as) (hO : hOK μ) : r.isSome = true ∧ hRm (hP hw_59_0) (hQ hw_59_0) μ μ' := by
  rw [← show hrt 59 = true from by decide +kernel]
  exact hAll hV0 hg_59_0 hE h hO
theorem hf_60_0 {as : List zV} {r : Option zV} {μ μ' : xM} (h : Ex gx (⟨"CapitalCase$Trade", "gains", "(LCapitalCase$Town;III)Z"⟩, prog_11_method_6_code, 5, (some .boolean)) as μ r μ') (hE : hEn (some 74, some 28) as) (hO : hOK μ) : r.isSome = true ∧ hRm (hP hw_60_0) (hQ hw_60_0) μ μ' := by
  rw [← show hrt 60 = true from by decide +kernel]
  exact hAll hV0 hg_60_0 hE h hO
theorem hf_61_0 {as : List zV} {r : Option zV} {μ μ' : xM} (h : Ex gx (⟨"CapitalCase$Trade", "loansFor", "(LCapitalCase$Town;II)I"⟩, prog_11_method_2_code, 9, (some .int)) as μ r μ') (hE : hEn (some 74, some 28) as) (hO : hOK μ) : r.isSome = true ∧ hRm (hP hw_61_0) (hQ hw_61_0) μ μ' := by
  rw [← show hrt 61 = true from by decide +kernel]
  exact hAll hV0 hg_61_0 hE h hO
theorem hf_62_0 {as : List zV} {r : Option zV} {μ μ' : xM} (h : Ex gx (⟨"CapitalCase$Trade", "seekBargains", "(LCapitalCase$Town;)V"⟩, prog_11_method_4_code, 4, none) as μ r μ') (hE : hEn (some 74, some 28) as) (hO : hOK μ) : r.isSome = false ∧ hRm (hP hw_62_0) (hQ hw_62_0) μ μ' := by
  rw [← show hrt 62 = false from by decide +kernel]
  exact hAll hV0 hg_62_0 hE h hO
theorem hf_63_0 {as : List zV} {r : Option zV} {μ μ' : xM} (h : Ex gx (⟨"CapitalCase$Trade", "seekBetween", "(LCapitalCase$Town;II)V"⟩, prog_11_method_5_code, 6, none) as μ r μ') (hE : hEn (some 74, some 28) as) (hO : hOK μ) : r.isSome = false ∧ hRm (hP hw_63_0) (hQ hw_63_0) μ μ' := by
  rw [← show hrt 63 = false from by decide +kernel]
  exact hAll hV0 hg_63_0 hE h hO
theorem hf_64_0 {as : List zV} {r : Option zV} {μ μ' : xM} (h : Ex gx (⟨"CapitalCase$Trade", "versesAlone", "(LCapitalCase$Town;III)I"⟩, prog_11_method_7_code, 12, (some .int)) as μ r μ') (hE : hEn (some 74, some 28) as) (hO : hOK μ) : r.isSome = true ∧ hRm (hP hw_64_0) (hQ hw_64_0) μ μ' := by
  rw [← show hrt 64 = true from by decide +kernel]
  exact hAll hV0 hg_64_0 hE h hO
theorem hf_65_0 {as : List zV} {r : Option zV} {μ μ' : xM} (h : Ex gx (⟨"CapitalCase$TwoDays", "giveUpAll", "(I)V"⟩, prog_12_method_5_code, 3, none) as μ r μ') (hE : hEn (some 59, none) as) (hO : hOK μ) : r.isSome = false ∧ hRm (hP hw_65_0) (hQ hw_65_0) μ μ' := by
  rw [← show hrt 65 = false from by decide +kernel]
  exact hAll hV0 hg_65_0 hE h hO
theorem hf_66_0 {as : List zV} {r : Option zV} {μ μ' : xM} (h : Ex gx (⟨"CapitalCase$TwoDays", "passFirst", "(LCapitalCase$Town;I)V"⟩, prog_12_method_6_code, 4, none) as μ r μ') (hE : hEn (some 59, some 28) as) (hO : hOK μ) : r.isSome = false ∧ hRm (hP hw_66_0) (hQ hw_66_0) μ μ' := by
  rw [← show hrt 66 = false from by decide +kernel]
  exact hAll hV0 hg_66_0 hE h hO
theorem hf_67_0 {as : List zV} {r : Option zV} {μ μ' : xM} (h : Ex gx (⟨"CapitalCase$TwoDays", "seek", "(LCapitalCase$Town;)V"⟩, prog_12_method_2_code, 6, none) as μ r μ') (hE : hEn (some 59, some 28) as) (hO : hOK μ) : r.isSome = false ∧ hRm (hP hw_67_0) (hQ hw_67_0) μ μ' := by
  rw [← show hrt 67 = false from by decide +kernel]
  exact hAll hV0 hg_67_0 hE h hO
theorem hf_68_0 {as : List zV} {r : Option zV} {μ μ' : xM} (h : Ex gx (⟨"CapitalCase$TwoDays", "takeAll", "(I)Z"⟩, prog_12_method_4_code, 3, (some .boolean)) as μ r μ') (hE : hEn (some 59, none) as) (hO : hOK μ) : r.isSome = true ∧ hRm (hP hw_68_0) (hQ hw_68_0) μ μ' := by
  rw [← show hrt 68 = true from by decide +kernel]
  exact hAll hV0 hg_68_0 hE h hO
theorem hf_69_0 {as : List zV} {r : Option zV} {μ μ' : xM} (h : Ex gx (⟨"CapitalCase$TwoDays", "total", "([II)I"⟩, prog_12_method_3_code, 5, (some .int)) as μ r μ') (hE : hEn (some 59, some 2003) as) (hO : hOK μ) : r.isSome = true ∧ hRm (hP hw_69_0) (hQ hw_69_0) μ μ' := by
  rw [← show hrt 69 = true from by decide +kernel]
  exact hAll hV0 hg_69_0 hE h hO
theorem hf_69_1 {as : List zV} {r : Option zV} {μ μ' : xM} (h : Ex gx (⟨"CapitalCase$TwoDays", "total", "([II)I"⟩, prog_12_method_3_code, 5, (some .int)) as μ r μ') (hE : hEn (some 59, some 66) as) (hO : hOK μ) : r.isSome = true ∧ hRm (hP hw_69_1) (hQ hw_69_1) μ μ' := by
  rw [← show hrt 69 = true from by decide +kernel]
  exact hAll hV0 hg_69_1 hE h hO
theorem hf_70_0 {as : List zV} {r : Option zV} {μ μ' : xM} (h : Ex gx (⟨"CapitalCase", "append", "(I)V"⟩, prog_1_method_3_code, 3, none) as μ r μ') (hE : hEn (some 0, none) as) (hO : hOK μ) : r.isSome = false ∧ hRm (hP hw_70_0) (hQ hw_70_0) μ μ' := by
  rw [← show hrt 70 = false from by decide +kernel]
  exact hAll hV0 hg_70_0 hE h hO
theorem hf_71_0 {as : List zV} {r : Option zV} {μ μ' : xM} (h : Ex gx (⟨"CapitalCase", "ask", "(II)I"⟩, prog_1_method_41_code, 3, (some .int)) as μ r μ') (hE : hEn (some 0, none) as) (hO : hOK μ) : r.isSome = true ∧ hRm (hP hw_71_0) (hQ hw_71_0) μ μ' := by
  rw [← show hrt 71 = true from by decide +kernel]
  exact hAll hV0 hg_71_0 hE h hO
theorem hf_72_0 {as : List zV} {r : Option zV} {μ μ' : xM} (h : Ex gx (⟨"CapitalCase", "back", "(I)I"⟩, prog_1_method_4_code, 2, (some .int)) as μ r μ') (hE : hEn (some 0, none) as) (hO : hOK μ) : r.isSome = true ∧ hRm (hP hw_72_0) (hQ hw_72_0) μ μ' := by
  rw [← show hrt 72 = true from by decide +kernel]
  exact hAll hV0 hg_72_0 hE h hO
theorem hf_73_0 {as : List zV} {r : Option zV} {μ μ' : xM} (h : Ex gx (⟨"CapitalCase", "bargains", "(I)I"⟩, prog_1_method_30_code, 2, (some .int)) as μ r μ') (hE : hEn (some 0, none) as) (hO : hOK μ) : r.isSome = true ∧ hRm (hP hw_73_0) (hQ hw_73_0) μ μ' := by
  rw [← show hrt 73 = true from by decide +kernel]
  exact hAll hV0 hg_73_0 hE h hO
theorem hf_74_0 {as : List zV} {r : Option zV} {μ μ' : xM} (h : Ex gx (⟨"CapitalCase", "beginAnew", "()V"⟩, prog_1_method_6_code, 2, none) as μ r μ') (hE : hEn (some 0, none) as) (hO : hOK μ) : r.isSome = false ∧ hRm (hP hw_74_0) (hQ hw_74_0) μ μ' := by
  rw [← show hrt 74 = false from by decide +kernel]
  exact hAll hV0 hg_74_0 hE h hO
theorem hf_75_0 {as : List zV} {r : Option zV} {μ μ' : xM} (h : Ex gx (⟨"CapitalCase", "best", "(I)I"⟩, prog_1_method_25_code, 2, (some .int)) as μ r μ') (hE : hEn (some 0, none) as) (hO : hOK μ) : r.isSome = true ∧ hRm (hP hw_75_0) (hQ hw_75_0) μ μ' := by
  rw [← show hrt 75 = true from by decide +kernel]
  exact hAll hV0 hg_75_0 hE h hO
theorem hf_76_0 {as : List zV} {r : Option zV} {μ μ' : xM} (h : Ex gx (⟨"CapitalCase", "clash", "(I)I"⟩, prog_1_method_32_code, 2, (some .int)) as μ r μ') (hE : hEn (some 0, none) as) (hO : hOK μ) : r.isSome = true ∧ hRm (hP hw_76_0) (hQ hw_76_0) μ μ' := by
  rw [← show hrt 76 = true from by decide +kernel]
  exact hAll hV0 hg_76_0 hE h hO
theorem hf_77_0 {as : List zV} {r : Option zV} {μ μ' : xM} (h : Ex gx (⟨"CapitalCase", "clear", "(I)Z"⟩, prog_1_method_19_code, 2, (some .boolean)) as μ r μ') (hE : hEn (some 0, none) as) (hO : hOK μ) : r.isSome = true ∧ hRm (hP hw_77_0) (hQ hw_77_0) μ μ' := by
  rw [← show hrt 77 = true from by decide +kernel]
  exact hAll hV0 hg_77_0 hE h hO
theorem hf_78_0 {as : List zV} {r : Option zV} {μ μ' : xM} (h : Ex gx (⟨"CapitalCase", "couldBeSet", "(I)Z"⟩, prog_1_method_18_code, 2, (some .boolean)) as μ r μ') (hE : hEn (some 0, none) as) (hO : hOK μ) : r.isSome = true ∧ hRm (hP hw_78_0) (hQ hw_78_0) μ μ' := by
  rw [← show hrt 78 = true from by decide +kernel]
  exact hAll hV0 hg_78_0 hE h hO
theorem hf_79_0 {as : List zV} {r : Option zV} {μ μ' : xM} (h : Ex gx (⟨"CapitalCase", "count", "(I)I"⟩, prog_1_method_44_code, 2, (some .int)) as μ r μ') (hE : hEn (some 0, none) as) (hO : hOK μ) : r.isSome = true ∧ hRm (hP hw_79_0) (hQ hw_79_0) μ μ' := by
  rw [← show hrt 79 = true from by decide +kernel]
  exact hAll hV0 hg_79_0 hE h hO
theorem hf_80_0 {as : List zV} {r : Option zV} {μ μ' : xM} (h : Ex gx (⟨"CapitalCase", "days", "(I)I"⟩, prog_1_method_22_code, 2, (some .int)) as μ r μ') (hE : hEn (some 0, none) as) (hO : hOK μ) : r.isSome = true ∧ hRm (hP hw_80_0) (hQ hw_80_0) μ μ' := by
  rw [← show hrt 80 = true from by decide +kernel]
  exact hAll hV0 hg_80_0 hE h hO
theorem hf_81_0 {as : List zV} {r : Option zV} {μ μ' : xM} (h : Ex gx (⟨"CapitalCase", "feed", "(IIIII)I"⟩, prog_1_method_2_code, 6, (some .int)) as μ r μ') (hE : hEn (some 0, none) as) (hO : hOK μ) : r.isSome = true ∧ hRm (hP hw_81_0) (hQ hw_81_0) μ μ' := by
  rw [← show hrt 81 = true from by decide +kernel]
  exact hAll hV0 hg_81_0 hE h hO
theorem hf_82_0 {as : List zV} {r : Option zV} {μ μ' : xM} (h : Ex gx (⟨"CapitalCase", "forget", "()I"⟩, prog_1_method_39_code, 2, (some .int)) as μ r μ') (hE : hEn (some 0, none) as) (hO : hOK μ) : r.isSome = true ∧ hRm (hP hw_82_0) (hQ hw_82_0) μ μ' := by
  rw [← show hrt 82 = true from by decide +kernel]
  exact hAll hV0 hg_82_0 hE h hO
theorem hf_83_0 {as : List zV} {r : Option zV} {μ μ' : xM} (h : Ex gx (⟨"CapitalCase", "from", "(II)I"⟩, prog_1_method_24_code, 3, (some .int)) as μ r μ') (hE : hEn (some 0, none) as) (hO : hOK μ) : r.isSome = true ∧ hRm (hP hw_83_0) (hQ hw_83_0) μ μ' := by
  rw [← show hrt 83 = true from by decide +kernel]
  exact hAll hV0 hg_83_0 hE h hO
theorem hf_84_0 {as : List zV} {r : Option zV} {μ μ' : xM} (h : Ex gx (⟨"CapitalCase", "giveBack", "(III)Z"⟩, prog_1_method_21_code, 5, (some .boolean)) as μ r μ') (hE : hEn (some 0, none) as) (hO : hOK μ) : r.isSome = true ∧ hRm (hP hw_84_0) (hQ hw_84_0) μ μ' := by
  rw [← show hrt 84 = true from by decide +kernel]
  exact hAll hV0 hg_84_0 hE h hO
theorem hf_85_0 {as : List zV} {r : Option zV} {μ μ' : xM} (h : Ex gx (⟨"CapitalCase", "heldSlots", "()I"⟩, prog_1_method_46_code, 3, (some .int)) as μ r μ') (hE : hEn (some 0, none) as) (hO : hOK μ) : r.isSome = true ∧ hRm (hP hw_85_0) (hQ hw_85_0) μ μ' := by
  rw [← show hrt 85 = true from by decide +kernel]
  exact hAll hV0 hg_85_0 hE h hO
theorem hf_86_0 {as : List zV} {r : Option zV} {μ μ' : xM} (h : Ex gx (⟨"CapitalCase", "hold", "(I)Z"⟩, prog_1_method_42_code, 2, (some .boolean)) as μ r μ') (hE : hEn (some 0, none) as) (hO : hOK μ) : r.isSome = true ∧ hRm (hP hw_86_0) (hQ hw_86_0) μ μ' := by
  rw [← show hrt 86 = true from by decide +kernel]
  exact hAll hV0 hg_86_0 hE h hO
theorem hf_87_0 {as : List zV} {r : Option zV} {μ μ' : xM} (h : Ex gx (⟨"CapitalCase", "house", "(III)I"⟩, prog_1_method_12_code, 5, (some .int)) as μ r μ') (hE : hEn (some 0, none) as) (hO : hOK μ) : r.isSome = true ∧ hRm (hP hw_87_0) (hQ hw_87_0) μ μ' := by
  rw [← show hrt 87 = true from by decide +kernel]
  exact hAll hV0 hg_87_0 hE h hO
theorem hf_88_0 {as : List zV} {r : Option zV} {μ μ' : xM} (h : Ex gx (⟨"CapitalCase", "isCell", "(II)Z"⟩, prog_1_method_9_code, 3, (some .boolean)) as μ r μ') (hE : hEn (some 0, none) as) (hO : hOK μ) : r.isSome = true ∧ hRm (hP hw_88_0) (hQ hw_88_0) μ μ' := by
  rw [← show hrt 88 = true from by decide +kernel]
  exact hAll hV0 hg_88_0 hE h hO
theorem hf_89_0 {as : List zV} {r : Option zV} {μ μ' : xM} (h : Ex gx (⟨"CapitalCase", "isHouse", "(I)Z"⟩, prog_1_method_8_code, 2, (some .boolean)) as μ r μ') (hE : hEn (some 0, none) as) (hO : hOK μ) : r.isSome = true ∧ hRm (hP hw_89_0) (hQ hw_89_0) μ μ' := by
  rw [← show hrt 89 = true from by decide +kernel]
  exact hAll hV0 hg_89_0 hE h hO
theorem hf_90_0 {as : List zV} {r : Option zV} {μ μ' : xM} (h : Ex gx (⟨"CapitalCase", "isOpen", "(I)Z"⟩, prog_1_method_11_code, 2, (some .boolean)) as μ r μ') (hE : hEn (some 0, none) as) (hO : hOK μ) : r.isSome = true ∧ hRm (hP hw_90_0) (hQ hw_90_0) μ μ' := by
  rw [← show hrt 90 = true from by decide +kernel]
  exact hAll hV0 hg_90_0 hE h hO
theorem hf_91_0 {as : List zV} {r : Option zV} {μ μ' : xM} (h : Ex gx (⟨"CapitalCase", "isVerse", "(I)Z"⟩, prog_1_method_10_code, 2, (some .boolean)) as μ r μ') (hE : hEn (some 0, none) as) (hO : hOK μ) : r.isSome = true ∧ hRm (hP hw_91_0) (hQ hw_91_0) μ μ' := by
  rw [← show hrt 91 = true from by decide +kernel]
  exact hAll hV0 hg_91_0 hE h hO
theorem hf_92_0 {as : List zV} {r : Option zV} {μ μ' : xM} (h : Ex gx (⟨"CapitalCase", "late", "()I"⟩, prog_1_method_33_code, 3, (some .int)) as μ r μ') (hE : hEn (some 0, none) as) (hO : hOK μ) : r.isSome = true ∧ hRm (hP hw_92_0) (hQ hw_92_0) μ μ' := by
  rw [← show hrt 92 = true from by decide +kernel]
  exact hAll hV0 hg_92_0 hE h hO
theorem hf_93_0 {as : List zV} {r : Option zV} {μ μ' : xM} (h : Ex gx (⟨"CapitalCase", "lend", "(III)Z"⟩, prog_1_method_20_code, 4, (some .boolean)) as μ r μ') (hE : hEn (some 0, none) as) (hO : hOK μ) : r.isSome = true ∧ hRm (hP hw_93_0) (hQ hw_93_0) μ μ' := by
  rw [← show hrt 93 = true from by decide +kernel]
  exact hAll hV0 hg_93_0 hE h hO
theorem hf_94_0 {as : List zV} {r : Option zV} {μ μ' : xM} (h : Ex gx (⟨"CapitalCase", "loans", "(II)I"⟩, prog_1_method_29_code, 3, (some .int)) as μ r μ') (hE : hEn (some 0, none) as) (hO : hOK μ) : r.isSome = true ∧ hRm (hP hw_94_0) (hQ hw_94_0) μ μ' := by
  rw [← show hrt 94 = true from by decide +kernel]
  exact hAll hV0 hg_94_0 hE h hO
theorem hf_95_0 {as : List zV} {r : Option zV} {μ μ' : xM} (h : Ex gx (⟨"CapitalCase", "paidIn", "(I)I"⟩, prog_1_method_36_code, 2, (some .int)) as μ r μ') (hE : hEn (some 0, none) as) (hO : hOK μ) : r.isSome = true ∧ hRm (hP hw_95_0) (hQ hw_95_0) μ μ' := by
  rw [← show hrt 95 = true from by decide +kernel]
  exact hAll hV0 hg_95_0 hE h hO
theorem hf_96_0 {as : List zV} {r : Option zV} {μ μ' : xM} (h : Ex gx (⟨"CapitalCase", "pillar", "(I)I"⟩, prog_1_method_27_code, 5, (some .int)) as μ r μ') (hE : hEn (some 0, none) as) (hO : hOK μ) : r.isSome = true ∧ hRm (hP hw_96_0) (hQ hw_96_0) μ μ' := by
  rw [← show hrt 96 = true from by decide +kernel]
  exact hAll hV0 hg_96_0 hE h hO
theorem hf_97_0 {as : List zV} {r : Option zV} {μ μ' : xM} (h : Ex gx (⟨"CapitalCase", "place", "()I"⟩, prog_1_method_7_code, 1, (some .int)) as μ r μ') (hE : hEn (some 0, none) as) (hO : hOK μ) : r.isSome = true ∧ hRm (hP hw_97_0) (hQ hw_97_0) μ μ' := by
  rw [← show hrt 97 = true from by decide +kernel]
  exact hAll hV0 hg_97_0 hE h hO
theorem hf_98_0 {as : List zV} {r : Option zV} {μ μ' : xM} (h : Ex gx (⟨"CapitalCase", "read", "()I"⟩, prog_1_method_5_code, 2, (some .int)) as μ r μ') (hE : hEn (some 0, none) as) (hO : hOK μ) : r.isSome = true ∧ hRm (hP hw_98_0) (hQ hw_98_0) μ μ' := by
  rw [← show hrt 98 = true from by decide +kernel]
  exact hAll hV0 hg_98_0 hE h hO
theorem hf_99_0 {as : List zV} {r : Option zV} {μ μ' : xM} (h : Ex gx (⟨"CapitalCase", "restore", "(I)Z"⟩, prog_1_method_43_code, 2, (some .boolean)) as μ r μ') (hE : hEn (some 0, none) as) (hO : hOK μ) : r.isSome = true ∧ hRm (hP hw_99_0) (hQ hw_99_0) μ μ' := by
  rw [← show hrt 99 = true from by decide +kernel]
  exact hAll hV0 hg_99_0 hE h hO
theorem hf_100_0 {as : List zV} {r : Option zV} {μ μ' : xM} (h : Ex gx (⟨"CapitalCase", "set", "(I)Z"⟩, prog_1_method_17_code, 2, (some .boolean)) as μ r μ') (hE : hEn (some 0, none) as) (hO : hOK μ) : r.isSome = true ∧ hRm (hP hw_100_0) (hQ hw_100_0) μ μ' := by
  rw [← show hrt 100 = true from by decide +kernel]
  exact hAll hV0 hg_100_0 hE h hO
theorem hf_101_0 {as : List zV} {r : Option zV} {μ μ' : xM} (h : Ex gx (⟨"CapitalCase", "settable", "()I"⟩, prog_1_method_47_code, 3, (some .int)) as μ r μ') (hE : hEn (some 0, none) as) (hO : hOK μ) : r.isSome = true ∧ hRm (hP hw_101_0) (hQ hw_101_0) μ μ' := by
  rw [← show hrt 101 = true from by decide +kernel]
  exact hAll hV0 hg_101_0 hE h hO
theorem hf_102_0 {as : List zV} {r : Option zV} {μ μ' : xM} (h : Ex gx (⟨"CapitalCase", "standOf", "(I)I"⟩, prog_1_method_14_code, 4, (some .int)) as μ r μ') (hE : hEn (some 0, none) as) (hO : hOK μ) : r.isSome = true ∧ hRm (hP hw_102_0) (hQ hw_102_0) μ μ' := by
  rw [← show hrt 102 = true from by decide +kernel]
  exact hAll hV0 hg_102_0 hE h hO
theorem hf_103_0 {as : List zV} {r : Option zV} {μ μ' : xM} (h : Ex gx (⟨"CapitalCase", "strike", "(I)I"⟩, prog_1_method_31_code, 4, (some .int)) as μ r μ') (hE : hEn (some 0, none) as) (hO : hOK μ) : r.isSome = true ∧ hRm (hP hw_103_0) (hQ hw_103_0) μ μ' := by
  rw [← show hrt 103 = true from by decide +kernel]
  exact hAll hV0 hg_103_0 hE h hO
theorem hf_104_0 {as : List zV} {r : Option zV} {μ μ' : xM} (h : Ex gx (⟨"CapitalCase", "sum", "([I)I"⟩, prog_1_method_45_code, 6, (some .int)) as μ r μ') (hE : hEn (some 29, none) as) (hO : hOK μ) : r.isSome = true ∧ hRm (hP hw_104_0) (hQ hw_104_0) μ μ' := by
  rw [← show hrt 104 = true from by decide +kernel]
  exact hAll hV0 hg_104_0 hE h hO
theorem hf_104_1 {as : List zV} {r : Option zV} {μ μ' : xM} (h : Ex gx (⟨"CapitalCase", "sum", "([I)I"⟩, prog_1_method_45_code, 6, (some .int)) as μ r μ') (hE : hEn (some 30, none) as) (hO : hOK μ) : r.isSome = true ∧ hRm (hP hw_104_1) (hQ hw_104_1) μ μ' := by
  rw [← show hrt 104 = true from by decide +kernel]
  exact hAll hV0 hg_104_1 hE h hO
theorem hf_104_2 {as : List zV} {r : Option zV} {μ μ' : xM} (h : Ex gx (⟨"CapitalCase", "sum", "([I)I"⟩, prog_1_method_45_code, 6, (some .int)) as μ r μ') (hE : hEn (some 32, none) as) (hO : hOK μ) : r.isSome = true ∧ hRm (hP hw_104_2) (hQ hw_104_2) μ μ' := by
  rw [← show hrt 104 = true from by decide +kernel]
  exact hAll hV0 hg_104_2 hE h hO
theorem hf_105_0 {as : List zV} {r : Option zV} {μ μ' : xM} (h : Ex gx (⟨"CapitalCase", "tell", "(IIZ)I"⟩, prog_1_method_38_code, 4, (some .int)) as μ r μ') (hE : hEn (some 0, none) as) (hO : hOK μ) : r.isSome = true ∧ hRm (hP hw_105_0) (hQ hw_105_0) μ μ' := by
  rw [← show hrt 105 = true from by decide +kernel]
  exact hAll hV0 hg_105_0 hE h hO
theorem hf_106_0 {as : List zV} {r : Option zV} {μ μ' : xM} (h : Ex gx (⟨"CapitalCase", "tells", "(IIII)I"⟩, prog_1_method_16_code, 5, (some .int)) as μ r μ') (hE : hEn (some 0, none) as) (hO : hOK μ) : r.isSome = true ∧ hRm (hP hw_106_0) (hQ hw_106_0) μ μ' := by
  rw [← show hrt 106 = true from by decide +kernel]
  exact hAll hV0 hg_106_0 hE h hO
theorem hf_107_0 {as : List zV} {r : Option zV} {μ μ' : xM} (h : Ex gx (⟨"CapitalCase", "then", "(IIII)I"⟩, prog_1_method_35_code, 6, (some .int)) as μ r μ') (hE : hEn (some 0, none) as) (hO : hOK μ) : r.isSome = true ∧ hRm (hP hw_107_0) (hQ hw_107_0) μ μ' := by
  rw [← show hrt 107 = true from by decide +kernel]
  exact hAll hV0 hg_107_0 hE h hO
theorem hf_108_0 {as : List zV} {r : Option zV} {μ μ' : xM} (h : Ex gx (⟨"CapitalCase", "twoDays", "(I)I"⟩, prog_1_method_28_code, 2, (some .int)) as μ r μ') (hE : hEn (some 0, none) as) (hO : hOK μ) : r.isSome = true ∧ hRm (hP hw_108_0) (hQ hw_108_0) μ μ' := by
  rw [← show hrt 108 = true from by decide +kernel]
  exact hAll hV0 hg_108_0 hE h hO
theorem hf_109_0 {as : List zV} {r : Option zV} {μ μ' : xM} (h : Ex gx (⟨"CapitalCase", "undo", "()Z"⟩, prog_1_method_23_code, 1, (some .boolean)) as μ r μ') (hE : hEn (some 0, none) as) (hO : hOK μ) : r.isSome = true ∧ hRm (hP hw_109_0) (hQ hw_109_0) μ μ' := by
  rw [← show hrt 109 = true from by decide +kernel]
  exact hAll hV0 hg_109_0 hE h hO
theorem hf_110_0 {as : List zV} {r : Option zV} {μ μ' : xM} (h : Ex gx (⟨"CapitalCase", "verse", "(II)I"⟩, prog_1_method_13_code, 3, (some .int)) as μ r μ') (hE : hEn (some 0, none) as) (hO : hOK μ) : r.isSome = true ∧ hRm (hP hw_110_0) (hQ hw_110_0) μ μ' := by
  rw [← show hrt 110 = true from by decide +kernel]
  exact hAll hV0 hg_110_0 hE h hO
theorem hf_111_0 {as : List zV} {r : Option zV} {μ μ' : xM} (h : Ex gx (⟨"CapitalCase", "wants", "(II)I"⟩, prog_1_method_15_code, 3, (some .int)) as μ r μ') (hE : hEn (some 0, none) as) (hO : hOK μ) : r.isSome = true ∧ hRm (hP hw_111_0) (hQ hw_111_0) μ μ' := by
  rw [← show hrt 111 = true from by decide +kernel]
  exact hAll hV0 hg_111_0 hE h hO
theorem hf_112_0 {as : List zV} {r : Option zV} {μ μ' : xM} (h : Ex gx (⟨"CapitalCase", "whose", "(II)I"⟩, prog_1_method_40_code, 4, (some .int)) as μ r μ') (hE : hEn (some 0, none) as) (hO : hOK μ) : r.isSome = true ∧ hRm (hP hw_112_0) (hQ hw_112_0) μ μ' := by
  rw [← show hrt 112 = true from by decide +kernel]
  exact hAll hV0 hg_112_0 hE h hO
theorem hf_113_0 {as : List zV} {r : Option zV} {μ μ' : xM} (h : Ex gx (⟨"CapitalCase", "wornOut", "(II)I"⟩, prog_1_method_34_code, 3, (some .int)) as μ r μ') (hE : hEn (some 0, none) as) (hO : hOK μ) : r.isSome = true ∧ hRm (hP hw_113_0) (hQ hw_113_0) μ μ' := by
  rw [← show hrt 113 = true from by decide +kernel]
  exact hAll hV0 hg_113_0 hE h hO
theorem hf_114_0 {as : List zV} {r : Option zV} {μ μ' : xM} (h : Ex gx (⟨"CapitalCase", "worth", "(II)I"⟩, prog_1_method_26_code, 4, (some .int)) as μ r μ') (hE : hEn (some 0, none) as) (hO : hOK μ) : r.isSome = true ∧ hRm (hP hw_114_0) (hQ hw_114_0) μ μ' := by
  rw [← show hrt 114 = true from by decide +kernel]
  exact hAll hV0 hg_114_0 hE h hO
theorem hf_115_0 {as : List zV} {r : Option zV} {μ μ' : xM} (h : Ex gx (⟨"CapitalCase", "year", "(IIII)I"⟩, prog_1_method_37_code, 7, (some .int)) as μ r μ') (hE : hEn (some 0, none) as) (hO : hOK μ) : r.isSome = true ∧ hRm (hP hw_115_0) (hQ hw_115_0) μ μ' := by
  rw [← show hrt 115 = true from by decide +kernel]
  exact hAll hV0 hg_115_0 hE h hO
theorem hf_116_0 {as : List zV} {r : Option zV} {μ μ' : xM} (h : Ex gx (⟨"CapitalCaseModel", "areThieves", "()Z"⟩, prog_14_method_51_code, 1, (some .boolean)) as μ r μ') (hE : hEn (some 75, none) as) (hO : hOK μ) : r.isSome = true ∧ hRm (hP hw_116_0) (hQ hw_116_0) μ μ' := by
  rw [← show hrt 116 = true from by decide +kernel]
  exact hAll hV0 hg_116_0 hE h hO
theorem hf_117_0 {as : List zV} {r : Option zV} {μ μ' : xM} (h : Ex gx (⟨"CapitalCaseModel", "areTwo", "(III)Z"⟩, prog_14_method_79_code, 4, (some .boolean)) as μ r μ') (hE : hEn (some 75, none) as) (hO : hOK μ) : r.isSome = true ∧ hRm (hP hw_117_0) (hQ hw_117_0) μ μ' := by
  rw [← show hrt 117 = true from by decide +kernel]
  exact hAll hV0 hg_117_0 hE h hO
theorem hf_118_0 {as : List zV} {r : Option zV} {μ μ' : xM} (h : Ex gx (⟨"CapitalCaseModel", "ask", "(II)I"⟩, prog_14_method_110_code, 9, (some .int)) as μ r μ') (hE : hEn (some 75, none) as) (hO : hOK μ) : r.isSome = true ∧ hRm (hP hw_118_0) (hQ hw_118_0) μ μ' := by
  rw [← show hrt 118 = true from by decide +kernel]
  exact hAll hV0 hg_118_0 hE h hO
theorem hf_119_0 {as : List zV} {r : Option zV} {μ μ' : xM} (h : Ex gx (⟨"CapitalCaseModel", "back", "(I)I"⟩, prog_14_method_5_code, 2, (some .int)) as μ r μ') (hE : hEn (some 75, none) as) (hO : hOK μ) : r.isSome = true ∧ hRm (hP hw_119_0) (hQ hw_119_0) μ μ' := by
  rw [← show hrt 119 = true from by decide +kernel]
  exact hAll hV0 hg_119_0 hE h hO
theorem hf_120_0 {as : List zV} {r : Option zV} {μ μ' : xM} (h : Ex gx (⟨"CapitalCaseModel", "bargains", "(I)I"⟩, prog_14_method_97_code, 7, (some .int)) as μ r μ') (hE : hEn (some 75, none) as) (hO : hOK μ) : r.isSome = true ∧ hRm (hP hw_120_0) (hQ hw_120_0) μ μ' := by
  rw [← show hrt 120 = true from by decide +kernel]
  exact hAll hV0 hg_120_0 hE h hO
theorem hf_121_0 {as : List zV} {r : Option zV} {μ μ' : xM} (h : Ex gx (⟨"CapitalCaseModel", "begins", "()V"⟩, prog_14_method_46_code, 2, none) as μ r μ') (hE : hEn (some 75, none) as) (hO : hOK μ) : r.isSome = false ∧ hRm (hP hw_121_0) (hQ hw_121_0) μ μ' := by
  rw [← show hrt 121 = false from by decide +kernel]
  exact hAll hV0 hg_121_0 hE h hO
theorem hf_122_0 {as : List zV} {r : Option zV} {μ μ' : xM} (h : Ex gx (⟨"CapitalCaseModel", "best", "(I)I"⟩, prog_14_method_88_code, 2, (some .int)) as μ r μ') (hE : hEn (some 75, none) as) (hO : hOK μ) : r.isSome = true ∧ hRm (hP hw_122_0) (hQ hw_122_0) μ μ' := by
  rw [← show hrt 122 = true from by decide +kernel]
  exact hAll hV0 hg_122_0 hE h hO
theorem hf_123_0 {as : List zV} {r : Option zV} {μ μ' : xM} (h : Ex gx (⟨"CapitalCaseModel", "bits", "(I)I"⟩, prog_14_method_42_code, 3, (some .int)) as μ r μ') (hE : hEn (none, none) as) (hO : hOK μ) : r.isSome = true ∧ hRm (hP hw_123_0) (hQ hw_123_0) μ μ' := by
  rw [← show hrt 123 = true from by decide +kernel]
  exact hAll hV0 hg_123_0 hE h hO
theorem hf_124_0 {as : List zV} {r : Option zV} {μ μ' : xM} (h : Ex gx (⟨"CapitalCaseModel", "bounded", "(II)I"⟩, prog_14_method_27_code, 4, (some .int)) as μ r μ') (hE : hEn (some 75, none) as) (hO : hOK μ) : r.isSome = true ∧ hRm (hP hw_124_0) (hQ hw_124_0) μ μ' := by
  rw [← show hrt 124 = true from by decide +kernel]
  exact hAll hV0 hg_124_0 hE h hO
theorem hf_125_0 {as : List zV} {r : Option zV} {μ μ' : xM} (h : Ex gx (⟨"CapitalCaseModel", "canSet", "(I)Z"⟩, prog_14_method_86_code, 3, (some .boolean)) as μ r μ') (hE : hEn (some 75, none) as) (hO : hOK μ) : r.isSome = true ∧ hRm (hP hw_125_0) (hQ hw_125_0) μ μ' := by
  rw [← show hrt 125 = true from by decide +kernel]
  exact hAll hV0 hg_125_0 hE h hO
theorem hf_126_0 {as : List zV} {r : Option zV} {μ μ' : xM} (h : Ex gx (⟨"CapitalCaseModel", "clash", "(I)I"⟩, prog_14_method_99_code, 6, (some .int)) as μ r μ') (hE : hEn (some 75, none) as) (hO : hOK μ) : r.isSome = true ∧ hRm (hP hw_126_0) (hQ hw_126_0) μ μ' := by
  rw [← show hrt 126 = true from by decide +kernel]
  exact hAll hV0 hg_126_0 hE h hO
theorem hf_127_0 {as : List zV} {r : Option zV} {μ μ' : xM} (h : Ex gx (⟨"CapitalCaseModel", "clear", "(I)Z"⟩, prog_14_method_78_code, 2, (some .boolean)) as μ r μ') (hE : hEn (some 75, none) as) (hO : hOK μ) : r.isSome = true ∧ hRm (hP hw_127_0) (hQ hw_127_0) μ μ' := by
  rw [← show hrt 127 = true from by decide +kernel]
  exact hAll hV0 hg_127_0 hE h hO
theorem hf_128_0 {as : List zV} {r : Option zV} {μ μ' : xM} (h : Ex gx (⟨"CapitalCaseModel", "clears", "(I)V"⟩, prog_14_method_64_code, 3, none) as μ r μ') (hE : hEn (some 75, none) as) (hO : hOK μ) : r.isSome = false ∧ hRm (hP hw_128_0) (hQ hw_128_0) μ μ' := by
  rw [← show hrt 128 = false from by decide +kernel]
  exact hAll hV0 hg_128_0 hE h hO
theorem hf_129_0 {as : List zV} {r : Option zV} {μ μ' : xM} (h : Ex gx (⟨"CapitalCaseModel", "copies", "()V"⟩, prog_14_method_48_code, 2, none) as μ r μ') (hE : hEn (some 75, none) as) (hO : hOK μ) : r.isSome = false ∧ hRm (hP hw_129_0) (hQ hw_129_0) μ μ' := by
  rw [← show hrt 129 = false from by decide +kernel]
  exact hAll hV0 hg_129_0 hE h hO
theorem hf_130_0 {as : List zV} {r : Option zV} {μ μ' : xM} (h : Ex gx (⟨"CapitalCaseModel", "count", "(I)I"⟩, prog_14_method_115_code, 5, (some .int)) as μ r μ') (hE : hEn (some 75, none) as) (hO : hOK μ) : r.isSome = true ∧ hRm (hP hw_130_0) (hQ hw_130_0) μ μ' := by
  rw [← show hrt 130 = true from by decide +kernel]
  exact hAll hV0 hg_130_0 hE h hO
theorem hf_131_0 {as : List zV} {r : Option zV} {μ μ' : xM} (h : Ex gx (⟨"CapitalCaseModel", "dayGoes", "()V"⟩, prog_14_method_70_code, 2, none) as μ r μ') (hE : hEn (some 75, none) as) (hO : hOK μ) : r.isSome = false ∧ hRm (hP hw_131_0) (hQ hw_131_0) μ μ' := by
  rw [← show hrt 131 = false from by decide +kernel]
  exact hAll hV0 hg_131_0 hE h hO
theorem hf_132_0 {as : List zV} {r : Option zV} {μ μ' : xM} (h : Ex gx (⟨"CapitalCaseModel", "days", "(I)I"⟩, prog_14_method_82_code, 2, (some .int)) as μ r μ') (hE : hEn (some 75, none) as) (hO : hOK μ) : r.isSome = true ∧ hRm (hP hw_132_0) (hQ hw_132_0) μ μ' := by
  rw [← show hrt 132 = true from by decide +kernel]
  exact hAll hV0 hg_132_0 hE h hO
theorem hf_133_0 {as : List zV} {r : Option zV} {μ μ' : xM} (h : Ex gx (⟨"CapitalCaseModel", "fail", "(I)V"⟩, prog_14_method_15_code, 2, none) as μ r μ') (hE : hEn (some 75, none) as) (hO : hOK μ) : r.isSome = false ∧ hRm (hP hw_133_0) (hQ hw_133_0) μ μ' := by
  rw [← show hrt 133 = false from by decide +kernel]
  exact hAll hV0 hg_133_0 hE h hO
theorem hf_134_0 {as : List zV} {r : Option zV} {μ μ' : xM} (h : Ex gx (⟨"CapitalCaseModel", "feed", "(IIIII)I"⟩, prog_14_method_3_code, 6, (some .int)) as μ r μ') (hE : hEn (some 75, none) as) (hO : hOK μ) : r.isSome = true ∧ hRm (hP hw_134_0) (hQ hw_134_0) μ μ' := by
  rw [← show hrt 134 = true from by decide +kernel]
  exact hAll hV0 hg_134_0 hE h hO
theorem hf_135_0 {as : List zV} {r : Option zV} {μ μ' : xM} (h : Ex gx (⟨"CapitalCaseModel", "findsBest", "()V"⟩, prog_14_method_87_code, 5, none) as μ r μ') (hE : hEn (some 75, none) as) (hO : hOK μ) : r.isSome = false ∧ hRm (hP hw_135_0) (hQ hw_135_0) μ μ' := by
  rw [← show hrt 135 = false from by decide +kernel]
  exact hAll hV0 hg_135_0 hE h hO
theorem hf_136_0 {as : List zV} {r : Option zV} {μ μ' : xM} (h : Ex gx (⟨"CapitalCaseModel", "firstDay", "(I)I"⟩, prog_14_method_91_code, 3, (some .int)) as μ r μ') (hE : hEn (some 75, none) as) (hO : hOK μ) : r.isSome = true ∧ hRm (hP hw_136_0) (hQ hw_136_0) μ μ' := by
  rw [← show hrt 136 = true from by decide +kernel]
  exact hAll hV0 hg_136_0 hE h hO
theorem hf_137_0 {as : List zV} {r : Option zV} {μ μ' : xM} (h : Ex gx (⟨"CapitalCaseModel", "forget", "()I"⟩, prog_14_method_107_code, 2, (some .int)) as μ r μ') (hE : hEn (some 75, none) as) (hO : hOK μ) : r.isSome = true ∧ hRm (hP hw_137_0) (hQ hw_137_0) μ μ' := by
  rw [← show hrt 137 = true from by decide +kernel]
  exact hAll hV0 hg_137_0 hE h hO
theorem hf_138_0 {as : List zV} {r : Option zV} {μ μ' : xM} (h : Ex gx (⟨"CapitalCaseModel", "freeOf", "(II)I"⟩, prog_14_method_54_code, 4, (some .int)) as μ r μ') (hE : hEn (some 75, none) as) (hO : hOK μ) : r.isSome = true ∧ hRm (hP hw_138_0) (hQ hw_138_0) μ μ' := by
  rw [← show hrt 138 = true from by decide +kernel]
  exact hAll hV0 hg_138_0 hE h hO
theorem hf_139_0 {as : List zV} {r : Option zV} {μ μ' : xM} (h : Ex gx (⟨"CapitalCaseModel", "from", "(II)I"⟩, prog_14_method_84_code, 3, (some .int)) as μ r μ') (hE : hEn (some 75, none) as) (hO : hOK μ) : r.isSome = true ∧ hRm (hP hw_139_0) (hQ hw_139_0) μ μ' := by
  rw [← show hrt 139 = true from by decide +kernel]
  exact hAll hV0 hg_139_0 hE h hO
theorem hf_140_0 {as : List zV} {r : Option zV} {μ μ' : xM} (h : Ex gx (⟨"CapitalCaseModel", "giveBack", "(III)Z"⟩, prog_14_method_81_code, 5, (some .boolean)) as μ r μ') (hE : hEn (some 75, none) as) (hO : hOK μ) : r.isSome = true ∧ hRm (hP hw_140_0) (hQ hw_140_0) μ μ' := by
  rw [← show hrt 140 = true from by decide +kernel]
  exact hAll hV0 hg_140_0 hE h hO
theorem hf_141_0 {as : List zV} {r : Option zV} {μ μ' : xM} (h : Ex gx (⟨"CapitalCaseModel", "giverOf", "(II)I"⟩, prog_14_method_63_code, 7, (some .int)) as μ r μ') (hE : hEn (some 75, none) as) (hO : hOK μ) : r.isSome = true ∧ hRm (hP hw_141_0) (hQ hw_141_0) μ μ' := by
  rw [← show hrt 141 = true from by decide +kernel]
  exact hAll hV0 hg_141_0 hE h hO
theorem hf_142_0 {as : List zV} {r : Option zV} {μ μ' : xM} (h : Ex gx (⟨"CapitalCaseModel", "givesLeave", "(III)Z"⟩, prog_14_method_59_code, 4, (some .boolean)) as μ r μ') (hE : hEn (some 75, none) as) (hO : hOK μ) : r.isSome = true ∧ hRm (hP hw_142_0) (hQ hw_142_0) μ μ' := by
  rw [← show hrt 142 = true from by decide +kernel]
  exact hAll hV0 hg_142_0 hE h hO
theorem hf_143_0 {as : List zV} {r : Option zV} {μ μ' : xM} (h : Ex gx (⟨"CapitalCaseModel", "goes", "(I)V"⟩, prog_14_method_71_code, 3, none) as μ r μ') (hE : hEn (some 75, none) as) (hO : hOK μ) : r.isSome = false ∧ hRm (hP hw_143_0) (hQ hw_143_0) μ μ' := by
  rw [← show hrt 143 = false from by decide +kernel]
  exact hAll hV0 hg_143_0 hE h hO
theorem hf_144_0 {as : List zV} {r : Option zV} {μ μ' : xM} (h : Ex gx (⟨"CapitalCaseModel", "goesOn", "()V"⟩, prog_14_method_17_code, 1, none) as μ r μ') (hE : hEn (some 75, none) as) (hO : hOK μ) : r.isSome = false ∧ hRm (hP hw_144_0) (hQ hw_144_0) μ μ' := by
  rw [← show hrt 144 = false from by decide +kernel]
  exact hAll hV0 hg_144_0 hE h hO
theorem hf_145_0 {as : List zV} {r : Option zV} {μ μ' : xM} (h : Ex gx (⟨"CapitalCaseModel", "held", "(III)I"⟩, prog_14_method_41_code, 3, (some .int)) as μ r μ') (hE : hEn (none, none) as) (hO : hOK μ) : r.isSome = true ∧ hRm (hP hw_145_0) (hQ hw_145_0) μ μ' := by
  rw [← show hrt 145 = true from by decide +kernel]
  exact hAll hV0 hg_145_0 hE h hO
theorem hf_146_0 {as : List zV} {r : Option zV} {μ μ' : xM} (h : Ex gx (⟨"CapitalCaseModel", "hold", "(I)Z"⟩, prog_14_method_111_code, 3, (some .boolean)) as μ r μ') (hE : hEn (some 75, none) as) (hO : hOK μ) : r.isSome = true ∧ hRm (hP hw_146_0) (hQ hw_146_0) μ μ' := by
  rw [← show hrt 146 = true from by decide +kernel]
  exact hAll hV0 hg_146_0 hE h hO
theorem hf_147_0 {as : List zV} {r : Option zV} {μ μ' : xM} (h : Ex gx (⟨"CapitalCaseModel", "house", "(III)I"⟩, prog_14_method_72_code, 5, (some .int)) as μ r μ') (hE : hEn (some 75, none) as) (hO : hOK μ) : r.isSome = true ∧ hRm (hP hw_147_0) (hQ hw_147_0) μ μ' := by
  rw [← show hrt 147 = true from by decide +kernel]
  exact hAll hV0 hg_147_0 hE h hO
theorem hf_148_0 {as : List zV} {r : Option zV} {μ μ' : xM} (h : Ex gx (⟨"CapitalCaseModel", "in", "(III)Z"⟩, prog_14_method_40_code, 3, (some .boolean)) as μ r μ') (hE : hEn (none, none) as) (hO : hOK μ) : r.isSome = true ∧ hRm (hP hw_148_0) (hQ hw_148_0) μ μ' := by
  rw [← show hrt 148 = true from by decide +kernel]
  exact hAll hV0 hg_148_0 hE h hO
theorem hf_149_0 {as : List zV} {r : Option zV} {μ μ' : xM} (h : Ex gx (⟨"CapitalCaseModel", "is", "(I)Z"⟩, prog_14_method_14_code, 2, (some .boolean)) as μ r μ') (hE : hEn (some 75, none) as) (hO : hOK μ) : r.isSome = true ∧ hRm (hP hw_149_0) (hQ hw_149_0) μ μ' := by
  rw [← show hrt 149 = true from by decide +kernel]
  exact hAll hV0 hg_149_0 hE h hO
theorem hf_150_0 {as : List zV} {r : Option zV} {μ μ' : xM} (h : Ex gx (⟨"CapitalCaseModel", "isBargain", "(IIII)Z"⟩, prog_14_method_96_code, 5, (some .boolean)) as μ r μ') (hE : hEn (some 75, none) as) (hO : hOK μ) : r.isSome = true ∧ hRm (hP hw_150_0) (hQ hw_150_0) μ μ' := by
  rw [← show hrt 150 = true from by decide +kernel]
  exact hAll hV0 hg_150_0 hE h hO
theorem hf_151_0 {as : List zV} {r : Option zV} {μ μ' : xM} (h : Ex gx (⟨"CapitalCaseModel", "isHouse", "(I)Z"⟩, prog_14_method_43_code, 2, (some .boolean)) as μ r μ') (hE : hEn (some 75, none) as) (hO : hOK μ) : r.isSome = true ∧ hRm (hP hw_151_0) (hQ hw_151_0) μ μ' := by
  rw [← show hrt 151 = true from by decide +kernel]
  exact hAll hV0 hg_151_0 hE h hO
theorem hf_152_0 {as : List zV} {r : Option zV} {μ μ' : xM} (h : Ex gx (⟨"CapitalCaseModel", "isLong", "(I)Z"⟩, prog_14_method_101_code, 1, (some .boolean)) as μ r μ') (hE : hEn (none, none) as) (hO : hOK μ) : r.isSome = true ∧ hRm (hP hw_152_0) (hQ hw_152_0) μ μ' := by
  rw [← show hrt 152 = true from by decide +kernel]
  exact hAll hV0 hg_152_0 hE h hO
theorem hf_153_0 {as : List zV} {r : Option zV} {μ μ' : xM} (h : Ex gx (⟨"CapitalCaseModel", "isOpen", "(I)Z"⟩, prog_14_method_66_code, 2, (some .boolean)) as μ r μ') (hE : hEn (some 75, none) as) (hO : hOK μ) : r.isSome = true ∧ hRm (hP hw_153_0) (hQ hw_153_0) μ μ' := by
  rw [← show hrt 153 = true from by decide +kernel]
  exact hAll hV0 hg_153_0 hE h hO
theorem hf_154_0 {as : List zV} {r : Option zV} {μ μ' : xM} (h : Ex gx (⟨"CapitalCaseModel", "isSort", "(I)Z"⟩, prog_14_method_44_code, 1, (some .boolean)) as μ r μ') (hE : hEn (none, none) as) (hO : hOK μ) : r.isSome = true ∧ hRm (hP hw_154_0) (hQ hw_154_0) μ μ' := by
  rw [← show hrt 154 = true from by decide +kernel]
  exact hAll hV0 hg_154_0 hE h hO
theorem hf_155_0 {as : List zV} {r : Option zV} {μ μ' : xM} (h : Ex gx (⟨"CapitalCaseModel", "isVerse", "(I)Z"⟩, prog_14_method_45_code, 2, (some .boolean)) as μ r μ') (hE : hEn (some 75, none) as) (hO : hOK μ) : r.isSome = true ∧ hRm (hP hw_155_0) (hQ hw_155_0) μ μ' := by
  rw [← show hrt 155 = true from by decide +kernel]
  exact hAll hV0 hg_155_0 hE h hO
theorem hf_156_0 {as : List zV} {r : Option zV} {μ μ' : xM} (h : Ex gx (⟨"CapitalCaseModel", "keepsAhead", "()V"⟩, prog_14_method_85_code, 2, none) as μ r μ') (hE : hEn (some 75, none) as) (hO : hOK μ) : r.isSome = false ∧ hRm (hP hw_156_0) (hQ hw_156_0) μ μ' := by
  rw [← show hrt 156 = false from by decide +kernel]
  exact hAll hV0 hg_156_0 hE h hO
theorem hf_157_0 {as : List zV} {r : Option zV} {μ μ' : xM} (h : Ex gx (⟨"CapitalCaseModel", "keepsRow", "()V"⟩, prog_14_method_47_code, 2, none) as μ r μ') (hE : hEn (some 75, none) as) (hO : hOK μ) : r.isSome = false ∧ hRm (hP hw_157_0) (hQ hw_157_0) μ μ' := by
  rw [← show hrt 157 = false from by decide +kernel]
  exact hAll hV0 hg_157_0 hE h hO
theorem hf_158_0 {as : List zV} {r : Option zV} {μ μ' : xM} (h : Ex gx (⟨"CapitalCaseModel", "late", "()I"⟩, prog_14_method_100_code, 3, (some .int)) as μ r μ') (hE : hEn (some 75, none) as) (hO : hOK μ) : r.isSome = true ∧ hRm (hP hw_158_0) (hQ hw_158_0) μ μ' := by
  rw [← show hrt 158 = true from by decide +kernel]
  exact hAll hV0 hg_158_0 hE h hO
theorem hf_159_0 {as : List zV} {r : Option zV} {μ μ' : xM} (h : Ex gx (⟨"CapitalCaseModel", "lawTells", "(II)I"⟩, prog_14_method_58_code, 7, (some .int)) as μ r μ') (hE : hEn (some 75, none) as) (hO : hOK μ) : r.isSome = true ∧ hRm (hP hw_159_0) (hQ hw_159_0) μ μ' := by
  rw [← show hrt 159 = true from by decide +kernel]
  exact hAll hV0 hg_159_0 hE h hO
theorem hf_160_0 {as : List zV} {r : Option zV} {μ μ' : xM} (h : Ex gx (⟨"CapitalCaseModel", "lend", "(III)Z"⟩, prog_14_method_80_code, 4, (some .boolean)) as μ r μ') (hE : hEn (some 75, none) as) (hO : hOK μ) : r.isSome = true ∧ hRm (hP hw_160_0) (hQ hw_160_0) μ μ' := by
  rw [← show hrt 160 = true from by decide +kernel]
  exact hAll hV0 hg_160_0 hE h hO
theorem hf_161_0 {as : List zV} {r : Option zV} {μ μ' : xM} (h : Ex gx (⟨"CapitalCaseModel", "lentOut", "(II)I"⟩, prog_14_method_52_code, 5, (some .int)) as μ r μ') (hE : hEn (some 75, none) as) (hO : hOK μ) : r.isSome = true ∧ hRm (hP hw_161_0) (hQ hw_161_0) μ μ' := by
  rw [← show hrt 161 = true from by decide +kernel]
  exact hAll hV0 hg_161_0 hE h hO
theorem hf_162_0 {as : List zV} {r : Option zV} {μ μ' : xM} (h : Ex gx (⟨"CapitalCaseModel", "lentTo", "(II)I"⟩, prog_14_method_53_code, 5, (some .int)) as μ r μ') (hE : hEn (some 75, none) as) (hO : hOK μ) : r.isSome = true ∧ hRm (hP hw_162_0) (hQ hw_162_0) μ μ' := by
  rw [← show hrt 162 = true from by decide +kernel]
  exact hAll hV0 hg_162_0 hE h hO
theorem hf_163_0 {as : List zV} {r : Option zV} {μ μ' : xM} (h : Ex gx (⟨"CapitalCaseModel", "loans", "(II)I"⟩, prog_14_method_94_code, 8, (some .int)) as μ r μ') (hE : hEn (some 75, none) as) (hO : hOK μ) : r.isSome = true ∧ hRm (hP hw_163_0) (hQ hw_163_0) μ μ' := by
  rw [← show hrt 163 = true from by decide +kernel]
  exact hAll hV0 hg_163_0 hE h hO
theorem hf_164_0 {as : List zV} {r : Option zV} {μ μ' : xM} (h : Ex gx (⟨"CapitalCaseModel", "looks", "()V"⟩, prog_14_method_55_code, 2, none) as μ r μ') (hE : hEn (some 75, none) as) (hO : hOK μ) : r.isSome = false ∧ hRm (hP hw_164_0) (hQ hw_164_0) μ μ' := by
  rw [← show hrt 164 = false from by decide +kernel]
  exact hAll hV0 hg_164_0 hE h hO
theorem hf_165_0 {as : List zV} {r : Option zV} {μ μ' : xM} (h : Ex gx (⟨"CapitalCaseModel", "looksAt", "(II)V"⟩, prog_14_method_56_code, 3, none) as μ r μ') (hE : hEn (some 75, none) as) (hO : hOK μ) : r.isSome = false ∧ hRm (hP hw_165_0) (hQ hw_165_0) μ μ' := by
  rw [← show hrt 165 = false from by decide +kernel]
  exact hAll hV0 hg_165_0 hE h hO
theorem hf_166_0 {as : List zV} {r : Option zV} {μ μ' : xM} (h : Ex gx (⟨"CapitalCaseModel", "looksFor", "(I)V"⟩, prog_14_method_57_code, 2, none) as μ r μ') (hE : hEn (some 75, none) as) (hO : hOK μ) : r.isSome = false ∧ hRm (hP hw_166_0) (hQ hw_166_0) μ μ' := by
  rw [← show hrt 166 = false from by decide +kernel]
  exact hAll hV0 hg_166_0 hE h hO
theorem hf_167_0 {as : List zV} {r : Option zV} {μ μ' : xM} (h : Ex gx (⟨"CapitalCaseModel", "lotOf", "(II)I"⟩, prog_14_method_50_code, 3, (some .int)) as μ r μ') (hE : hEn (some 75, none) as) (hO : hOK μ) : r.isSome = true ∧ hRm (hP hw_167_0) (hQ hw_167_0) μ μ' := by
  rw [← show hrt 167 = true from by decide +kernel]
  exact hAll hV0 hg_167_0 hE h hO
theorem hf_168_0 {as : List zV} {r : Option zV} {μ μ' : xM} (h : Ex gx (⟨"CapitalCaseModel", "mixed", "(II)I"⟩, prog_14_method_49_code, 3, (some .int)) as μ r μ') (hE : hEn (none, none) as) (hO : hOK μ) : r.isSome = true ∧ hRm (hP hw_168_0) (hQ hw_168_0) μ μ' := by
  rw [← show hrt 168 = true from by decide +kernel]
  exact hAll hV0 hg_168_0 hE h hO
theorem hf_169_0 {as : List zV} {r : Option zV} {μ μ' : xM} (h : Ex gx (⟨"CapitalCaseModel", "must", "(I)V"⟩, prog_14_method_18_code, 2, none) as μ r μ') (hE : hEn (some 75, none) as) (hO : hOK μ) : r.isSome = false ∧ hRm (hP hw_169_0) (hQ hw_169_0) μ μ' := by
  rw [← show hrt 169 = false from by decide +kernel]
  exact hAll hV0 hg_169_0 hE h hO
theorem hf_170_0 {as : List zV} {r : Option zV} {μ μ' : xM} (h : Ex gx (⟨"CapitalCaseModel", "named", "()I"⟩, prog_14_method_25_code, 3, (some .int)) as μ r μ') (hE : hEn (some 75, none) as) (hO : hOK μ) : r.isSome = true ∧ hRm (hP hw_170_0) (hQ hw_170_0) μ μ' := by
  rw [← show hrt 170 = true from by decide +kernel]
  exact hAll hV0 hg_170_0 hE h hO
theorem hf_171_0 {as : List zV} {r : Option zV} {μ μ' : xM} (h : Ex gx (⟨"CapitalCaseModel", "needsOf", "(II)I"⟩, prog_14_method_93_code, 5, (some .int)) as μ r μ') (hE : hEn (some 75, none) as) (hO : hOK μ) : r.isSome = true ∧ hRm (hP hw_171_0) (hQ hw_171_0) μ μ' := by
  rw [← show hrt 171 = true from by decide +kernel]
  exact hAll hV0 hg_171_0 hE h hO
theorem hf_172_0 {as : List zV} {r : Option zV} {μ μ' : xM} (h : Ex gx (⟨"CapitalCaseModel", "openBits", "()I"⟩, prog_14_method_67_code, 3, (some .int)) as μ r μ') (hE : hEn (some 75, none) as) (hO : hOK μ) : r.isSome = true ∧ hRm (hP hw_172_0) (hQ hw_172_0) μ μ' := by
  rw [← show hrt 172 = true from by decide +kernel]
  exact hAll hV0 hg_172_0 hE h hO
theorem hf_173_0 {as : List zV} {r : Option zV} {μ μ' : xM} (h : Ex gx (⟨"CapitalCaseModel", "ownVerses", "(III)I"⟩, prog_14_method_95_code, 8, (some .int)) as μ r μ') (hE : hEn (some 75, none) as) (hO : hOK μ) : r.isSome = true ∧ hRm (hP hw_173_0) (hQ hw_173_0) μ μ' := by
  rw [← show hrt 173 = true from by decide +kernel]
  exact hAll hV0 hg_173_0 hE h hO
theorem hf_174_0 {as : List zV} {r : Option zV} {μ μ' : xM} (h : Ex gx (⟨"CapitalCaseModel", "paidIn", "(I)I"⟩, prog_14_method_104_code, 2, (some .int)) as μ r μ') (hE : hEn (some 75, none) as) (hO : hOK μ) : r.isSome = true ∧ hRm (hP hw_174_0) (hQ hw_174_0) μ μ' := by
  rw [← show hrt 174 = true from by decide +kernel]
  exact hAll hV0 hg_174_0 hE h hO
theorem hf_175_0 {as : List zV} {r : Option zV} {μ μ' : xM} (h : Ex gx (⟨"CapitalCaseModel", "paysOf", "(I)I"⟩, prog_14_method_62_code, 2, (some .int)) as μ r μ') (hE : hEn (some 75, none) as) (hO : hOK μ) : r.isSome = true ∧ hRm (hP hw_175_0) (hQ hw_175_0) μ μ' := by
  rw [← show hrt 175 = true from by decide +kernel]
  exact hAll hV0 hg_175_0 hE h hO
theorem hf_176_0 {as : List zV} {r : Option zV} {μ μ' : xM} (h : Ex gx (⟨"CapitalCaseModel", "pillar", "(I)I"⟩, prog_14_method_90_code, 5, (some .int)) as μ r μ') (hE : hEn (some 75, none) as) (hO : hOK μ) : r.isSome = true ∧ hRm (hP hw_176_0) (hQ hw_176_0) μ μ' := by
  rw [← show hrt 176 = true from by decide +kernel]
  exact hAll hV0 hg_176_0 hE h hO
theorem hf_177_0 {as : List zV} {r : Option zV} {μ μ' : xM} (h : Ex gx (⟨"CapitalCaseModel", "place", "()I"⟩, prog_14_method_21_code, 1, (some .int)) as μ r μ') (hE : hEn (some 75, none) as) (hO : hOK μ) : r.isSome = true ∧ hRm (hP hw_177_0) (hQ hw_177_0) μ μ' := by
  rw [← show hrt 177 = true from by decide +kernel]
  exact hAll hV0 hg_177_0 hE h hO
theorem hf_178_0 {as : List zV} {r : Option zV} {μ μ' : xM} (h : Ex gx (⟨"CapitalCaseModel", "put", "(I)V"⟩, prog_14_method_4_code, 3, none) as μ r μ') (hE : hEn (some 75, none) as) (hO : hOK μ) : r.isSome = false ∧ hRm (hP hw_178_0) (hQ hw_178_0) μ μ' := by
  rw [← show hrt 178 = false from by decide +kernel]
  exact hAll hV0 hg_178_0 hE h hO
theorem hf_179_0 {as : List zV} {r : Option zV} {μ μ' : xM} (h : Ex gx (⟨"CapitalCaseModel", "rankOf", "(III)I"⟩, prog_14_method_60_code, 4, (some .int)) as μ r μ') (hE : hEn (some 75, none) as) (hO : hOK μ) : r.isSome = true ∧ hRm (hP hw_179_0) (hQ hw_179_0) μ μ' := by
  rw [← show hrt 179 = true from by decide +kernel]
  exact hAll hV0 hg_179_0 hE h hO
theorem hf_180_0 {as : List zV} {r : Option zV} {μ μ' : xM} (h : Ex gx (⟨"CapitalCaseModel", "read", "()I"⟩, prog_14_method_20_code, 2, (some .int)) as μ r μ') (hE : hEn (some 75, none) as) (hO : hOK μ) : r.isSome = true ∧ hRm (hP hw_180_0) (hQ hw_180_0) μ μ' := by
  rw [← show hrt 180 = true from by decide +kernel]
  exact hAll hV0 hg_180_0 hE h hO
theorem hf_181_0 {as : List zV} {r : Option zV} {μ μ' : xM} (h : Ex gx (⟨"CapitalCaseModel", "records", "()V"⟩, prog_14_method_76_code, 2, none) as μ r μ') (hE : hEn (some 75, none) as) (hO : hOK μ) : r.isSome = false ∧ hRm (hP hw_181_0) (hQ hw_181_0) μ μ' := by
  rw [← show hrt 181 = false from by decide +kernel]
  exact hAll hV0 hg_181_0 hE h hO
theorem hf_182_0 {as : List zV} {r : Option zV} {μ μ' : xM} (h : Ex gx (⟨"CapitalCaseModel", "restore", "(I)Z"⟩, prog_14_method_112_code, 3, (some .boolean)) as μ r μ') (hE : hEn (some 75, none) as) (hO : hOK μ) : r.isSome = true ∧ hRm (hP hw_182_0) (hQ hw_182_0) μ μ' := by
  rw [← show hrt 182 = true from by decide +kernel]
  exact hAll hV0 hg_182_0 hE h hO
theorem hf_183_0 {as : List zV} {r : Option zV} {μ μ' : xM} (h : Ex gx (⟨"CapitalCaseModel", "roomFor", "(II)V"⟩, prog_14_method_22_code, 3, none) as μ r μ') (hE : hEn (some 75, none) as) (hO : hOK μ) : r.isSome = false ∧ hRm (hP hw_183_0) (hQ hw_183_0) μ μ' := by
  rw [← show hrt 183 = false from by decide +kernel]
  exact hAll hV0 hg_183_0 hE h hO
theorem hf_184_0 {as : List zV} {r : Option zV} {μ μ' : xM} (h : Ex gx (⟨"CapitalCaseModel", "set", "(I)Z"⟩, prog_14_method_77_code, 2, (some .boolean)) as μ r μ') (hE : hEn (some 75, none) as) (hO : hOK μ) : r.isSome = true ∧ hRm (hP hw_184_0) (hQ hw_184_0) μ μ' := by
  rw [← show hrt 184 = true from by decide +kernel]
  exact hAll hV0 hg_184_0 hE h hO
theorem hf_185_0 {as : List zV} {r : Option zV} {μ μ' : xM} (h : Ex gx (⟨"CapitalCaseModel", "sets", "(I)Z"⟩, prog_14_method_65_code, 5, (some .boolean)) as μ r μ') (hE : hEn (some 75, none) as) (hO : hOK μ) : r.isSome = true ∧ hRm (hP hw_185_0) (hQ hw_185_0) μ μ' := by
  rw [← show hrt 185 = true from by decide +kernel]
  exact hAll hV0 hg_185_0 hE h hO
theorem hf_186_0 {as : List zV} {r : Option zV} {μ μ' : xM} (h : Ex gx (⟨"CapitalCaseModel", "strike", "(I)I"⟩, prog_14_method_98_code, 5, (some .int)) as μ r μ') (hE : hEn (some 75, none) as) (hO : hOK μ) : r.isSome = true ∧ hRm (hP hw_186_0) (hQ hw_186_0) μ μ' := by
  rw [← show hrt 186 = true from by decide +kernel]
  exact hAll hV0 hg_186_0 hE h hO
theorem hf_187_0 {as : List zV} {r : Option zV} {μ μ' : xM} (h : Ex gx (⟨"CapitalCaseModel", "sumNow", "(II)I"⟩, prog_14_method_113_code, 5, (some .int)) as μ r μ') (hE : hEn (some 75, none) as) (hO : hOK μ) : r.isSome = true ∧ hRm (hP hw_187_0) (hQ hw_187_0) μ μ' := by
  rw [← show hrt 187 = true from by decide +kernel]
  exact hAll hV0 hg_187_0 hE h hO
theorem hf_188_0 {as : List zV} {r : Option zV} {μ μ' : xM} (h : Ex gx (⟨"CapitalCaseModel", "tell", "(IIZ)I"⟩, prog_14_method_106_code, 4, (some .int)) as μ r μ') (hE : hEn (some 75, none) as) (hO : hOK μ) : r.isSome = true ∧ hRm (hP hw_188_0) (hQ hw_188_0) μ μ' := by
  rw [← show hrt 188 = true from by decide +kernel]
  exact hAll hV0 hg_188_0 hE h hO
theorem hf_189_0 {as : List zV} {r : Option zV} {μ μ' : xM} (h : Ex gx (⟨"CapitalCaseModel", "tells", "(IIII)I"⟩, prog_14_method_75_code, 5, (some .int)) as μ r μ') (hE : hEn (some 75, none) as) (hO : hOK μ) : r.isSome = true ∧ hRm (hP hw_189_0) (hQ hw_189_0) μ μ' := by
  rw [← show hrt 189 = true from by decide +kernel]
  exact hAll hV0 hg_189_0 hE h hO
theorem hf_190_0 {as : List zV} {r : Option zV} {μ μ' : xM} (h : Ex gx (⟨"CapitalCaseModel", "then", "(IIII)I"⟩, prog_14_method_103_code, 5, (some .int)) as μ r μ') (hE : hEn (some 75, none) as) (hO : hOK μ) : r.isSome = true ∧ hRm (hP hw_190_0) (hQ hw_190_0) μ μ' := by
  rw [← show hrt 190 = true from by decide +kernel]
  exact hAll hV0 hg_190_0 hE h hO
theorem hf_191_0 {as : List zV} {r : Option zV} {μ μ' : xM} (h : Ex gx (⟨"CapitalCaseModel", "thievesCome", "()V"⟩, prog_14_method_69_code, 4, none) as μ r μ') (hE : hEn (some 75, none) as) (hO : hOK μ) : r.isSome = false ∧ hRm (hP hw_191_0) (hQ hw_191_0) μ μ' := by
  rw [← show hrt 191 = false from by decide +kernel]
  exact hAll hV0 hg_191_0 hE h hO
theorem hf_192_0 {as : List zV} {r : Option zV} {μ μ' : xM} (h : Ex gx (⟨"CapitalCaseModel", "toldInt", "(II)I"⟩, prog_14_method_23_code, 4, (some .int)) as μ r μ') (hE : hEn (some 75, none) as) (hO : hOK μ) : r.isSome = true ∧ hRm (hP hw_192_0) (hQ hw_192_0) μ μ' := by
  rw [← show hrt 192 = true from by decide +kernel]
  exact hAll hV0 hg_192_0 hE h hO
theorem hf_193_0 {as : List zV} {r : Option zV} {μ μ' : xM} (h : Ex gx (⟨"CapitalCaseModel", "twoDays", "(I)I"⟩, prog_14_method_92_code, 7, (some .int)) as μ r μ') (hE : hEn (some 75, none) as) (hO : hOK μ) : r.isSome = true ∧ hRm (hP hw_193_0) (hQ hw_193_0) μ μ' := by
  rw [← show hrt 193 = true from by decide +kernel]
  exact hAll hV0 hg_193_0 hE h hO
theorem hf_194_0 {as : List zV} {r : Option zV} {μ μ' : xM} (h : Ex gx (⟨"CapitalCaseModel", "undo", "()Z"⟩, prog_14_method_83_code, 2, (some .boolean)) as μ r μ') (hE : hEn (some 75, none) as) (hO : hOK μ) : r.isSome = true ∧ hRm (hP hw_194_0) (hQ hw_194_0) μ μ' := by
  rw [← show hrt 194 = true from by decide +kernel]
  exact hAll hV0 hg_194_0 hE h hO
theorem hf_195_0 {as : List zV} {r : Option zV} {μ μ' : xM} (h : Ex gx (⟨"CapitalCaseModel", "verse", "(II)I"⟩, prog_14_method_73_code, 3, (some .int)) as μ r μ') (hE : hEn (some 75, none) as) (hO : hOK μ) : r.isSome = true ∧ hRm (hP hw_195_0) (hQ hw_195_0) μ μ' := by
  rw [← show hrt 195 = true from by decide +kernel]
  exact hAll hV0 hg_195_0 hE h hO
theorem hf_196_0 {as : List zV} {r : Option zV} {μ μ' : xM} (h : Ex gx (⟨"CapitalCaseModel", "versesSo", "(II)I"⟩, prog_14_method_114_code, 5, (some .int)) as μ r μ') (hE : hEn (some 75, none) as) (hO : hOK μ) : r.isSome = true ∧ hRm (hP hw_196_0) (hQ hw_196_0) μ μ' := by
  rw [← show hrt 196 = true from by decide +kernel]
  exact hAll hV0 hg_196_0 hE h hO
theorem hf_197_0 {as : List zV} {r : Option zV} {μ μ' : xM} (h : Ex gx (⟨"CapitalCaseModel", "wants", "(II)I"⟩, prog_14_method_74_code, 3, (some .int)) as μ r μ') (hE : hEn (some 75, none) as) (hO : hOK μ) : r.isSome = true ∧ hRm (hP hw_197_0) (hQ hw_197_0) μ μ' := by
  rw [← show hrt 197 = true from by decide +kernel]
  exact hAll hV0 hg_197_0 hE h hO
theorem hf_198_0 {as : List zV} {r : Option zV} {μ μ' : xM} (h : Ex gx (⟨"CapitalCaseModel", "wears", "(I)V"⟩, prog_14_method_68_code, 2, none) as μ r μ') (hE : hEn (some 75, none) as) (hO : hOK μ) : r.isSome = false ∧ hRm (hP hw_198_0) (hQ hw_198_0) μ μ' := by
  rw [← show hrt 198 = false from by decide +kernel]
  exact hAll hV0 hg_198_0 hE h hO
theorem hf_199_0 {as : List zV} {r : Option zV} {μ μ' : xM} (h : Ex gx (⟨"CapitalCaseModel", "wearsOf", "(II)I"⟩, prog_14_method_61_code, 3, (some .int)) as μ r μ') (hE : hEn (some 75, none) as) (hO : hOK μ) : r.isSome = true ∧ hRm (hP hw_199_0) (hQ hw_199_0) μ μ' := by
  rw [← show hrt 199 = true from by decide +kernel]
  exact hAll hV0 hg_199_0 hE h hO
theorem hf_200_0 {as : List zV} {r : Option zV} {μ μ' : xM} (h : Ex gx (⟨"CapitalCaseModel", "whose", "(II)I"⟩, prog_14_method_109_code, 4, (some .int)) as μ r μ') (hE : hEn (some 75, none) as) (hO : hOK μ) : r.isSome = true ∧ hRm (hP hw_200_0) (hQ hw_200_0) μ μ' := by
  rw [← show hrt 200 = true from by decide +kernel]
  exact hAll hV0 hg_200_0 hE h hO
theorem hf_201_0 {as : List zV} {r : Option zV} {μ μ' : xM} (h : Ex gx (⟨"CapitalCaseModel", "whoseBits", "(I)I"⟩, prog_14_method_108_code, 6, (some .int)) as μ r μ') (hE : hEn (some 75, none) as) (hO : hOK μ) : r.isSome = true ∧ hRm (hP hw_201_0) (hQ hw_201_0) μ μ' := by
  rw [← show hrt 201 = true from by decide +kernel]
  exact hAll hV0 hg_201_0 hE h hO
theorem hf_202_0 {as : List zV} {r : Option zV} {μ μ' : xM} (h : Ex gx (⟨"CapitalCaseModel", "wornOut", "(II)I"⟩, prog_14_method_102_code, 4, (some .int)) as μ r μ') (hE : hEn (some 75, none) as) (hO : hOK μ) : r.isSome = true ∧ hRm (hP hw_202_0) (hQ hw_202_0) μ μ' := by
  rw [← show hrt 202 = true from by decide +kernel]
  exact hAll hV0 hg_202_0 hE h hO
theorem hf_203_0 {as : List zV} {r : Option zV} {μ μ' : xM} (h : Ex gx (⟨"CapitalCaseModel", "worth", "(II)I"⟩, prog_14_method_89_code, 4, (some .int)) as μ r μ') (hE : hEn (some 75, none) as) (hO : hOK μ) : r.isSome = true ∧ hRm (hP hw_203_0) (hQ hw_203_0) μ μ' := by
  rw [← show hrt 203 = true from by decide +kernel]
  exact hAll hV0 hg_203_0 hE h hO
theorem hf_204_0 {as : List zV} {r : Option zV} {μ μ' : xM} (h : Ex gx (⟨"CapitalCaseModel", "wrong", "(II)V"⟩, prog_14_method_16_code, 4, none) as μ r μ') (hE : hEn (some 75, none) as) (hO : hOK μ) : r.isSome = false ∧ hRm (hP hw_204_0) (hQ hw_204_0) μ μ' := by
  rw [← show hrt 204 = false from by decide +kernel]
  exact hAll hV0 hg_204_0 hE h hO
theorem hf_205_0 {as : List zV} {r : Option zV} {μ μ' : xM} (h : Ex gx (⟨"CapitalCaseModel", "year", "(IIII)I"⟩, prog_14_method_105_code, 7, (some .int)) as μ r μ') (hE : hEn (some 75, none) as) (hO : hOK μ) : r.isSome = true ∧ hRm (hP hw_205_0) (hQ hw_205_0) μ μ' := by
  rw [← show hrt 205 = true from by decide +kernel]
  exact hAll hV0 hg_205_0 hE h hO
theorem hf_206_0 {as : List zV} {r : Option zV} {μ μ' : xM} (h : Ex gx (⟨"java/lang/Integer", "bitCount", "(I)I"⟩, prog_16_method_49_code, 1, (some .int)) as μ r μ') (hE : hEn (none, none) as) (hO : hOK μ) : r.isSome = true ∧ hRm (hP hw_206_0) (hQ hw_206_0) μ μ' := by
  rw [← show hrt 206 = true from by decide +kernel]
  exact hAll hV0 hg_206_0 hE h hO
theorem hf_207_0 {as : List zV} {r : Option zV} {μ μ' : xM} (h : Ex gx (⟨"java/util/Arrays", "fill", "([II)V"⟩, prog_22_method_103_code, 4, none) as μ r μ') (hE : hEn (some 14, none) as) (hO : hOK μ) : r.isSome = false ∧ hRm (hP hw_207_0) (hQ hw_207_0) μ μ' := by
  rw [← show hrt 207 = false from by decide +kernel]
  exact hAll hV0 hg_207_0 hE h hO
theorem hf_207_1 {as : List zV} {r : Option zV} {μ μ' : xM} (h : Ex gx (⟨"java/util/Arrays", "fill", "([II)V"⟩, prog_22_method_103_code, 4, none) as μ r μ') (hE : hEn (some 19, none) as) (hO : hOK μ) : r.isSome = false ∧ hRm (hP hw_207_1) (hQ hw_207_1) μ μ' := by
  rw [← show hrt 207 = false from by decide +kernel]
  exact hAll hV0 hg_207_1 hE h hO
theorem hf_207_2 {as : List zV} {r : Option zV} {μ μ' : xM} (h : Ex gx (⟨"java/util/Arrays", "fill", "([II)V"⟩, prog_22_method_103_code, 4, none) as μ r μ') (hE : hEn (some 30, none) as) (hO : hOK μ) : r.isSome = false ∧ hRm (hP hw_207_2) (hQ hw_207_2) μ μ' := by
  rw [← show hrt 207 = false from by decide +kernel]
  exact hAll hV0 hg_207_2 hE h hO
theorem hf_207_3 {as : List zV} {r : Option zV} {μ μ' : xM} (h : Ex gx (⟨"java/util/Arrays", "fill", "([II)V"⟩, prog_22_method_103_code, 4, none) as μ r μ') (hE : hEn (some 31, none) as) (hO : hOK μ) : r.isSome = false ∧ hRm (hP hw_207_3) (hQ hw_207_3) μ μ' := by
  rw [← show hrt 207 = false from by decide +kernel]
  exact hAll hV0 hg_207_3 hE h hO
theorem hf_207_4 {as : List zV} {r : Option zV} {μ μ' : xM} (h : Ex gx (⟨"java/util/Arrays", "fill", "([II)V"⟩, prog_22_method_103_code, 4, none) as μ r μ') (hE : hEn (some 32, none) as) (hO : hOK μ) : r.isSome = false ∧ hRm (hP hw_207_4) (hQ hw_207_4) μ μ' := by
  rw [← show hrt 207 = false from by decide +kernel]
  exact hAll hV0 hg_207_4 hE h hO
theorem hf_207_5 {as : List zV} {r : Option zV} {μ μ' : xM} (h : Ex gx (⟨"java/util/Arrays", "fill", "([II)V"⟩, prog_22_method_103_code, 4, none) as μ r μ') (hE : hEn (some 49, none) as) (hO : hOK μ) : r.isSome = false ∧ hRm (hP hw_207_5) (hQ hw_207_5) μ μ' := by
  rw [← show hrt 207 = false from by decide +kernel]
  exact hAll hV0 hg_207_5 hE h hO
theorem hf_208_0 {as : List zV} {r : Option zV} {μ μ' : xM} (h : Ex gx (⟨"CapitalCase$Tokens", "isBlank", "(I)Z"⟩, prog_9_method_3_code, 1, (some .boolean)) as μ r μ') (hE : hEn (none, none) as) (hO : hOK μ) : r.isSome = true ∧ hRm (hP hw_208_0) (hQ hw_208_0) μ μ' := by
  rw [← show hrt 208 = true from by decide +kernel]
  exact hAll hV0 hg_208_0 hE h hO
theorem hf_209_0 {as : List zV} {r : Option zV} {μ μ' : xM} (h : Ex gx (⟨"CapitalCase$Tokens", "isDigit", "(I)Z"⟩, prog_9_method_5_code, 1, (some .boolean)) as μ r μ') (hE : hEn (none, none) as) (hO : hOK μ) : r.isSome = true ∧ hRm (hP hw_209_0) (hQ hw_209_0) μ μ' := by
  rw [← show hrt 209 = true from by decide +kernel]
  exact hAll hV0 hg_209_0 hE h hO
theorem hf_210_0 {as : List zV} {r : Option zV} {μ μ' : xM} (h : Ex gx (⟨"CapitalCase$Tokens", "isLower", "(I)Z"⟩, prog_9_method_4_code, 1, (some .boolean)) as μ r μ') (hE : hEn (none, none) as) (hO : hOK μ) : r.isSome = true ∧ hRm (hP hw_210_0) (hQ hw_210_0) μ μ' := by
  rw [← show hrt 210 = true from by decide +kernel]
  exact hAll hV0 hg_210_0 hE h hO
theorem hf_211_0 {as : List zV} {r : Option zV} {μ μ' : xM} (h : Ex gx (⟨"CapitalCaseModel", "byteAt", "(I)I"⟩, prog_14_method_6_code, 2, (some .int)) as μ r μ') (hE : hEn (some 75, none) as) (hO : hOK μ) : r.isSome = true ∧ hRm (hP hw_211_0) (hQ hw_211_0) μ μ' := by
  rw [← show hrt 211 = true from by decide +kernel]
  exact hAll hV0 hg_211_0 hE h hO
theorem hf_212_0 {as : List zV} {r : Option zV} {μ μ' : xM} (h : Ex gx (⟨"CapitalCaseModel", "isDigit", "(I)Z"⟩, prog_14_method_7_code, 1, (some .boolean)) as μ r μ') (hE : hEn (none, none) as) (hO : hOK μ) : r.isSome = true ∧ hRm (hP hw_212_0) (hQ hw_212_0) μ μ' := by
  rw [← show hrt 212 = true from by decide +kernel]
  exact hAll hV0 hg_212_0 hE h hO
theorem hf_213_0 {as : List zV} {r : Option zV} {μ μ' : xM} (h : Ex gx (⟨"CapitalCaseModel", "isLetter", "(I)Z"⟩, prog_14_method_8_code, 1, (some .boolean)) as μ r μ') (hE : hEn (none, none) as) (hO : hOK μ) : r.isSome = true ∧ hRm (hP hw_213_0) (hQ hw_213_0) μ μ' := by
  rw [← show hrt 213 = true from by decide +kernel]
  exact hAll hV0 hg_213_0 hE h hO
theorem hf_214_0 {as : List zV} {r : Option zV} {μ μ' : xM} (h : Ex gx (⟨"CapitalCaseModel", "cut", "()V"⟩, prog_14_method_12_code, 8, none) as μ r μ') (hE : hEn (some 75, none) as) (hO : hOK μ) : r.isSome = false ∧ hRm (hP hw_214_0) (hQ hw_214_0) μ μ' := by
  rw [← show hrt 214 = false from by decide +kernel]
  exact hAll hV0 hg_214_0 hE h hO
theorem hf_215_0 {as : List zV} {r : Option zV} {μ μ' : xM} (h : Ex gx (⟨"CapitalCaseModel", "token", "(IIIJ)V"⟩, prog_14_method_11_code, 6, none) as μ r μ') (hE : hEn (some 75, none) as) (hO : hOK μ) : r.isSome = false ∧ hRm (hP hw_215_0) (hQ hw_215_0) μ μ' := by
  rw [← show hrt 215 = false from by decide +kernel]
  exact hAll hV0 hg_215_0 hE h hO
theorem hf_216_0 {as : List zV} {r : Option zV} {μ μ' : xM} (h : Ex gx (⟨"CapitalCaseModel", "sign", "(III)I"⟩, prog_14_method_13_code, 5, (some .int)) as μ r μ') (hE : hEn (some 75, none) as) (hO : hOK μ) : r.isSome = true ∧ hRm (hP hw_216_0) (hQ hw_216_0) μ μ' := by
  rw [← show hrt 216 = true from by decide +kernel]
  exact hAll hV0 hg_216_0 hE h hO
theorem hf_217_0 {as : List zV} {r : Option zV} {μ μ' : xM} (h : Ex gx (⟨"CapitalCaseModel", "appends", "(JI)J"⟩, prog_14_method_9_code, 3, (some .long)) as μ r μ') (hE : hEn (none, none) as) (hO : hOK μ) : r.isSome = true ∧ hRm (hP hw_217_0) (hQ hw_217_0) μ μ' := by
  rw [← show hrt 217 = true from by decide +kernel]
  exact hAll hV0 hg_217_0 hE h hO
theorem hf_218_0 {as : List zV} {r : Option zV} {μ μ' : xM} (h : Ex gx (⟨"CapitalCaseModel", "plain", "(I)V"⟩, prog_14_method_19_code, 3, none) as μ r μ') (hE : hEn (some 75, none) as) (hO : hOK μ) : r.isSome = false ∧ hRm (hP hw_218_0) (hQ hw_218_0) μ μ' := by
  rw [← show hrt 218 = false from by decide +kernel]
  exact hAll hV0 hg_218_0 hE h hO
theorem hf_219_0 {as : List zV} {r : Option zV} {μ μ' : xM} (h : Ex gx (⟨"CapitalCaseModel", "tellOne", "()V"⟩, prog_14_method_24_code, 2, none) as μ r μ') (hE : hEn (some 75, none) as) (hO : hOK μ) : r.isSome = false ∧ hRm (hP hw_219_0) (hQ hw_219_0) μ μ' := by
  rw [← show hrt 219 = false from by decide +kernel]
  exact hAll hV0 hg_219_0 hE h hO
theorem hf_220_0 {as : List zV} {r : Option zV} {μ μ' : xM} (h : Ex gx (⟨"CapitalCaseModel", "ends", "(I)V"⟩, prog_14_method_26_code, 2, none) as μ r μ') (hE : hEn (some 75, none) as) (hO : hOK μ) : r.isSome = false ∧ hRm (hP hw_220_0) (hQ hw_220_0) μ μ' := by
  rw [← show hrt 220 = false from by decide +kernel]
  exact hAll hV0 hg_220_0 hE h hO
theorem hf_221_0 {as : List zV} {r : Option zV} {μ μ' : xM} (h : Ex gx (⟨"CapitalCaseModel", "takesLetters", "()V"⟩, prog_14_method_30_code, 4, none) as μ r μ') (hE : hEn (some 75, none) as) (hO : hOK μ) : r.isSome = false ∧ hRm (hP hw_221_0) (hQ hw_221_0) μ μ' := by
  rw [← show hrt 221 = false from by decide +kernel]
  exact hAll hV0 hg_221_0 hE h hO
theorem hf_222_0 {as : List zV} {r : Option zV} {μ μ' : xM} (h : Ex gx (⟨"CapitalCaseModel", "lettersIn", "(J)I"⟩, prog_14_method_28_code, 5, (some .int)) as μ r μ') (hE : hEn (none, none) as) (hO : hOK μ) : r.isSome = true ∧ hRm (hP hw_222_0) (hQ hw_222_0) μ μ' := by
  rw [← show hrt 222 = true from by decide +kernel]
  exact hAll hV0 hg_222_0 hE h hO
theorem hf_223_0 {as : List zV} {r : Option zV} {μ μ' : xM} (h : Ex gx (⟨"CapitalCaseModel", "letterIn", "(JI)I"⟩, prog_14_method_29_code, 6, (some .int)) as μ r μ') (hE : hEn (none, none) as) (hO : hOK μ) : r.isSome = true ∧ hRm (hP hw_223_0) (hQ hw_223_0) μ μ' := by
  rw [← show hrt 223 = true from by decide +kernel]
  exact hAll hV0 hg_223_0 hE h hO
theorem hf_224_0 {as : List zV} {r : Option zV} {μ μ' : xM} (h : Ex gx (⟨"CapitalCaseModel", "tellHouse", "()V"⟩, prog_14_method_31_code, 4, none) as μ r μ') (hE : hEn (some 75, none) as) (hO : hOK μ) : r.isSome = false ∧ hRm (hP hw_224_0) (hQ hw_224_0) μ μ' := by
  rw [← show hrt 224 = false from by decide +kernel]
  exact hAll hV0 hg_224_0 hE h hO
theorem hf_225_0 {as : List zV} {r : Option zV} {μ μ' : xM} (h : Ex gx (⟨"CapitalCaseModel", "tellVerse", "()V"⟩, prog_14_method_32_code, 4, none) as μ r μ') (hE : hEn (some 75, none) as) (hO : hOK μ) : r.isSome = false ∧ hRm (hP hw_225_0) (hQ hw_225_0) μ μ' := by
  rw [← show hrt 225 = false from by decide +kernel]
  exact hAll hV0 hg_225_0 hE h hO
theorem hf_226_0 {as : List zV} {r : Option zV} {μ μ' : xM} (h : Ex gx (⟨"CapitalCaseModel", "tellLaw", "(I)V"⟩, prog_14_method_33_code, 4, none) as μ r μ') (hE : hEn (some 75, none) as) (hO : hOK μ) : r.isSome = false ∧ hRm (hP hw_226_0) (hQ hw_226_0) μ μ' := by
  rw [← show hrt 226 = false from by decide +kernel]
  exact hAll hV0 hg_226_0 hE h hO
theorem hf_227_0 {as : List zV} {r : Option zV} {μ μ' : xM} (h : Ex gx (⟨"CapitalCaseModel", "term", "()V"⟩, prog_14_method_34_code, 1, none) as μ r μ') (hE : hEn (some 75, none) as) (hO : hOK μ) : r.isSome = false ∧ hRm (hP hw_227_0) (hQ hw_227_0) μ μ' := by
  rw [← show hrt 227 = false from by decide +kernel]
  exact hAll hV0 hg_227_0 hE h hO
theorem hf_228_0 {as : List zV} {r : Option zV} {μ μ' : xM} (h : Ex gx (⟨"CapitalCaseModel", "emit", "(II)V"⟩, prog_14_method_35_code, 3, none) as μ r μ') (hE : hEn (some 75, none) as) (hO : hOK μ) : r.isSome = false ∧ hRm (hP hw_228_0) (hQ hw_228_0) μ μ' := by
  rw [← show hrt 228 = false from by decide +kernel]
  exact hAll hV0 hg_228_0 hE h hO
theorem hf_229_0 {as : List zV} {r : Option zV} {μ μ' : xM} (h : Ex gx (⟨"CapitalCaseModel", "comesOut", "(Z)V"⟩, prog_14_method_36_code, 3, none) as μ r μ') (hE : hEn (some 75, none) as) (hO : hOK μ) : r.isSome = false ∧ hRm (hP hw_229_0) (hQ hw_229_0) μ μ' := by
  rw [← show hrt 229 = false from by decide +kernel]
  exact hAll hV0 hg_229_0 hE h hO
theorem hf_230_0 {as : List zV} {r : Option zV} {μ μ' : xM} (h : Ex gx (⟨"CapitalCaseModel", "expression", "()V"⟩, prog_14_method_37_code, 3, none) as μ r μ') (hE : hEn (some 75, none) as) (hO : hOK μ) : r.isSome = false ∧ hRm (hP hw_230_0) (hQ hw_230_0) μ μ' := by
  rw [← show hrt 230 = false from by decide +kernel]
  exact hAll hV0 hg_230_0 hE h hO
theorem hf_231_0 {as : List zV} {r : Option zV} {μ μ' : xM} (h : Ex gx (⟨"CapitalCaseModel", "unit", "()V"⟩, prog_14_method_38_code, 1, none) as μ r μ') (hE : hEn (some 75, none) as) (hO : hOK μ) : r.isSome = false ∧ hRm (hP hw_231_0) (hQ hw_231_0) μ μ' := by
  rw [← show hrt 231 = false from by decide +kernel]
  exact hAll hV0 hg_231_0 hE h hO
theorem hf_232_0 {as : List zV} {r : Option zV} {μ μ' : xM} (h : Ex gx (⟨"CapitalCaseModel", "termOf", "(II)I"⟩, prog_14_method_39_code, 8, (some .int)) as μ r μ') (hE : hEn (some 75, none) as) (hO : hOK μ) : r.isSome = true ∧ hRm (hP hw_232_0) (hQ hw_232_0) μ μ' := by
  rw [← show hrt 232 = true from by decide +kernel]
  exact hAll hV0 hg_232_0 hE h hO
theorem hf_233_0 {as : List zV} {r : Option zV} {μ μ' : xM} (h : Ex gx (⟨"CapitalCase$Script", "leadOn", "(I)V"⟩, prog_8_method_5_code, 2, none) as μ r μ') (hE : hEn (some 13, none) as) (hO : hOK μ) : r.isSome = false ∧ hRm (hP hw_233_0) (hQ hw_233_0) μ μ' := by
  rw [← show hrt 233 = false from by decide +kernel]
  exact hAll hV0 hg_233_0 hE h hO
theorem hf_234_0 {as : List zV} {r : Option zV} {μ μ' : xM} (h : Ex gx (⟨"CapitalCase$Parser", "parseSum", "(I)Z"⟩, prog_4_method_16_code, 4, (some .boolean)) as μ r μ') (hE : hEn (some 12, none) as) (hO : hOK μ) : r.isSome = true ∧ hRm (hP hw_234_0) (hQ hw_234_0) μ μ' := by
  rw [← show hrt 234 = true from by decide +kernel]
  exact hAll hV0 hg_234_0 hE h hO
theorem hf_235_0 {as : List zV} {r : Option zV} {μ μ' : xM} (h : Ex gx (⟨"CapitalCase$Parser", "parsePart", "(I)Z"⟩, prog_4_method_17_code, 4, (some .boolean)) as μ r μ') (hE : hEn (some 12, none) as) (hO : hOK μ) : r.isSome = true ∧ hRm (hP hw_235_0) (hQ hw_235_0) μ μ' := by
  rw [← show hrt 235 = true from by decide +kernel]
  exact hAll hV0 hg_235_0 hE h hO
theorem hf_236_0 {as : List zV} {r : Option zV} {μ μ' : xM} (h : Ex gx (⟨"CapitalCase$Parser", "parseUnit", "(I)Z"⟩, prog_4_method_18_code, 3, (some .boolean)) as μ r μ') (hE : hEn (some 12, none) as) (hO : hOK μ) : r.isSome = true ∧ hRm (hP hw_236_0) (hQ hw_236_0) μ μ' := by
  rw [← show hrt 236 = true from by decide +kernel]
  exact hAll hV0 hg_236_0 hE h hO
theorem hf_237_0 {as : List zV} {r : Option zV} {μ μ' : xM} (h : Ex gx (⟨"CapitalCase$Parser", "letterOf", "(II)I"⟩, prog_4_method_13_code, 3, (some .int)) as μ r μ') (hE : hEn (some 12, none) as) (hO : hOK μ) : r.isSome = true ∧ hRm (hP hw_237_0) (hQ hw_237_0) μ μ' := by
  rw [← show hrt 237 = true from by decide +kernel]
  exact hAll hV0 hg_237_0 hE h hO
theorem hf_238_0 {as : List zV} {r : Option zV} {μ μ' : xM} (h : Ex gx (⟨"CapitalCase$Parser", "areLetters", "(I)Z"⟩, prog_4_method_12_code, 3, (some .boolean)) as μ r μ') (hE : hEn (some 12, none) as) (hO : hOK μ) : r.isSome = true ∧ hRm (hP hw_238_0) (hQ hw_238_0) μ μ' := by
  rw [← show hrt 238 = true from by decide +kernel]
  exact hAll hV0 hg_238_0 hE h hO
theorem hf_239_0 {as : List zV} {r : Option zV} {μ μ' : xM} (h : Ex gx (⟨"CapitalCase$Tokens", "kindOf", "([BII)I"⟩, prog_9_method_7_code, 4, (some .int)) as μ r μ') (hE : hEn (some 1, none) as) (hO : hOK μ) : r.isSome = true ∧ hRm (hP hw_239_0) (hQ hw_239_0) μ μ' := by
  rw [← show hrt 239 = true from by decide +kernel]
  exact hAll hV0 hg_239_0 hE h hO
theorem hf_240_0 {as : List zV} {r : Option zV} {μ μ' : xM} (h : Ex gx (⟨"CapitalCase$Tokens", "wordOrName", "([BII)I"⟩, prog_9_method_8_code, 4, (some .int)) as μ r μ') (hE : hEn (some 1, none) as) (hO : hOK μ) : r.isSome = true ∧ hRm (hP hw_240_0) (hQ hw_240_0) μ μ' := by
  rw [← show hrt 240 = true from by decide +kernel]
  exact hAll hV0 hg_240_0 hE h hO
theorem hf_241_0 {as : List zV} {r : Option zV} {μ μ' : xM} (h : Ex gx (⟨"CapitalCase$Tokens", "isWord", "(I[BII)Z"⟩, prog_9_method_9_code, 6, (some .boolean)) as μ r μ') (hE : hEn (none, none) as) (hO : hOK μ) : r.isSome = true ∧ hRm (hP hw_241_0) (hQ hw_241_0) μ μ' := by
  rw [← show hrt 241 = true from by decide +kernel]
  exact hAll hV0 hg_241_0 hE h hO
theorem hf_242_0 {as : List zV} {r : Option zV} {μ μ' : xM} (h : Ex gx (⟨"CapitalCase$Tokens", "sizeAt", "([BII)I"⟩, prog_9_method_6_code, 5, (some .int)) as μ r μ') (hE : hEn (some 1, none) as) (hO : hOK μ) : r.isSome = true ∧ hRm (hP hw_242_0) (hQ hw_242_0) μ μ' := by
  rw [← show hrt 242 = true from by decide +kernel]
  exact hAll hV0 hg_242_0 hE h hO
theorem hf_243_0 {as : List zV} {r : Option zV} {μ μ' : xM} (h : Ex gx (⟨"CapitalCase$Judge", "reckon", "(III)I"⟩, prog_3_method_9_code, 3, (some .int)) as μ r μ') (hE : hEn (none, none) as) (hO : hOK μ) : r.isSome = true ∧ hRm (hP hw_243_0) (hQ hw_243_0) μ μ' := by
  rw [← show hrt 243 = true from by decide +kernel]
  exact hAll hV0 hg_243_0 hE h hO
/-- what is left alone, cell by cell (below 119) -/
theorem hSt {W : hW} {μ μ' : xM} (h : hRm (hP W) (hQ W) μ μ') (hO : hOK μ) {a j : Nat} (ha : a < 119) (hb : hpB W a j = true) : μ'.1 a j = μ.1 a j := ((h hO).2.2.1 a j (hpB_ok hb) (Nat.lt_of_lt_of_le ha hO.1)).1
theorem hStl {W : hW} {μ μ' : xM} (h : hRm (hP W) (hQ W) μ μ') (hO : hOK μ) {a j : Nat} (ha : a < 119) (hb : hpB W a j = true) : μ'.2.1 a j = μ.2.1 a j := ((h hO).2.2.1 a j (hpB_ok hb) (Nat.lt_of_lt_of_le ha hO.1)).2
theorem hStr {W : hW} {μ μ' : xM} (h : hRm (hP W) (hQ W) μ μ') (hO : hOK μ) {a : Nat} (ha : a < 119) (hb : hqB W a = true) (j : Nat) : μ'.2.2.1 a j = μ.2.2.1 a j := (h hO).2.2.2 a (hqB_ok hb) (Nat.lt_of_lt_of_le ha hO.1) j
/-- a whole cell that no field of it stands in the way -/
noncomputable def hpA (W : hW) (a : Nat) : Bool := W.1.all (fun k => !(if k < 119 then a == k else gx.1 a == k)) && (W.2.1.all (fun p => !(if p.1 < 119 then a == p.1 else gx.1 a == p.1)) && W.2.2.1.all (fun p => !hcl a p.1))
theorem hpA_ok {W : hW} {a : Nat} (h : hpA W a = true) (j : Nat) : hpB W a j = true := by
  unfold hpA at h
  unfold hpB
  rw [Bool.and_eq_true, Bool.and_eq_true] at h ⊢
  refine ⟨h.1, ?_, ?_⟩
  · rw [List.all_eq_true]
    intro p hp
    have := List.all_eq_true.mp h.2.1 p hp
    generalize (if p.1 < 119 then a == p.1 else gx.1 a == p.1) = x at this ⊢
    cases x with
    | false => rfl
    | true => cases this
  · rw [List.all_eq_true]
    intro p hp
    have := List.all_eq_true.mp h.2.2 p hp
    show (!(p.2 == j && hcl a p.1)) = true
    replace this : (!hcl a p.1) = true := this
    cases hh : hcl a p.1 with
    | false => simp
    | true => rw [hh] at this; cases this
