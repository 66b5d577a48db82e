/-! the shapes behind both constructors; where the labels lie (written by gen.py) -/
def az_G1 : aG := [(99, 0, []), (99, 0, []), (20, 6, []), (9, 2, [12, 0]), (9, 2, [13, 0]), (9, 2, [14, 0]), (9, 2, [15, 0]), (9, 2, [16, 0]), (9, 2, [17, 0]), (9, 2, [18, 0]), (9, 2, [19, 0]), (21, 3, []), (21, 3, []), (21, 5, []), (21, 4, []), (21, 4, []), (21, 5, []), (21, 4, []), (21, 4, []), (7, 10, [21, 22, 23, 31, 39, 41, 235, 236, 246, 0]), (23, 8, [248, 250, 252, 254, 256, 258, 260, 262]), (24, 2, [264, 272]), (1, 16, [24, 25, 26, 27, 28, 29, 30, 0, 0, 0, 0, 0, 0, 0, 0, 0]), (20, 6, []), (20, 4, []), (20, 4, []), (20, 4, []), (20, 4, []), (20, 4, []), (20, 4, []), (1, 16, [32, 33, 34, 35, 36, 37, 38, 0, 0, 0, 0, 0, 0, 0, 0, 0]), (20, 6, []), (20, 4, []), (20, 4, []), (20, 4, []), (20, 4, []), (20, 4, []), (20, 4, []), (6, 7, [40, 0, 0, 0, 0, 0, 0]), (21, 400, []), (4, 3, [42, 0, 0]), (24, 24, [43, 51, 59, 67, 75, 83, 91, 99, 107, 115, 123, 131, 139, 147, 155, 163, 171, 179, 187, 195, 203, 211, 219, 227]), (1, 16, [44, 45, 46, 47, 48, 49, 50, 0, 0, 0, 0, 0, 0, 0, 0, 0]), (20, 6, []), (20, 4, []), (20, 4, []), (20, 4, []), (20, 4, []), (20, 4, []), (20, 4, []), (1, 16, [52, 53, 54, 55, 56, 57, 58, 0, 0, 0, 0, 0, 0, 0, 0, 0]), (20, 6, []), (20, 4, []), (20, 4, []), (20, 4, []), (20, 4, []), (20, 4, []), (20, 4, []), (1, 16, [60, 61, 62, 63, 64, 65, 66, 0, 0, 0, 0, 0, 0, 0, 0, 0]), (20, 6, []), (20, 4, []), (20, 4, []), (20, 4, []), (20, 4, []), (20, 4, []), (20, 4, []), (1, 16, [68, 69, 70, 71, 72, 73, 74, 0, 0, 0, 0, 0, 0, 0, 0, 0]), (20, 6, []), (20, 4, []), (20, 4, []), (20, 4, []), (20, 4, []), (20, 4, []), (20, 4, []), (1, 16, [76, 77, 78, 79, 80, 81, 82, 0, 0, 0, 0, 0, 0, 0, 0, 0]), (20, 6, []), (20, 4, []), (20, 4, []), (20, 4, []), (20, 4, []), (20, 4, []), (20, 4, []), (1, 16, [84, 85, 86, 87, 88, 89, 90, 0, 0, 0, 0, 0, 0, 0, 0, 0]), (20, 6, []), (20, 4, []), (20, 4, []), (20, 4, []), (20, 4, []), (20, 4, []), (20, 4, []), (1, 16, [92, 93, 94, 95, 96, 97, 98, 0, 0, 0, 0, 0, 0, 0, 0, 0]), (20, 6, []), (20, 4, []), (20, 4, []), (20, 4, []), (20, 4, []), (20, 4, []), (20, 4, []), (1, 16, [100, 101, 102, 103, 104, 105, 106, 0, 0, 0, 0, 0, 0, 0, 0, 0]), (20, 6, []), (20, 4, []), (20, 4, []), (20, 4, []), (20, 4, []), (20, 4, []), (20, 4, []), (1, 16, [108, 109, 110, 111, 112, 113, 114, 0, 0, 0, 0, 0, 0, 0, 0, 0]), (20, 6, []), (20, 4, []), (20, 4, []), (20, 4, []), (20, 4, []), (20, 4, []), (20, 4, []), (1, 16, [116, 117, 118, 119, 120, 121, 122, 0, 0, 0, 0, 0, 0, 0, 0, 0]), (20, 6, []), (20, 4, []), (20, 4, []), (20, 4, []), (20, 4, []), (20, 4, []), (20, 4, []), (1, 16, [124, 125, 126, 127, 128, 129, 130, 0, 0, 0, 0, 0, 0, 0, 0, 0]), (20, 6, []), (20, 4, []), (20, 4, []), (20, 4, []), (20, 4, []), (20, 4, []), (20, 4, []), (1, 16, [132, 133, 134, 135, 136, 137, 138, 0, 0, 0, 0, 0, 0, 0, 0, 0]), (20, 6, []), (20, 4, []), (20, 4, []), (20, 4, []), (20, 4, []), (20, 4, []), (20, 4, []), (1, 16, [140, 141, 142, 143, 144, 145, 146, 0, 0, 0, 0, 0, 0, 0, 0, 0]), (20, 6, []), (20, 4, []), (20, 4, []), (20, 4, []), (20, 4, []), (20, 4, []), (20, 4, []), (1, 16, [148, 149, 150, 151, 152, 153, 154, 0, 0, 0, 0, 0, 0, 0, 0, 0]), (20, 6, []), (20, 4, []), (20, 4, []), (20, 4, []), (20, 4, []), (20, 4, []), (20, 4, []), (1, 16, [156, 157, 158, 159, 160, 161, 162, 0, 0, 0, 0, 0, 0, 0, 0, 0]), (20, 6, []), (20, 4, []), (20, 4, []), (20, 4, []), (20, 4, []), (20, 4, []), (20, 4, []), (1, 16, [164, 165, 166, 167, 168, 169, 170, 0, 0, 0, 0, 0, 0, 0, 0, 0]), (20, 6, []), (20, 4, []), (20, 4, []), (20, 4, []), (20, 4, []), (20, 4, []), (20, 4, []), (1, 16, [172, 173, 174, 175, 176, 177, 178, 0, 0, 0, 0, 0, 0, 0, 0, 0]), (20, 6, []), (20, 4, []), (20, 4, []), (20, 4, []), (20, 4, []), (20, 4, []), (20, 4, []), (1, 16, [180, 181, 182, 183, 184, 185, 186, 0, 0, 0, 0, 0, 0, 0, 0, 0]), (20, 6, []), (20, 4, []), (20, 4, []), (20, 4, []), (20, 4, []), (20, 4, []), (20, 4, []), (1, 16, [188, 189, 190, 191, 192, 193, 194, 0, 0, 0, 0, 0, 0, 0, 0, 0]), (20, 6, []), (20, 4, []), (20, 4, []), (20, 4, []), (20, 4, []), (20, 4, []), (20, 4, []), (1, 16, [196, 197, 198, 199, 200, 201, 202, 0, 0, 0, 0, 0, 0, 0, 0, 0]), (20, 6, []), (20, 4, []), (20, 4, []), (20, 4, []), (20, 4, []), (20, 4, []), (20, 4, []), (1, 16, [204, 205, 206, 207, 208, 209, 210, 0, 0, 0, 0, 0, 0, 0, 0, 0]), (20, 6, []), (20, 4, []), (20, 4, []), (20, 4, []), (20, 4, []), (20, 4, []), (20, 4, []), (1, 16, [212, 213, 214, 215, 216, 217, 218, 0, 0, 0, 0, 0, 0, 0, 0, 0]), (20, 6, []), (20, 4, []), (20, 4, []), (20, 4, []), (20, 4, []), (20, 4, []), (20, 4, []), (1, 16, [220, 221, 222, 223, 224, 225, 226, 0, 0, 0, 0, 0, 0, 0, 0, 0]), (20, 6, []), (20, 4, []), (20, 4, []), (20, 4, []), (20, 4, []), (20, 4, []), (20, 4, []), (1, 16, [228, 229, 230, 231, 232, 233, 234, 0, 0, 0, 0, 0, 0, 0, 0, 0]), (20, 6, []), (20, 4, []), (20, 4, []), (20, 4, []), (20, 4, []), (20, 4, []), (20, 4, []), (3, 5, [236, 243, 244, 245, 0]), (2, 8, [237, 238, 239, 240, 241, 242, 0, 0]), (20, 6, []), (20, 4, []), (20, 4, []), (20, 4, []), (20, 24, []), (20, 4, []), (20, 7, []), (20, 4, []), (20, 4, []), (0, 2, [247, 0]), (20, 16, []), (5, 3, [249, 0, 0]), (20, 40, []), (5, 3, [251, 0, 0]), (20, 40, []), (5, 3, [253, 0, 0]), (20, 40, []), (5, 3, [255, 0, 0]), (20, 40, []), (5, 3, [257, 0, 0]), (20, 40, []), (5, 3, [259, 0, 0]), (20, 40, []), (5, 3, [261, 0, 0]), (20, 40, []), (5, 3, [263, 0, 0]), (20, 40, []), (1, 16, [265, 266, 267, 268, 269, 270, 271, 0, 0, 0, 0, 0, 0, 0, 0, 0]), (20, 6, []), (20, 4, []), (20, 4, []), (20, 4, []), (20, 4, []), (20, 4, []), (20, 4, []), (1, 16, [273, 274, 275, 276, 277, 278, 279, 0, 0, 0, 0, 0, 0, 0, 0, 0]), (20, 6, []), (20, 4, []), (20, 4, []), (20, 4, []), (20, 4, []), (20, 4, []), (20, 4, [])]
def az_Gm : aG := [(8, 25, [281, 282, 283, 0, 284, 0, 0, 0, 285, 0, 286, 287, 288, 0, 289, 0, 0, 0, 0, 0, 290, 291, 292, 0, 293]), (20, 8, []), (20, 8, []), (20, 320, []), (20, 400, []), (20, 44, []), (20, 1056, []), (20, 88, []), (22, 2, []), (20, 16, []), (20, 44, []), (20, 4, []), (20, 6, []), (20, 4, [])]
def az_G : aG := [(99, 0, []), (99, 0, []), (20, 6, []), (9, 2, [12, 0]), (9, 2, [13, 0]), (9, 2, [14, 0]), (9, 2, [15, 0]), (9, 2, [16, 0]), (9, 2, [17, 0]), (9, 2, [18, 0]), (9, 2, [19, 0]), (21, 3, []), (21, 3, []), (21, 5, []), (21, 4, []), (21, 4, []), (21, 5, []), (21, 4, []), (21, 4, []), (7, 10, [21, 22, 23, 31, 39, 41, 235, 236, 246, 0]), (23, 8, [248, 250, 252, 254, 256, 258, 260, 262]), (24, 2, [264, 272]), (1, 16, [24, 25, 26, 27, 28, 29, 30, 0, 0, 0, 0, 0, 0, 0, 0, 0]), (20, 6, []), (20, 4, []), (20, 4, []), (20, 4, []), (20, 4, []), (20, 4, []), (20, 4, []), (1, 16, [32, 33, 34, 35, 36, 37, 38, 0, 0, 0, 0, 0, 0, 0, 0, 0]), (20, 6, []), (20, 4, []), (20, 4, []), (20, 4, []), (20, 4, []), (20, 4, []), (20, 4, []), (6, 7, [40, 0, 0, 0, 0, 0, 0]), (21, 400, []), (4, 3, [42, 0, 0]), (24, 24, [43, 51, 59, 67, 75, 83, 91, 99, 107, 115, 123, 131, 139, 147, 155, 163, 171, 179, 187, 195, 203, 211, 219, 227]), (1, 16, [44, 45, 46, 47, 48, 49, 50, 0, 0, 0, 0, 0, 0, 0, 0, 0]), (20, 6, []), (20, 4, []), (20, 4, []), (20, 4, []), (20, 4, []), (20, 4, []), (20, 4, []), (1, 16, [52, 53, 54, 55, 56, 57, 58, 0, 0, 0, 0, 0, 0, 0, 0, 0]), (20, 6, []), (20, 4, []), (20, 4, []), (20, 4, []), (20, 4, []), (20, 4, []), (20, 4, []), (1, 16, [60, 61, 62, 63, 64, 65, 66, 0, 0, 0, 0, 0, 0, 0, 0, 0]), (20, 6, []), (20, 4, []), (20, 4, []), (20, 4, []), (20, 4, []), (20, 4, []), (20, 4, []), (1, 16, [68, 69, 70, 71, 72, 73, 74, 0, 0, 0, 0, 0, 0, 0, 0, 0]), (20, 6, []), (20, 4, []), (20, 4, []), (20, 4, []), (20, 4, []), (20, 4, []), (20, 4, []), (1, 16, [76, 77, 78, 79, 80, 81, 82, 0, 0, 0, 0, 0, 0, 0, 0, 0]), (20, 6, []), (20, 4, []), (20, 4, []), (20, 4, []), (20, 4, []), (20, 4, []), (20, 4, []), (1, 16, [84, 85, 86, 87, 88, 89, 90, 0, 0, 0, 0, 0, 0, 0, 0, 0]), (20, 6, []), (20, 4, []), (20, 4, []), (20, 4, []), (20, 4, []), (20, 4, []), (20, 4, []), (1, 16, [92, 93, 94, 95, 96, 97, 98, 0, 0, 0, 0, 0, 0, 0, 0, 0]), (20, 6, []), (20, 4, []), (20, 4, []), (20, 4, []), (20, 4, []), (20, 4, []), (20, 4, []), (1, 16, [100, 101, 102, 103, 104, 105, 106, 0, 0, 0, 0, 0, 0, 0, 0, 0]), (20, 6, []), (20, 4, []), (20, 4, []), (20, 4, []), (20, 4, []), (20, 4, []), (20, 4, []), (1, 16, [108, 109, 110, 111, 112, 113, 114, 0, 0, 0, 0, 0, 0, 0, 0, 0]), (20, 6, []), (20, 4, []), (20, 4, []), (20, 4, []), (20, 4, []), (20, 4, []), (20, 4, []), (1, 16, [116, 117, 118, 119, 120, 121, 122, 0, 0, 0, 0, 0, 0, 0, 0, 0]), (20, 6, []), (20, 4, []), (20, 4, []), (20, 4, []), (20, 4, []), (20, 4, []), (20, 4, []), (1, 16, [124, 125, 126, 127, 128, 129, 130, 0, 0, 0, 0, 0, 0, 0, 0, 0]), (20, 6, []), (20, 4, []), (20, 4, []), (20, 4, []), (20, 4, []), (20, 4, []), (20, 4, []), (1, 16, [132, 133, 134, 135, 136, 137, 138, 0, 0, 0, 0, 0, 0, 0, 0, 0]), (20, 6, []), (20, 4, []), (20, 4, []), (20, 4, []), (20, 4, []), (20, 4, []), (20, 4, []), (1, 16, [140, 141, 142, 143, 144, 145, 146, 0, 0, 0, 0, 0, 0, 0, 0, 0]), (20, 6, []), (20, 4, []), (20, 4, []), (20, 4, []), (20, 4, []), (20, 4, []), (20, 4, []), (1, 16, [148, 149, 150, 151, 152, 153, 154, 0, 0, 0, 0, 0, 0, 0, 0, 0]), (20, 6, []), (20, 4, []), (20, 4, []), (20, 4, []), (20, 4, []), (20, 4, []), (20, 4, []), (1, 16, [156, 157, 158, 159, 160, 161, 162, 0, 0, 0, 0, 0, 0, 0, 0, 0]), (20, 6, []), (20, 4, []), (20, 4, []), (20, 4, []), (20, 4, []), (20, 4, []), (20, 4, []), (1, 16, [164, 165, 166, 167, 168, 169, 170, 0, 0, 0, 0, 0, 0, 0, 0, 0]), (20, 6, []), (20, 4, []), (20, 4, []), (20, 4, []), (20, 4, []), (20, 4, []), (20, 4, []), (1, 16, [172, 173, 174, 175, 176, 177, 178, 0, 0, 0, 0, 0, 0, 0, 0, 0]), (20, 6, []), (20, 4, []), (20, 4, []), (20, 4, []), (20, 4, []), (20, 4, []), (20, 4, []), (1, 16, [180, 181, 182, 183, 184, 185, 186, 0, 0, 0, 0, 0, 0, 0, 0, 0]), (20, 6, []), (20, 4, []), (20, 4, []), (20, 4, []), (20, 4, []), (20, 4, []), (20, 4, []), (1, 16, [188, 189, 190, 191, 192, 193, 194, 0, 0, 0, 0, 0, 0, 0, 0, 0]), (20, 6, []), (20, 4, []), (20, 4, []), (20, 4, []), (20, 4, []), (20, 4, []), (20, 4, []), (1, 16, [196, 197, 198, 199, 200, 201, 202, 0, 0, 0, 0, 0, 0, 0, 0, 0]), (20, 6, []), (20, 4, []), (20, 4, []), (20, 4, []), (20, 4, []), (20, 4, []), (20, 4, []), (1, 16, [204, 205, 206, 207, 208, 209, 210, 0, 0, 0, 0, 0, 0, 0, 0, 0]), (20, 6, []), (20, 4, []), (20, 4, []), (20, 4, []), (20, 4, []), (20, 4, []), (20, 4, []), (1, 16, [212, 213, 214, 215, 216, 217, 218, 0, 0, 0, 0, 0, 0, 0, 0, 0]), (20, 6, []), (20, 4, []), (20, 4, []), (20, 4, []), (20, 4, []), (20, 4, []), (20, 4, []), (1, 16, [220, 221, 222, 223, 224, 225, 226, 0, 0, 0, 0, 0, 0, 0, 0, 0]), (20, 6, []), (20, 4, []), (20, 4, []), (20, 4, []), (20, 4, []), (20, 4, []), (20, 4, []), (1, 16, [228, 229, 230, 231, 232, 233, 234, 0, 0, 0, 0, 0, 0, 0, 0, 0]), (20, 6, []), (20, 4, []), (20, 4, []), (20, 4, []), (20, 4, []), (20, 4, []), (20, 4, []), (3, 5, [236, 243, 244, 245, 0]), (2, 8, [237, 238, 239, 240, 241, 242, 0, 0]), (20, 6, []), (20, 4, []), (20, 4, []), (20, 4, []), (20, 24, []), (20, 4, []), (20, 7, []), (20, 4, []), (20, 4, []), (0, 2, [247, 0]), (20, 16, []), (5, 3, [249, 0, 0]), (20, 40, []), (5, 3, [251, 0, 0]), (20, 40, []), (5, 3, [253, 0, 0]), (20, 40, []), (5, 3, [255, 0, 0]), (20, 40, []), (5, 3, [257, 0, 0]), (20, 40, []), (5, 3, [259, 0, 0]), (20, 40, []), (5, 3, [261, 0, 0]), (20, 40, []), (5, 3, [263, 0, 0]), (20, 40, []), (1, 16, [265, 266, 267, 268, 269, 270, 271, 0, 0, 0, 0, 0, 0, 0, 0, 0]), (20, 6, []), (20, 4, []), (20, 4, []), (20, 4, []), (20, 4, []), (20, 4, []), (20, 4, []), (1, 16, [273, 274, 275, 276, 277, 278, 279, 0, 0, 0, 0, 0, 0, 0, 0, 0]), (20, 6, []), (20, 4, []), (20, 4, []), (20, 4, []), (20, 4, []), (20, 4, []), (20, 4, []), (8, 25, [281, 282, 283, 0, 284, 0, 0, 0, 285, 0, 286, 287, 288, 0, 289, 0, 0, 0, 0, 0, 290, 291, 292, 0, 293]), (20, 8, []), (20, 8, []), (20, 320, []), (20, 400, []), (20, 44, []), (20, 1056, []), (20, 88, []), (22, 2, []), (20, 16, []), (20, 44, []), (20, 4, []), (20, 6, []), (20, 4, [])]
theorem g_2 : az_G[2]? = some (20, 6, []) := by decide +kernel
theorem g_3 : az_G[3]? = some (9, 2, [12, 0]) := by decide +kernel
theorem g_4 : az_G[4]? = some (9, 2, [13, 0]) := by decide +kernel
theorem g_5 : az_G[5]? = some (9, 2, [14, 0]) := by decide +kernel
theorem g_6 : az_G[6]? = some (9, 2, [15, 0]) := by decide +kernel
theorem g_7 : az_G[7]? = some (9, 2, [16, 0]) := by decide +kernel
theorem g_8 : az_G[8]? = some (9, 2, [17, 0]) := by decide +kernel
theorem g_9 : az_G[9]? = some (9, 2, [18, 0]) := by decide +kernel
theorem g_10 : az_G[10]? = some (9, 2, [19, 0]) := by decide +kernel
theorem g_11 : az_G[11]? = some (21, 3, []) := by decide +kernel
theorem g_12 : az_G[12]? = some (21, 3, []) := by decide +kernel
theorem g_13 : az_G[13]? = some (21, 5, []) := by decide +kernel
theorem g_14 : az_G[14]? = some (21, 4, []) := by decide +kernel
theorem g_15 : az_G[15]? = some (21, 4, []) := by decide +kernel
theorem g_16 : az_G[16]? = some (21, 5, []) := by decide +kernel
theorem g_17 : az_G[17]? = some (21, 4, []) := by decide +kernel
theorem g_18 : az_G[18]? = some (21, 4, []) := by decide +kernel
theorem g_19 : az_G[19]? = some (7, 10, [21, 22, 23, 31, 39, 41, 235, 236, 246, 0]) := by decide +kernel
theorem g_20 : az_G[20]? = some (23, 8, [248, 250, 252, 254, 256, 258, 260, 262]) := by decide +kernel
theorem g_21 : az_G[21]? = some (24, 2, [264, 272]) := by decide +kernel
theorem g_22 : az_G[22]? = some (1, 16, [24, 25, 26, 27, 28, 29, 30, 0, 0, 0, 0, 0, 0, 0, 0, 0]) := by decide +kernel
theorem g_23 : az_G[23]? = some (20, 6, []) := by decide +kernel
theorem g_24 : az_G[24]? = some (20, 4, []) := by decide +kernel
theorem g_25 : az_G[25]? = some (20, 4, []) := by decide +kernel
theorem g_26 : az_G[26]? = some (20, 4, []) := by decide +kernel
theorem g_27 : az_G[27]? = some (20, 4, []) := by decide +kernel
theorem g_28 : az_G[28]? = some (20, 4, []) := by decide +kernel
theorem g_29 : az_G[29]? = some (20, 4, []) := by decide +kernel
theorem g_30 : az_G[30]? = some (1, 16, [32, 33, 34, 35, 36, 37, 38, 0, 0, 0, 0, 0, 0, 0, 0, 0]) := by decide +kernel
theorem g_31 : az_G[31]? = some (20, 6, []) := by decide +kernel
theorem g_32 : az_G[32]? = some (20, 4, []) := by decide +kernel
theorem g_33 : az_G[33]? = some (20, 4, []) := by decide +kernel
theorem g_34 : az_G[34]? = some (20, 4, []) := by decide +kernel
theorem g_35 : az_G[35]? = some (20, 4, []) := by decide +kernel
theorem g_36 : az_G[36]? = some (20, 4, []) := by decide +kernel
theorem g_37 : az_G[37]? = some (20, 4, []) := by decide +kernel
theorem g_38 : az_G[38]? = some (6, 7, [40, 0, 0, 0, 0, 0, 0]) := by decide +kernel
theorem g_39 : az_G[39]? = some (21, 400, []) := by decide +kernel
theorem g_40 : az_G[40]? = some (4, 3, [42, 0, 0]) := by decide +kernel
theorem g_41 : az_G[41]? = some (24, 24, [43, 51, 59, 67, 75, 83, 91, 99, 107, 115, 123, 131, 139, 147, 155, 163, 171, 179, 187, 195, 203, 211, 219, 227]) := by decide +kernel
theorem g_42 : az_G[42]? = some (1, 16, [44, 45, 46, 47, 48, 49, 50, 0, 0, 0, 0, 0, 0, 0, 0, 0]) := by decide +kernel
theorem g_43 : az_G[43]? = some (20, 6, []) := by decide +kernel
theorem g_44 : az_G[44]? = some (20, 4, []) := by decide +kernel
theorem g_45 : az_G[45]? = some (20, 4, []) := by decide +kernel
theorem g_46 : az_G[46]? = some (20, 4, []) := by decide +kernel
theorem g_47 : az_G[47]? = some (20, 4, []) := by decide +kernel
theorem g_48 : az_G[48]? = some (20, 4, []) := by decide +kernel
theorem g_49 : az_G[49]? = some (20, 4, []) := by decide +kernel
theorem g_50 : az_G[50]? = some (1, 16, [52, 53, 54, 55, 56, 57, 58, 0, 0, 0, 0, 0, 0, 0, 0, 0]) := by decide +kernel
theorem g_51 : az_G[51]? = some (20, 6, []) := by decide +kernel
theorem g_52 : az_G[52]? = some (20, 4, []) := by decide +kernel
theorem g_53 : az_G[53]? = some (20, 4, []) := by decide +kernel
theorem g_54 : az_G[54]? = some (20, 4, []) := by decide +kernel
theorem g_55 : az_G[55]? = some (20, 4, []) := by decide +kernel
theorem g_56 : az_G[56]? = some (20, 4, []) := by decide +kernel
theorem g_57 : az_G[57]? = some (20, 4, []) := by decide +kernel
theorem g_58 : az_G[58]? = some (1, 16, [60, 61, 62, 63, 64, 65, 66, 0, 0, 0, 0, 0, 0, 0, 0, 0]) := by decide +kernel
theorem g_59 : az_G[59]? = some (20, 6, []) := by decide +kernel
theorem g_60 : az_G[60]? = some (20, 4, []) := by decide +kernel
theorem g_61 : az_G[61]? = some (20, 4, []) := by decide +kernel
theorem g_62 : az_G[62]? = some (20, 4, []) := by decide +kernel
theorem g_63 : az_G[63]? = some (20, 4, []) := by decide +kernel
theorem g_64 : az_G[64]? = some (20, 4, []) := by decide +kernel
theorem g_65 : az_G[65]? = some (20, 4, []) := by decide +kernel
theorem g_66 : az_G[66]? = some (1, 16, [68, 69, 70, 71, 72, 73, 74, 0, 0, 0, 0, 0, 0, 0, 0, 0]) := by decide +kernel
theorem g_67 : az_G[67]? = some (20, 6, []) := by decide +kernel
theorem g_68 : az_G[68]? = some (20, 4, []) := by decide +kernel
theorem g_69 : az_G[69]? = some (20, 4, []) := by decide +kernel
theorem g_70 : az_G[70]? = some (20, 4, []) := by decide +kernel
theorem g_71 : az_G[71]? = some (20, 4, []) := by decide +kernel
theorem g_72 : az_G[72]? = some (20, 4, []) := by decide +kernel
theorem g_73 : az_G[73]? = some (20, 4, []) := by decide +kernel
theorem g_74 : az_G[74]? = some (1, 16, [76, 77, 78, 79, 80, 81, 82, 0, 0, 0, 0, 0, 0, 0, 0, 0]) := by decide +kernel
theorem g_75 : az_G[75]? = some (20, 6, []) := by decide +kernel
theorem g_76 : az_G[76]? = some (20, 4, []) := by decide +kernel
theorem g_77 : az_G[77]? = some (20, 4, []) := by decide +kernel
theorem g_78 : az_G[78]? = some (20, 4, []) := by decide +kernel
theorem g_79 : az_G[79]? = some (20, 4, []) := by decide +kernel
theorem g_80 : az_G[80]? = some (20, 4, []) := by decide +kernel
theorem g_81 : az_G[81]? = some (20, 4, []) := by decide +kernel
theorem g_82 : az_G[82]? = some (1, 16, [84, 85, 86, 87, 88, 89, 90, 0, 0, 0, 0, 0, 0, 0, 0, 0]) := by decide +kernel
theorem g_83 : az_G[83]? = some (20, 6, []) := by decide +kernel
theorem g_84 : az_G[84]? = some (20, 4, []) := by decide +kernel
theorem g_85 : az_G[85]? = some (20, 4, []) := by decide +kernel
theorem g_86 : az_G[86]? = some (20, 4, []) := by decide +kernel
theorem g_87 : az_G[87]? = some (20, 4, []) := by decide +kernel
theorem g_88 : az_G[88]? = some (20, 4, []) := by decide +kernel
theorem g_89 : az_G[89]? = some (20, 4, []) := by decide +kernel
theorem g_90 : az_G[90]? = some (1, 16, [92, 93, 94, 95, 96, 97, 98, 0, 0, 0, 0, 0, 0, 0, 0, 0]) := by decide +kernel
theorem g_91 : az_G[91]? = some (20, 6, []) := by decide +kernel
theorem g_92 : az_G[92]? = some (20, 4, []) := by decide +kernel
theorem g_93 : az_G[93]? = some (20, 4, []) := by decide +kernel
theorem g_94 : az_G[94]? = some (20, 4, []) := by decide +kernel
theorem g_95 : az_G[95]? = some (20, 4, []) := by decide +kernel
theorem g_96 : az_G[96]? = some (20, 4, []) := by decide +kernel
theorem g_97 : az_G[97]? = some (20, 4, []) := by decide +kernel
theorem g_98 : az_G[98]? = some (1, 16, [100, 101, 102, 103, 104, 105, 106, 0, 0, 0, 0, 0, 0, 0, 0, 0]) := by decide +kernel
theorem g_99 : az_G[99]? = some (20, 6, []) := by decide +kernel
theorem g_100 : az_G[100]? = some (20, 4, []) := by decide +kernel
theorem g_101 : az_G[101]? = some (20, 4, []) := by decide +kernel
theorem g_102 : az_G[102]? = some (20, 4, []) := by decide +kernel
theorem g_103 : az_G[103]? = some (20, 4, []) := by decide +kernel
theorem g_104 : az_G[104]? = some (20, 4, []) := by decide +kernel
theorem g_105 : az_G[105]? = some (20, 4, []) := by decide +kernel
theorem g_106 : az_G[106]? = some (1, 16, [108, 109, 110, 111, 112, 113, 114, 0, 0, 0, 0, 0, 0, 0, 0, 0]) := by decide +kernel
theorem g_107 : az_G[107]? = some (20, 6, []) := by decide +kernel
theorem g_108 : az_G[108]? = some (20, 4, []) := by decide +kernel
theorem g_109 : az_G[109]? = some (20, 4, []) := by decide +kernel
theorem g_110 : az_G[110]? = some (20, 4, []) := by decide +kernel
theorem g_111 : az_G[111]? = some (20, 4, []) := by decide +kernel
theorem g_112 : az_G[112]? = some (20, 4, []) := by decide +kernel
theorem g_113 : az_G[113]? = some (20, 4, []) := by decide +kernel
theorem g_114 : az_G[114]? = some (1, 16, [116, 117, 118, 119, 120, 121, 122, 0, 0, 0, 0, 0, 0, 0, 0, 0]) := by decide +kernel
theorem g_115 : az_G[115]? = some (20, 6, []) := by decide +kernel
theorem g_116 : az_G[116]? = some (20, 4, []) := by decide +kernel
theorem g_117 : az_G[117]? = some (20, 4, []) := by decide +kernel
theorem g_118 : az_G[118]? = some (20, 4, []) := by decide +kernel
theorem g_119 : az_G[119]? = some (20, 4, []) := by decide +kernel
theorem g_120 : az_G[120]? = some (20, 4, []) := by decide +kernel
theorem g_121 : az_G[121]? = some (20, 4, []) := by decide +kernel
theorem g_122 : az_G[122]? = some (1, 16, [124, 125, 126, 127, 128, 129, 130, 0, 0, 0, 0, 0, 0, 0, 0, 0]) := by decide +kernel
theorem g_123 : az_G[123]? = some (20, 6, []) := by decide +kernel
theorem g_124 : az_G[124]? = some (20, 4, []) := by decide +kernel
theorem g_125 : az_G[125]? = some (20, 4, []) := by decide +kernel
theorem g_126 : az_G[126]? = some (20, 4, []) := by decide +kernel
theorem g_127 : az_G[127]? = some (20, 4, []) := by decide +kernel
theorem g_128 : az_G[128]? = some (20, 4, []) := by decide +kernel
theorem g_129 : az_G[129]? = some (20, 4, []) := by decide +kernel
theorem g_130 : az_G[130]? = some (1, 16, [132, 133, 134, 135, 136, 137, 138, 0, 0, 0, 0, 0, 0, 0, 0, 0]) := by decide +kernel
theorem g_131 : az_G[131]? = some (20, 6, []) := by decide +kernel
theorem g_132 : az_G[132]? = some (20, 4, []) := by decide +kernel
theorem g_133 : az_G[133]? = some (20, 4, []) := by decide +kernel
theorem g_134 : az_G[134]? = some (20, 4, []) := by decide +kernel
theorem g_135 : az_G[135]? = some (20, 4, []) := by decide +kernel
theorem g_136 : az_G[136]? = some (20, 4, []) := by decide +kernel
theorem g_137 : az_G[137]? = some (20, 4, []) := by decide +kernel
theorem g_138 : az_G[138]? = some (1, 16, [140, 141, 142, 143, 144, 145, 146, 0, 0, 0, 0, 0, 0, 0, 0, 0]) := by decide +kernel
theorem g_139 : az_G[139]? = some (20, 6, []) := by decide +kernel
theorem g_140 : az_G[140]? = some (20, 4, []) := by decide +kernel
theorem g_141 : az_G[141]? = some (20, 4, []) := by decide +kernel
theorem g_142 : az_G[142]? = some (20, 4, []) := by decide +kernel
theorem g_143 : az_G[143]? = some (20, 4, []) := by decide +kernel
theorem g_144 : az_G[144]? = some (20, 4, []) := by decide +kernel
theorem g_145 : az_G[145]? = some (20, 4, []) := by decide +kernel
theorem g_146 : az_G[146]? = some (1, 16, [148, 149, 150, 151, 152, 153, 154, 0, 0, 0, 0, 0, 0, 0, 0, 0]) := by decide +kernel
theorem g_147 : az_G[147]? = some (20, 6, []) := by decide +kernel
theorem g_148 : az_G[148]? = some (20, 4, []) := by decide +kernel
theorem g_149 : az_G[149]? = some (20, 4, []) := by decide +kernel
theorem g_150 : az_G[150]? = some (20, 4, []) := by decide +kernel
theorem g_151 : az_G[151]? = some (20, 4, []) := by decide +kernel
theorem g_152 : az_G[152]? = some (20, 4, []) := by decide +kernel
theorem g_153 : az_G[153]? = some (20, 4, []) := by decide +kernel
theorem g_154 : az_G[154]? = some (1, 16, [156, 157, 158, 159, 160, 161, 162, 0, 0, 0, 0, 0, 0, 0, 0, 0]) := by decide +kernel
theorem g_155 : az_G[155]? = some (20, 6, []) := by decide +kernel
theorem g_156 : az_G[156]? = some (20, 4, []) := by decide +kernel
theorem g_157 : az_G[157]? = some (20, 4, []) := by decide +kernel
theorem g_158 : az_G[158]? = some (20, 4, []) := by decide +kernel
theorem g_159 : az_G[159]? = some (20, 4, []) := by decide +kernel
theorem g_160 : az_G[160]? = some (20, 4, []) := by decide +kernel
theorem g_161 : az_G[161]? = some (20, 4, []) := by decide +kernel
theorem g_162 : az_G[162]? = some (1, 16, [164, 165, 166, 167, 168, 169, 170, 0, 0, 0, 0, 0, 0, 0, 0, 0]) := by decide +kernel
theorem g_163 : az_G[163]? = some (20, 6, []) := by decide +kernel
theorem g_164 : az_G[164]? = some (20, 4, []) := by decide +kernel
theorem g_165 : az_G[165]? = some (20, 4, []) := by decide +kernel
theorem g_166 : az_G[166]? = some (20, 4, []) := by decide +kernel
theorem g_167 : az_G[167]? = some (20, 4, []) := by decide +kernel
theorem g_168 : az_G[168]? = some (20, 4, []) := by decide +kernel
theorem g_169 : az_G[169]? = some (20, 4, []) := by decide +kernel
theorem g_170 : az_G[170]? = some (1, 16, [172, 173, 174, 175, 176, 177, 178, 0, 0, 0, 0, 0, 0, 0, 0, 0]) := by decide +kernel
theorem g_171 : az_G[171]? = some (20, 6, []) := by decide +kernel
theorem g_172 : az_G[172]? = some (20, 4, []) := by decide +kernel
theorem g_173 : az_G[173]? = some (20, 4, []) := by decide +kernel
theorem g_174 : az_G[174]? = some (20, 4, []) := by decide +kernel
theorem g_175 : az_G[175]? = some (20, 4, []) := by decide +kernel
theorem g_176 : az_G[176]? = some (20, 4, []) := by decide +kernel
theorem g_177 : az_G[177]? = some (20, 4, []) := by decide +kernel
theorem g_178 : az_G[178]? = some (1, 16, [180, 181, 182, 183, 184, 185, 186, 0, 0, 0, 0, 0, 0, 0, 0, 0]) := by decide +kernel
theorem g_179 : az_G[179]? = some (20, 6, []) := by decide +kernel
theorem g_180 : az_G[180]? = some (20, 4, []) := by decide +kernel
theorem g_181 : az_G[181]? = some (20, 4, []) := by decide +kernel
theorem g_182 : az_G[182]? = some (20, 4, []) := by decide +kernel
theorem g_183 : az_G[183]? = some (20, 4, []) := by decide +kernel
theorem g_184 : az_G[184]? = some (20, 4, []) := by decide +kernel
theorem g_185 : az_G[185]? = some (20, 4, []) := by decide +kernel
theorem g_186 : az_G[186]? = some (1, 16, [188, 189, 190, 191, 192, 193, 194, 0, 0, 0, 0, 0, 0, 0, 0, 0]) := by decide +kernel
theorem g_187 : az_G[187]? = some (20, 6, []) := by decide +kernel
theorem g_188 : az_G[188]? = some (20, 4, []) := by decide +kernel
theorem g_189 : az_G[189]? = some (20, 4, []) := by decide +kernel
theorem g_190 : az_G[190]? = some (20, 4, []) := by decide +kernel
theorem g_191 : az_G[191]? = some (20, 4, []) := by decide +kernel
theorem g_192 : az_G[192]? = some (20, 4, []) := by decide +kernel
theorem g_193 : az_G[193]? = some (20, 4, []) := by decide +kernel
theorem g_194 : az_G[194]? = some (1, 16, [196, 197, 198, 199, 200, 201, 202, 0, 0, 0, 0, 0, 0, 0, 0, 0]) := by decide +kernel
theorem g_195 : az_G[195]? = some (20, 6, []) := by decide +kernel
theorem g_196 : az_G[196]? = some (20, 4, []) := by decide +kernel
theorem g_197 : az_G[197]? = some (20, 4, []) := by decide +kernel
theorem g_198 : az_G[198]? = some (20, 4, []) := by decide +kernel
theorem g_199 : az_G[199]? = some (20, 4, []) := by decide +kernel
theorem g_200 : az_G[200]? = some (20, 4, []) := by decide +kernel
theorem g_201 : az_G[201]? = some (20, 4, []) := by decide +kernel
theorem g_202 : az_G[202]? = some (1, 16, [204, 205, 206, 207, 208, 209, 210, 0, 0, 0, 0, 0, 0, 0, 0, 0]) := by decide +kernel
theorem g_203 : az_G[203]? = some (20, 6, []) := by decide +kernel
theorem g_204 : az_G[204]? = some (20, 4, []) := by decide +kernel
theorem g_205 : az_G[205]? = some (20, 4, []) := by decide +kernel
theorem g_206 : az_G[206]? = some (20, 4, []) := by decide +kernel
theorem g_207 : az_G[207]? = some (20, 4, []) := by decide +kernel
theorem g_208 : az_G[208]? = some (20, 4, []) := by decide +kernel
theorem g_209 : az_G[209]? = some (20, 4, []) := by decide +kernel
theorem g_210 : az_G[210]? = some (1, 16, [212, 213, 214, 215, 216, 217, 218, 0, 0, 0, 0, 0, 0, 0, 0, 0]) := by decide +kernel
theorem g_211 : az_G[211]? = some (20, 6, []) := by decide +kernel
theorem g_212 : az_G[212]? = some (20, 4, []) := by decide +kernel
theorem g_213 : az_G[213]? = some (20, 4, []) := by decide +kernel
theorem g_214 : az_G[214]? = some (20, 4, []) := by decide +kernel
theorem g_215 : az_G[215]? = some (20, 4, []) := by decide +kernel
theorem g_216 : az_G[216]? = some (20, 4, []) := by decide +kernel
theorem g_217 : az_G[217]? = some (20, 4, []) := by decide +kernel
theorem g_218 : az_G[218]? = some (1, 16, [220, 221, 222, 223, 224, 225, 226, 0, 0, 0, 0, 0, 0, 0, 0, 0]) := by decide +kernel
theorem g_219 : az_G[219]? = some (20, 6, []) := by decide +kernel
theorem g_220 : az_G[220]? = some (20, 4, []) := by decide +kernel
theorem g_221 : az_G[221]? = some (20, 4, []) := by decide +kernel
theorem g_222 : az_G[222]? = some (20, 4, []) := by decide +kernel
theorem g_223 : az_G[223]? = some (20, 4, []) := by decide +kernel
theorem g_224 : az_G[224]? = some (20, 4, []) := by decide +kernel
theorem g_225 : az_G[225]? = some (20, 4, []) := by decide +kernel
theorem g_226 : az_G[226]? = some (1, 16, [228, 229, 230, 231, 232, 233, 234, 0, 0, 0, 0, 0, 0, 0, 0, 0]) := by decide +kernel
theorem g_227 : az_G[227]? = some (20, 6, []) := by decide +kernel
theorem g_228 : az_G[228]? = some (20, 4, []) := by decide +kernel
theorem g_229 : az_G[229]? = some (20, 4, []) := by decide +kernel
theorem g_230 : az_G[230]? = some (20, 4, []) := by decide +kernel
theorem g_231 : az_G[231]? = some (20, 4, []) := by decide +kernel
theorem g_232 : az_G[232]? = some (20, 4, []) := by decide +kernel
theorem g_233 : az_G[233]? = some (20, 4, []) := by decide +kernel
theorem g_234 : az_G[234]? = some (3, 5, [236, 243, 244, 245, 0]) := by decide +kernel
theorem g_235 : az_G[235]? = some (2, 8, [237, 238, 239, 240, 241, 242, 0, 0]) := by decide +kernel
theorem g_236 : az_G[236]? = some (20, 6, []) := by decide +kernel
theorem g_237 : az_G[237]? = some (20, 4, []) := by decide +kernel
theorem g_238 : az_G[238]? = some (20, 4, []) := by decide +kernel
theorem g_239 : az_G[239]? = some (20, 4, []) := by decide +kernel
theorem g_240 : az_G[240]? = some (20, 24, []) := by decide +kernel
theorem g_241 : az_G[241]? = some (20, 4, []) := by decide +kernel
theorem g_242 : az_G[242]? = some (20, 7, []) := by decide +kernel
theorem g_243 : az_G[243]? = some (20, 4, []) := by decide +kernel
theorem g_244 : az_G[244]? = some (20, 4, []) := by decide +kernel
theorem g_245 : az_G[245]? = some (0, 2, [247, 0]) := by decide +kernel
theorem g_246 : az_G[246]? = some (20, 16, []) := by decide +kernel
theorem g_247 : az_G[247]? = some (5, 3, [249, 0, 0]) := by decide +kernel
theorem g_248 : az_G[248]? = some (20, 40, []) := by decide +kernel
theorem g_249 : az_G[249]? = some (5, 3, [251, 0, 0]) := by decide +kernel
theorem g_250 : az_G[250]? = some (20, 40, []) := by decide +kernel
theorem g_251 : az_G[251]? = some (5, 3, [253, 0, 0]) := by decide +kernel
theorem g_252 : az_G[252]? = some (20, 40, []) := by decide +kernel
theorem g_253 : az_G[253]? = some (5, 3, [255, 0, 0]) := by decide +kernel
theorem g_254 : az_G[254]? = some (20, 40, []) := by decide +kernel
theorem g_255 : az_G[255]? = some (5, 3, [257, 0, 0]) := by decide +kernel
theorem g_256 : az_G[256]? = some (20, 40, []) := by decide +kernel
theorem g_257 : az_G[257]? = some (5, 3, [259, 0, 0]) := by decide +kernel
theorem g_258 : az_G[258]? = some (20, 40, []) := by decide +kernel
theorem g_259 : az_G[259]? = some (5, 3, [261, 0, 0]) := by decide +kernel
theorem g_260 : az_G[260]? = some (20, 40, []) := by decide +kernel
theorem g_261 : az_G[261]? = some (5, 3, [263, 0, 0]) := by decide +kernel
theorem g_262 : az_G[262]? = some (20, 40, []) := by decide +kernel
theorem g_263 : az_G[263]? = some (1, 16, [265, 266, 267, 268, 269, 270, 271, 0, 0, 0, 0, 0, 0, 0, 0, 0]) := by decide +kernel
theorem g_264 : az_G[264]? = some (20, 6, []) := by decide +kernel
theorem g_265 : az_G[265]? = some (20, 4, []) := by decide +kernel
theorem g_266 : az_G[266]? = some (20, 4, []) := by decide +kernel
theorem g_267 : az_G[267]? = some (20, 4, []) := by decide +kernel
theorem g_268 : az_G[268]? = some (20, 4, []) := by decide +kernel
theorem g_269 : az_G[269]? = some (20, 4, []) := by decide +kernel
theorem g_270 : az_G[270]? = some (20, 4, []) := by decide +kernel
theorem g_271 : az_G[271]? = some (1, 16, [273, 274, 275, 276, 277, 278, 279, 0, 0, 0, 0, 0, 0, 0, 0, 0]) := by decide +kernel
theorem g_272 : az_G[272]? = some (20, 6, []) := by decide +kernel
theorem g_273 : az_G[273]? = some (20, 4, []) := by decide +kernel
theorem g_274 : az_G[274]? = some (20, 4, []) := by decide +kernel
theorem g_275 : az_G[275]? = some (20, 4, []) := by decide +kernel
theorem g_276 : az_G[276]? = some (20, 4, []) := by decide +kernel
theorem g_277 : az_G[277]? = some (20, 4, []) := by decide +kernel
theorem g_278 : az_G[278]? = some (20, 4, []) := by decide +kernel
theorem g_279 : az_G[279]? = some (8, 25, [281, 282, 283, 0, 284, 0, 0, 0, 285, 0, 286, 287, 288, 0, 289, 0, 0, 0, 0, 0, 290, 291, 292, 0, 293]) := by decide +kernel
theorem g_280 : az_G[280]? = some (20, 8, []) := by decide +kernel
theorem g_281 : az_G[281]? = some (20, 8, []) := by decide +kernel
theorem g_282 : az_G[282]? = some (20, 320, []) := by decide +kernel
theorem g_283 : az_G[283]? = some (20, 400, []) := by decide +kernel
theorem g_284 : az_G[284]? = some (20, 44, []) := by decide +kernel
theorem g_285 : az_G[285]? = some (20, 1056, []) := by decide +kernel
theorem g_286 : az_G[286]? = some (20, 88, []) := by decide +kernel
theorem g_287 : az_G[287]? = some (22, 2, []) := by decide +kernel
theorem g_288 : az_G[288]? = some (20, 16, []) := by decide +kernel
theorem g_289 : az_G[289]? = some (20, 44, []) := by decide +kernel
theorem g_290 : az_G[290]? = some (20, 4, []) := by decide +kernel
theorem g_291 : az_G[291]? = some (20, 6, []) := by decide +kernel
theorem g_292 : az_G[292]? = some (20, 4, []) := by decide +kernel
