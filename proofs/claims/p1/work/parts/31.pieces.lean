def pc_L_law_0 : List UInt8 := [187, 0, 8, 89, 183, 0, 151, 76, 187, 0, 152, 89, 183, 0, 154, 77, 187, 0, 14, 89, 183, 0, 155, 78]
def pc_L_law_1 : List UInt8 := [3, 54, 4, 21, 4, 42, 190, 16, 6, 100, 163, 11, 138, 42, 21, 4, 46, 16, 63, 126, 170, 0, 0, 0]
def pc_L_law_2 : List UInt8 := [0, 0, 11, 122, 0, 0, 0, 0, 0, 0, 0, 42, 0, 0, 0, 188, 0, 0, 1, 1, 0, 0, 1, 58]
def pc_L_law_3 : List UInt8 := [0, 0, 1, 155, 0, 0, 1, 224, 0, 0, 2, 61, 0, 0, 2, 154, 0, 0, 2, 247, 0, 0, 3, 72]
def pc_L_law_4 : List UInt8 := [0, 0, 3, 141, 0, 0, 3, 246, 0, 0, 4, 47, 0, 0, 4, 104, 0, 0, 4, 161, 0, 0, 4, 230]
def pc_L_law_5 : List UInt8 := [0, 0, 5, 43, 0, 0, 5, 100, 0, 0, 5, 164, 0, 0, 5, 228, 0, 0, 6, 48, 0, 0, 6, 105]
def pc_L_law_6 : List UInt8 := [0, 0, 6, 174, 0, 0, 6, 231, 0, 0, 7, 32, 0, 0, 7, 101, 0, 0, 7, 165, 0, 0, 7, 222]
def pc_L_law_7 : List UInt8 := [0, 0, 7, 235, 0, 0, 8, 48, 0, 0, 8, 117, 0, 0, 8, 193, 0, 0, 9, 18, 0, 0, 9, 99]
def pc_L_law_8 : List UInt8 := [0, 0, 9, 156, 0, 0, 9, 213, 0, 0, 10, 26, 0, 0, 10, 90, 0, 0, 10, 154, 0, 0, 10, 212]
def pc_L_law_9 : List UInt8 := [0, 0, 11, 25, 0, 0, 11, 38, 0, 0, 11, 95, 0, 0, 11, 108, 43, 42, 21, 4, 4, 96, 46, 42]
def pc_L_law_10 : List UInt8 := [21, 4, 5, 96, 46, 45, 184, 0, 156, 54, 5, 44, 42, 21, 4, 4, 96, 46, 42, 21, 4, 5, 96, 46]
def pc_L_law_11 : List UInt8 := [182, 0, 161, 54, 6, 44, 182, 0, 162, 21, 5, 159, 0, 5, 3, 172, 21, 5, 154, 0, 16, 45, 180, 0]
def pc_L_law_12 : List UInt8 := [13, 21, 6, 133, 148, 153, 0, 5, 3, 172, 167, 10, 124, 43, 42, 21, 4, 4, 96, 46, 45, 184, 0, 166]
def pc_L_law_13 : List UInt8 := [54, 5, 44, 42, 21, 4, 4, 96, 46, 182, 0, 169, 54, 6, 44, 182, 0, 162, 21, 5, 159, 0, 5, 3]
def pc_L_law_14 : List UInt8 := [172, 21, 5, 154, 0, 16, 45, 180, 0, 13, 21, 6, 133, 148, 153, 0, 5, 3, 172, 167, 10, 67, 43, 42]
def pc_L_law_15 : List UInt8 := [21, 4, 4, 96, 46, 42, 21, 4, 5, 96, 46, 42, 21, 4, 6, 96, 46, 153, 0, 7, 4, 167, 0, 4]
def pc_L_law_16 : List UInt8 := [3, 45, 184, 0, 170, 54, 5, 44, 42, 21, 4, 4, 96, 46, 42, 21, 4, 5, 96, 46, 42, 21, 4, 6]
def pc_L_law_17 : List UInt8 := [96, 46, 153, 0, 7, 4, 167, 0, 4, 3, 182, 0, 173, 54, 6, 44, 182, 0, 162, 21, 5, 159, 0, 5]
def pc_L_law_18 : List UInt8 := [3, 172, 21, 5, 154, 0, 16, 45, 180, 0, 13, 21, 6, 133, 148, 153, 0, 5, 3, 172, 167, 9, 226, 43]
def pc_L_law_19 : List UInt8 := [42, 21, 4, 4, 96, 46, 42, 21, 4, 5, 96, 46, 45, 184, 0, 174, 54, 5, 44, 42, 21, 4, 4, 96]
def pc_L_law_20 : List UInt8 := [46, 42, 21, 4, 5, 96, 46, 182, 0, 176, 54, 6, 44, 182, 0, 162, 21, 5, 159, 0, 5, 3, 172, 21]
def pc_L_law_21 : List UInt8 := [5, 154, 0, 16, 45, 180, 0, 13, 21, 6, 133, 148, 153, 0, 5, 3, 172, 167, 9, 157, 43, 42, 21, 4]
def pc_L_law_22 : List UInt8 := [4, 96, 46, 42, 21, 4, 5, 96, 46, 42, 21, 4, 6, 96, 46, 42, 21, 4, 7, 96, 46, 45, 184, 0]
def pc_L_law_23 : List UInt8 := [177, 54, 5, 44, 42, 21, 4, 4, 96, 46, 42, 21, 4, 5, 96, 46, 42, 21, 4, 6, 96, 46, 42, 21]
def pc_L_law_24 : List UInt8 := [4, 7, 96, 46, 182, 0, 180, 54, 6, 44, 182, 0, 162, 21, 5, 159, 0, 5, 3, 172, 21, 5, 154, 0]
def pc_L_law_25 : List UInt8 := [16, 45, 180, 0, 13, 21, 6, 133, 148, 153, 0, 5, 3, 172, 167, 9, 64, 43, 42, 21, 4, 4, 96, 46]
def pc_L_law_26 : List UInt8 := [42, 21, 4, 5, 96, 46, 42, 21, 4, 6, 96, 46, 42, 21, 4, 7, 96, 46, 45, 184, 0, 181, 54, 5]
def pc_L_law_27 : List UInt8 := [44, 42, 21, 4, 4, 96, 46, 42, 21, 4, 5, 96, 46, 42, 21, 4, 6, 96, 46, 42, 21, 4, 7, 96]
def pc_L_law_28 : List UInt8 := [46, 182, 0, 183, 54, 6, 44, 182, 0, 162, 21, 5, 159, 0, 5, 3, 172, 21, 5, 154, 0, 16, 45, 180]
def pc_L_law_29 : List UInt8 := [0, 13, 21, 6, 133, 148, 153, 0, 5, 3, 172, 167, 8, 227, 43, 42, 21, 4, 4, 96, 46, 42, 21, 4]
def pc_L_law_30 : List UInt8 := [5, 96, 46, 42, 21, 4, 6, 96, 46, 42, 21, 4, 7, 96, 46, 45, 184, 0, 184, 54, 5, 44, 42, 21]
def pc_L_law_31 : List UInt8 := [4, 4, 96, 46, 42, 21, 4, 5, 96, 46, 42, 21, 4, 6, 96, 46, 42, 21, 4, 7, 96, 46, 182, 0]
def pc_L_law_32 : List UInt8 := [186, 54, 6, 44, 182, 0, 162, 21, 5, 159, 0, 5, 3, 172, 21, 5, 154, 0, 16, 45, 180, 0, 13, 21]
def pc_L_law_33 : List UInt8 := [6, 133, 148, 153, 0, 5, 3, 172, 167, 8, 134, 43, 42, 21, 4, 4, 96, 46, 42, 21, 4, 5, 96, 46]
def pc_L_law_34 : List UInt8 := [42, 21, 4, 6, 96, 46, 45, 184, 0, 187, 54, 5, 44, 42, 21, 4, 4, 96, 46, 42, 21, 4, 5, 96]
def pc_L_law_35 : List UInt8 := [46, 42, 21, 4, 6, 96, 46, 182, 0, 190, 54, 6, 44, 182, 0, 162, 21, 5, 159, 0, 5, 3, 172, 21]
def pc_L_law_36 : List UInt8 := [5, 154, 0, 16, 45, 180, 0, 13, 21, 6, 133, 148, 153, 0, 5, 3, 172, 167, 8, 53, 43, 42, 21, 4]
def pc_L_law_37 : List UInt8 := [4, 96, 46, 42, 21, 4, 5, 96, 46, 45, 184, 0, 191, 54, 5, 44, 42, 21, 4, 4, 96, 46, 42, 21]
def pc_L_law_38 : List UInt8 := [4, 5, 96, 46, 182, 0, 193, 54, 6, 44, 182, 0, 162, 21, 5, 159, 0, 5, 3, 172, 21, 5, 154, 0]
def pc_L_law_39 : List UInt8 := [16, 45, 180, 0, 13, 21, 6, 133, 148, 153, 0, 5, 3, 172, 167, 7, 240, 43, 42, 21, 4, 4, 96, 46]
def pc_L_law_40 : List UInt8 := [42, 21, 4, 5, 96, 46, 42, 21, 4, 6, 96, 46, 42, 21, 4, 7, 96, 46, 42, 21, 4, 8, 96, 46]
def pc_L_law_41 : List UInt8 := [45, 184, 0, 194, 54, 5, 44, 42, 21, 4, 4, 96, 46, 42, 21, 4, 5, 96, 46, 42, 21, 4, 6, 96]
def pc_L_law_42 : List UInt8 := [46, 42, 21, 4, 7, 96, 46, 42, 21, 4, 8, 96, 46, 182, 0, 197, 54, 6, 44, 182, 0, 162, 21, 5]
def pc_L_law_43 : List UInt8 := [159, 0, 5, 3, 172, 21, 5, 154, 0, 16, 45, 180, 0, 13, 21, 6, 133, 148, 153, 0, 5, 3, 172, 167]
def pc_L_law_44 : List UInt8 := [7, 135, 43, 42, 21, 4, 4, 96, 46, 45, 184, 0, 198, 54, 5, 44, 42, 21, 4, 4, 96, 46, 182, 0]
def pc_L_law_45 : List UInt8 := [200, 54, 6, 44, 182, 0, 162, 21, 5, 159, 0, 5, 3, 172, 21, 5, 154, 0, 16, 45, 180, 0, 13, 21]
def pc_L_law_46 : List UInt8 := [6, 133, 148, 153, 0, 5, 3, 172, 167, 7, 78, 43, 42, 21, 4, 4, 96, 46, 45, 184, 0, 201, 54, 5]
def pc_L_law_47 : List UInt8 := [44, 42, 21, 4, 4, 96, 46, 182, 0, 203, 54, 6, 44, 182, 0, 162, 21, 5, 159, 0, 5, 3, 172, 21]
def pc_L_law_48 : List UInt8 := [5, 154, 0, 16, 45, 180, 0, 13, 21, 6, 133, 148, 153, 0, 5, 3, 172, 167, 7, 21, 43, 42, 21, 4]
def pc_L_law_49 : List UInt8 := [4, 96, 46, 45, 184, 0, 204, 54, 5, 44, 42, 21, 4, 4, 96, 46, 182, 0, 206, 54, 6, 44, 182, 0]
def pc_L_law_50 : List UInt8 := [162, 21, 5, 159, 0, 5, 3, 172, 21, 5, 154, 0, 16, 45, 180, 0, 13, 21, 6, 133, 148, 153, 0, 5]
def pc_L_law_51 : List UInt8 := [3, 172, 167, 6, 220, 43, 42, 21, 4, 4, 96, 46, 42, 21, 4, 5, 96, 46, 45, 184, 0, 207, 54, 5]
def pc_L_law_52 : List UInt8 := [44, 42, 21, 4, 4, 96, 46, 42, 21, 4, 5, 96, 46, 182, 0, 209, 54, 6, 44, 182, 0, 162, 21, 5]
def pc_L_law_53 : List UInt8 := [159, 0, 5, 3, 172, 21, 5, 154, 0, 16, 45, 180, 0, 13, 21, 6, 133, 148, 153, 0, 5, 3, 172, 167]
def pc_L_law_54 : List UInt8 := [6, 151, 43, 42, 21, 4, 4, 96, 46, 42, 21, 4, 5, 96, 46, 45, 184, 0, 210, 54, 5, 44, 42, 21]
def pc_L_law_55 : List UInt8 := [4, 4, 96, 46, 42, 21, 4, 5, 96, 46, 182, 0, 212, 54, 6, 44, 182, 0, 162, 21, 5, 159, 0, 5]
def pc_L_law_56 : List UInt8 := [3, 172, 21, 5, 154, 0, 16, 45, 180, 0, 13, 21, 6, 133, 148, 153, 0, 5, 3, 172, 167, 6, 82, 43]
def pc_L_law_57 : List UInt8 := [42, 21, 4, 4, 96, 46, 45, 184, 0, 213, 54, 5, 44, 42, 21, 4, 4, 96, 46, 182, 0, 215, 54, 6]
def pc_L_law_58 : List UInt8 := [44, 182, 0, 162, 21, 5, 159, 0, 5, 3, 172, 21, 5, 154, 0, 16, 45, 180, 0, 13, 21, 6, 133, 148]
def pc_L_law_59 : List UInt8 := [153, 0, 5, 3, 172, 167, 6, 25, 43, 42, 21, 4, 4, 96, 46, 45, 184, 0, 216, 54, 5, 44, 42, 21]
def pc_L_law_60 : List UInt8 := [4, 4, 96, 46, 182, 0, 218, 54, 6, 44, 182, 0, 162, 21, 5, 159, 0, 5, 3, 172, 21, 5, 154, 0]
def pc_L_law_61 : List UInt8 := [23, 45, 180, 0, 13, 21, 6, 153, 0, 7, 10, 167, 0, 4, 9, 148, 153, 0, 5, 3, 172, 167, 5, 217]
def pc_L_law_62 : List UInt8 := [43, 42, 21, 4, 4, 96, 46, 45, 184, 0, 219, 54, 5, 44, 42, 21, 4, 4, 96, 46, 182, 0, 221, 54]
def pc_L_law_63 : List UInt8 := [6, 44, 182, 0, 162, 21, 5, 159, 0, 5, 3, 172, 21, 5, 154, 0, 23, 45, 180, 0, 13, 21, 6, 153]
def pc_L_law_64 : List UInt8 := [0, 7, 10, 167, 0, 4, 9, 148, 153, 0, 5, 3, 172, 167, 5, 153, 43, 42, 21, 4, 4, 96, 46, 42]
def pc_L_law_65 : List UInt8 := [21, 4, 5, 96, 46, 45, 184, 0, 222, 54, 5, 44, 42, 21, 4, 4, 96, 46, 42, 21, 4, 5, 96, 46]
def pc_L_law_66 : List UInt8 := [182, 0, 224, 54, 6, 44, 182, 0, 162, 21, 5, 159, 0, 5, 3, 172, 21, 5, 154, 0, 23, 45, 180, 0]
def pc_L_law_67 : List UInt8 := [13, 21, 6, 153, 0, 7, 10, 167, 0, 4, 9, 148, 153, 0, 5, 3, 172, 167, 5, 77, 43, 42, 21, 4]
def pc_L_law_68 : List UInt8 := [4, 96, 46, 45, 184, 0, 225, 54, 5, 44, 42, 21, 4, 4, 96, 46, 182, 0, 227, 54, 6, 44, 182, 0]
def pc_L_law_69 : List UInt8 := [162, 21, 5, 159, 0, 5, 3, 172, 21, 5, 154, 0, 16, 45, 180, 0, 13, 21, 6, 133, 148, 153, 0, 5]
def pc_L_law_70 : List UInt8 := [3, 172, 167, 5, 20, 43, 42, 21, 4, 4, 96, 46, 42, 21, 4, 5, 96, 46, 45, 184, 0, 228, 54, 5]
def pc_L_law_71 : List UInt8 := [44, 42, 21, 4, 4, 96, 46, 42, 21, 4, 5, 96, 46, 182, 0, 230, 54, 6, 44, 182, 0, 162, 21, 5]
def pc_L_law_72 : List UInt8 := [159, 0, 5, 3, 172, 21, 5, 154, 0, 16, 45, 180, 0, 13, 21, 6, 133, 148, 153, 0, 5, 3, 172, 167]
def pc_L_law_73 : List UInt8 := [4, 207, 43, 42, 21, 4, 4, 96, 46, 45, 184, 0, 231, 54, 5, 44, 42, 21, 4, 4, 96, 46, 182, 0]
def pc_L_law_74 : List UInt8 := [233, 54, 6, 44, 182, 0, 162, 21, 5, 159, 0, 5, 3, 172, 21, 5, 154, 0, 16, 45, 180, 0, 13, 21]
def pc_L_law_75 : List UInt8 := [6, 133, 148, 153, 0, 5, 3, 172, 167, 4, 150, 43, 42, 21, 4, 4, 96, 46, 45, 184, 0, 234, 54, 5]
def pc_L_law_76 : List UInt8 := [44, 42, 21, 4, 4, 96, 46, 182, 0, 236, 54, 6, 44, 182, 0, 162, 21, 5, 159, 0, 5, 3, 172, 21]
def pc_L_law_77 : List UInt8 := [5, 154, 0, 16, 45, 180, 0, 13, 21, 6, 133, 148, 153, 0, 5, 3, 172, 167, 4, 93, 43, 42, 21, 4]
def pc_L_law_78 : List UInt8 := [4, 96, 46, 42, 21, 4, 5, 96, 46, 45, 184, 0, 237, 54, 5, 44, 42, 21, 4, 4, 96, 46, 42, 21]
def pc_L_law_79 : List UInt8 := [4, 5, 96, 46, 182, 0, 239, 54, 6, 44, 182, 0, 162, 21, 5, 159, 0, 5, 3, 172, 21, 5, 154, 0]
def pc_L_law_80 : List UInt8 := [16, 45, 180, 0, 13, 21, 6, 133, 148, 153, 0, 5, 3, 172, 167, 4, 24, 43, 42, 21, 4, 4, 96, 46]
def pc_L_law_81 : List UInt8 := [45, 184, 0, 240, 54, 5, 44, 42, 21, 4, 4, 96, 46, 182, 0, 242, 54, 6, 44, 182, 0, 162, 21, 5]
def pc_L_law_82 : List UInt8 := [159, 0, 5, 3, 172, 21, 5, 154, 0, 23, 45, 180, 0, 13, 21, 6, 153, 0, 7, 10, 167, 0, 4, 9]
def pc_L_law_83 : List UInt8 := [148, 153, 0, 5, 3, 172, 167, 3, 216, 43, 42, 21, 4, 4, 96, 46, 45, 184, 0, 243, 54, 5, 44, 42]
def pc_L_law_84 : List UInt8 := [21, 4, 4, 96, 46, 182, 0, 245, 54, 6, 44, 182, 0, 162, 21, 5, 159, 0, 5, 3, 172, 21, 5, 154]
def pc_L_law_85 : List UInt8 := [0, 16, 45, 180, 0, 13, 21, 6, 133, 148, 153, 0, 5, 3, 172, 167, 3, 159, 43, 182, 0, 246, 44, 182]
def pc_L_law_86 : List UInt8 := [0, 250, 159, 3, 148, 3, 172, 43, 42, 21, 4, 4, 96, 46, 42, 21, 4, 5, 96, 46, 45, 184, 0, 251]
def pc_L_law_87 : List UInt8 := [54, 5, 44, 42, 21, 4, 4, 96, 46, 42, 21, 4, 5, 96, 46, 182, 0, 253, 54, 6, 44, 182, 0, 162]
def pc_L_law_88 : List UInt8 := [21, 5, 159, 0, 5, 3, 172, 21, 5, 154, 0, 16, 45, 180, 0, 13, 21, 6, 133, 148, 153, 0, 5, 3]
def pc_L_law_89 : List UInt8 := [172, 167, 3, 77, 43, 42, 21, 4, 4, 96, 46, 42, 21, 4, 5, 96, 46, 45, 184, 0, 254, 54, 5, 44]
def pc_L_law_90 : List UInt8 := [42, 21, 4, 4, 96, 46, 42, 21, 4, 5, 96, 46, 182, 1, 0, 54, 6, 44, 182, 0, 162, 21, 5, 159]
def pc_L_law_91 : List UInt8 := [0, 5, 3, 172, 21, 5, 154, 0, 16, 45, 180, 0, 13, 21, 6, 133, 148, 153, 0, 5, 3, 172, 167, 3]
def pc_L_law_92 : List UInt8 := [8, 43, 42, 21, 4, 4, 96, 46, 42, 21, 4, 5, 96, 46, 45, 184, 1, 1, 54, 5, 44, 42, 21, 4]
def pc_L_law_93 : List UInt8 := [4, 96, 46, 42, 21, 4, 5, 96, 46, 182, 1, 3, 54, 6, 44, 182, 0, 162, 21, 5, 159, 0, 5, 3]
def pc_L_law_94 : List UInt8 := [172, 21, 5, 154, 0, 23, 45, 180, 0, 13, 21, 6, 153, 0, 7, 10, 167, 0, 4, 9, 148, 153, 0, 5]
def pc_L_law_95 : List UInt8 := [3, 172, 167, 2, 188, 43, 42, 21, 4, 4, 96, 46, 42, 21, 4, 5, 96, 46, 42, 21, 4, 6, 96, 46]
def pc_L_law_96 : List UInt8 := [45, 184, 1, 4, 54, 5, 44, 42, 21, 4, 4, 96, 46, 42, 21, 4, 5, 96, 46, 42, 21, 4, 6, 96]
def pc_L_law_97 : List UInt8 := [46, 182, 1, 6, 54, 6, 44, 182, 0, 162, 21, 5, 159, 0, 5, 3, 172, 21, 5, 154, 0, 16, 45, 180]
def pc_L_law_98 : List UInt8 := [0, 13, 21, 6, 133, 148, 153, 0, 5, 3, 172, 167, 2, 107, 43, 42, 21, 4, 4, 96, 46, 42, 21, 4]
def pc_L_law_99 : List UInt8 := [5, 96, 46, 42, 21, 4, 6, 96, 46, 45, 184, 1, 7, 54, 5, 44, 42, 21, 4, 4, 96, 46, 42, 21]
def pc_L_law_100 : List UInt8 := [4, 5, 96, 46, 42, 21, 4, 6, 96, 46, 182, 1, 9, 54, 6, 44, 182, 0, 162, 21, 5, 159, 0, 5]
def pc_L_law_101 : List UInt8 := [3, 172, 21, 5, 154, 0, 16, 45, 180, 0, 13, 21, 6, 133, 148, 153, 0, 5, 3, 172, 167, 2, 26, 43]
def pc_L_law_102 : List UInt8 := [42, 21, 4, 4, 96, 46, 45, 184, 1, 10, 54, 5, 44, 42, 21, 4, 4, 96, 46, 182, 1, 12, 54, 6]
def pc_L_law_103 : List UInt8 := [44, 182, 0, 162, 21, 5, 159, 0, 5, 3, 172, 21, 5, 154, 0, 16, 45, 180, 0, 13, 21, 6, 133, 148]
def pc_L_law_104 : List UInt8 := [153, 0, 5, 3, 172, 167, 1, 225, 43, 42, 21, 4, 4, 96, 46, 45, 184, 1, 13, 54, 5, 44, 42, 21]
def pc_L_law_105 : List UInt8 := [4, 4, 96, 46, 182, 1, 15, 54, 6, 44, 182, 0, 162, 21, 5, 159, 0, 5, 3, 172, 21, 5, 154, 0]
def pc_L_law_106 : List UInt8 := [16, 45, 180, 0, 13, 21, 6, 133, 148, 153, 0, 5, 3, 172, 167, 1, 168, 43, 42, 21, 4, 4, 96, 46]
def pc_L_law_107 : List UInt8 := [42, 21, 4, 5, 96, 46, 45, 184, 1, 16, 54, 5, 44, 42, 21, 4, 4, 96, 46, 42, 21, 4, 5, 96]
def pc_L_law_108 : List UInt8 := [46, 182, 1, 18, 54, 6, 44, 182, 0, 162, 21, 5, 159, 0, 5, 3, 172, 21, 5, 154, 0, 16, 45, 180]
def pc_L_law_109 : List UInt8 := [0, 13, 21, 6, 133, 148, 153, 0, 5, 3, 172, 167, 1, 99, 43, 42, 21, 4, 4, 96, 46, 45, 184, 1]
def pc_L_law_110 : List UInt8 := [19, 54, 5, 44, 42, 21, 4, 4, 96, 46, 182, 1, 21, 54, 6, 44, 182, 0, 162, 21, 5, 159, 0, 5]
def pc_L_law_111 : List UInt8 := [3, 172, 21, 5, 154, 0, 23, 45, 180, 0, 13, 21, 6, 153, 0, 7, 10, 167, 0, 4, 9, 148, 153, 0]
def pc_L_law_112 : List UInt8 := [5, 3, 172, 167, 1, 35, 43, 42, 21, 4, 4, 96, 46, 45, 184, 1, 22, 54, 5, 44, 42, 21, 4, 4]
def pc_L_law_113 : List UInt8 := [96, 46, 182, 1, 24, 54, 6, 44, 182, 0, 162, 21, 5, 159, 0, 5, 3, 172, 21, 5, 154, 0, 23, 45]
def pc_L_law_114 : List UInt8 := [180, 0, 13, 21, 6, 153, 0, 7, 10, 167, 0, 4, 9, 148, 153, 0, 5, 3, 172, 167, 0, 227, 43, 42]
def pc_L_law_115 : List UInt8 := [21, 4, 4, 96, 46, 45, 184, 1, 25, 54, 5, 44, 42, 21, 4, 4, 96, 46, 182, 1, 27, 58, 6, 44]
def pc_L_law_116 : List UInt8 := [182, 0, 162, 21, 5, 159, 0, 5, 3, 172, 21, 5, 154, 0, 17, 45, 180, 0, 141, 25, 6, 182, 1, 28]
def pc_L_law_117 : List UInt8 := [154, 0, 5, 3, 172, 167, 0, 169, 43, 42, 21, 4, 4, 96, 46, 42, 21, 4, 5, 96, 46, 45, 184, 1]
def pc_L_law_118 : List UInt8 := [34, 54, 5, 44, 42, 21, 4, 4, 96, 46, 42, 21, 4, 5, 96, 46, 182, 1, 36, 54, 6, 44, 182, 0]
def pc_L_law_119 : List UInt8 := [162, 21, 5, 159, 0, 5, 3, 172, 21, 5, 154, 0, 16, 45, 180, 0, 13, 21, 6, 133, 148, 153, 0, 5]
def pc_L_law_120 : List UInt8 := [3, 172, 167, 0, 100, 43, 182, 1, 37, 44, 182, 1, 40, 159, 0, 89, 3, 172, 43, 42, 21, 4, 4, 96]
def pc_L_law_121 : List UInt8 := [46, 45, 184, 1, 41, 54, 5, 44, 42, 21, 4, 4, 96, 46, 182, 1, 43, 54, 6, 44, 182, 0, 162, 21]
def pc_L_law_122 : List UInt8 := [5, 159, 0, 5, 3, 172, 21, 5, 154, 0, 16, 45, 180, 0, 13, 21, 6, 133, 148, 153, 0, 5, 3, 172]
def pc_L_law_123 : List UInt8 := [167, 0, 30, 43, 182, 1, 44, 44, 182, 1, 47, 159, 0, 19, 3, 172, 43, 182, 1, 48, 44, 182, 1, 52]
def pc_L_law_124 : List UInt8 := [148, 153, 0, 5, 3, 172, 132, 4, 6, 167, 244, 114, 4, 172]
def pc_L_law_r124 : List UInt8 := []
def pc_L_law_r123 : List UInt8 := pc_L_law_124 ++ pc_L_law_r124
def pc_L_law_r122 : List UInt8 := pc_L_law_123 ++ pc_L_law_r123
def pc_L_law_r121 : List UInt8 := pc_L_law_122 ++ pc_L_law_r122
def pc_L_law_r120 : List UInt8 := pc_L_law_121 ++ pc_L_law_r121
def pc_L_law_r119 : List UInt8 := pc_L_law_120 ++ pc_L_law_r120
def pc_L_law_r118 : List UInt8 := pc_L_law_119 ++ pc_L_law_r119
def pc_L_law_r117 : List UInt8 := pc_L_law_118 ++ pc_L_law_r118
def pc_L_law_r116 : List UInt8 := pc_L_law_117 ++ pc_L_law_r117
def pc_L_law_r115 : List UInt8 := pc_L_law_116 ++ pc_L_law_r116
def pc_L_law_r114 : List UInt8 := pc_L_law_115 ++ pc_L_law_r115
def pc_L_law_r113 : List UInt8 := pc_L_law_114 ++ pc_L_law_r114
def pc_L_law_r112 : List UInt8 := pc_L_law_113 ++ pc_L_law_r113
def pc_L_law_r111 : List UInt8 := pc_L_law_112 ++ pc_L_law_r112
def pc_L_law_r110 : List UInt8 := pc_L_law_111 ++ pc_L_law_r111
def pc_L_law_r109 : List UInt8 := pc_L_law_110 ++ pc_L_law_r110
def pc_L_law_r108 : List UInt8 := pc_L_law_109 ++ pc_L_law_r109
def pc_L_law_r107 : List UInt8 := pc_L_law_108 ++ pc_L_law_r108
def pc_L_law_r106 : List UInt8 := pc_L_law_107 ++ pc_L_law_r107
def pc_L_law_r105 : List UInt8 := pc_L_law_106 ++ pc_L_law_r106
def pc_L_law_r104 : List UInt8 := pc_L_law_105 ++ pc_L_law_r105
def pc_L_law_r103 : List UInt8 := pc_L_law_104 ++ pc_L_law_r104
def pc_L_law_r102 : List UInt8 := pc_L_law_103 ++ pc_L_law_r103
def pc_L_law_r101 : List UInt8 := pc_L_law_102 ++ pc_L_law_r102
def pc_L_law_r100 : List UInt8 := pc_L_law_101 ++ pc_L_law_r101
def pc_L_law_r99 : List UInt8 := pc_L_law_100 ++ pc_L_law_r100
def pc_L_law_r98 : List UInt8 := pc_L_law_99 ++ pc_L_law_r99
def pc_L_law_r97 : List UInt8 := pc_L_law_98 ++ pc_L_law_r98
def pc_L_law_r96 : List UInt8 := pc_L_law_97 ++ pc_L_law_r97
def pc_L_law_r95 : List UInt8 := pc_L_law_96 ++ pc_L_law_r96
def pc_L_law_r94 : List UInt8 := pc_L_law_95 ++ pc_L_law_r95
def pc_L_law_r93 : List UInt8 := pc_L_law_94 ++ pc_L_law_r94
def pc_L_law_r92 : List UInt8 := pc_L_law_93 ++ pc_L_law_r93
def pc_L_law_r91 : List UInt8 := pc_L_law_92 ++ pc_L_law_r92
def pc_L_law_r90 : List UInt8 := pc_L_law_91 ++ pc_L_law_r91
def pc_L_law_r89 : List UInt8 := pc_L_law_90 ++ pc_L_law_r90
def pc_L_law_r88 : List UInt8 := pc_L_law_89 ++ pc_L_law_r89
def pc_L_law_r87 : List UInt8 := pc_L_law_88 ++ pc_L_law_r88
def pc_L_law_r86 : List UInt8 := pc_L_law_87 ++ pc_L_law_r87
def pc_L_law_r85 : List UInt8 := pc_L_law_86 ++ pc_L_law_r86
def pc_L_law_r84 : List UInt8 := pc_L_law_85 ++ pc_L_law_r85
def pc_L_law_r83 : List UInt8 := pc_L_law_84 ++ pc_L_law_r84
def pc_L_law_r82 : List UInt8 := pc_L_law_83 ++ pc_L_law_r83
def pc_L_law_r81 : List UInt8 := pc_L_law_82 ++ pc_L_law_r82
def pc_L_law_r80 : List UInt8 := pc_L_law_81 ++ pc_L_law_r81
def pc_L_law_r79 : List UInt8 := pc_L_law_80 ++ pc_L_law_r80
def pc_L_law_r78 : List UInt8 := pc_L_law_79 ++ pc_L_law_r79
def pc_L_law_r77 : List UInt8 := pc_L_law_78 ++ pc_L_law_r78
def pc_L_law_r76 : List UInt8 := pc_L_law_77 ++ pc_L_law_r77
def pc_L_law_r75 : List UInt8 := pc_L_law_76 ++ pc_L_law_r76
def pc_L_law_r74 : List UInt8 := pc_L_law_75 ++ pc_L_law_r75
def pc_L_law_r73 : List UInt8 := pc_L_law_74 ++ pc_L_law_r74
def pc_L_law_r72 : List UInt8 := pc_L_law_73 ++ pc_L_law_r73
def pc_L_law_r71 : List UInt8 := pc_L_law_72 ++ pc_L_law_r72
def pc_L_law_r70 : List UInt8 := pc_L_law_71 ++ pc_L_law_r71
def pc_L_law_r69 : List UInt8 := pc_L_law_70 ++ pc_L_law_r70
def pc_L_law_r68 : List UInt8 := pc_L_law_69 ++ pc_L_law_r69
def pc_L_law_r67 : List UInt8 := pc_L_law_68 ++ pc_L_law_r68
def pc_L_law_r66 : List UInt8 := pc_L_law_67 ++ pc_L_law_r67
def pc_L_law_r65 : List UInt8 := pc_L_law_66 ++ pc_L_law_r66
def pc_L_law_r64 : List UInt8 := pc_L_law_65 ++ pc_L_law_r65
def pc_L_law_r63 : List UInt8 := pc_L_law_64 ++ pc_L_law_r64
def pc_L_law_r62 : List UInt8 := pc_L_law_63 ++ pc_L_law_r63
def pc_L_law_r61 : List UInt8 := pc_L_law_62 ++ pc_L_law_r62
def pc_L_law_r60 : List UInt8 := pc_L_law_61 ++ pc_L_law_r61
def pc_L_law_r59 : List UInt8 := pc_L_law_60 ++ pc_L_law_r60
def pc_L_law_r58 : List UInt8 := pc_L_law_59 ++ pc_L_law_r59
def pc_L_law_r57 : List UInt8 := pc_L_law_58 ++ pc_L_law_r58
def pc_L_law_r56 : List UInt8 := pc_L_law_57 ++ pc_L_law_r57
def pc_L_law_r55 : List UInt8 := pc_L_law_56 ++ pc_L_law_r56
def pc_L_law_r54 : List UInt8 := pc_L_law_55 ++ pc_L_law_r55
def pc_L_law_r53 : List UInt8 := pc_L_law_54 ++ pc_L_law_r54
def pc_L_law_r52 : List UInt8 := pc_L_law_53 ++ pc_L_law_r53
def pc_L_law_r51 : List UInt8 := pc_L_law_52 ++ pc_L_law_r52
def pc_L_law_r50 : List UInt8 := pc_L_law_51 ++ pc_L_law_r51
def pc_L_law_r49 : List UInt8 := pc_L_law_50 ++ pc_L_law_r50
def pc_L_law_r48 : List UInt8 := pc_L_law_49 ++ pc_L_law_r49
def pc_L_law_r47 : List UInt8 := pc_L_law_48 ++ pc_L_law_r48
def pc_L_law_r46 : List UInt8 := pc_L_law_47 ++ pc_L_law_r47
def pc_L_law_r45 : List UInt8 := pc_L_law_46 ++ pc_L_law_r46
def pc_L_law_r44 : List UInt8 := pc_L_law_45 ++ pc_L_law_r45
def pc_L_law_r43 : List UInt8 := pc_L_law_44 ++ pc_L_law_r44
def pc_L_law_r42 : List UInt8 := pc_L_law_43 ++ pc_L_law_r43
def pc_L_law_r41 : List UInt8 := pc_L_law_42 ++ pc_L_law_r42
def pc_L_law_r40 : List UInt8 := pc_L_law_41 ++ pc_L_law_r41
def pc_L_law_r39 : List UInt8 := pc_L_law_40 ++ pc_L_law_r40
def pc_L_law_r38 : List UInt8 := pc_L_law_39 ++ pc_L_law_r39
def pc_L_law_r37 : List UInt8 := pc_L_law_38 ++ pc_L_law_r38
def pc_L_law_r36 : List UInt8 := pc_L_law_37 ++ pc_L_law_r37
def pc_L_law_r35 : List UInt8 := pc_L_law_36 ++ pc_L_law_r36
def pc_L_law_r34 : List UInt8 := pc_L_law_35 ++ pc_L_law_r35
def pc_L_law_r33 : List UInt8 := pc_L_law_34 ++ pc_L_law_r34
def pc_L_law_r32 : List UInt8 := pc_L_law_33 ++ pc_L_law_r33
def pc_L_law_r31 : List UInt8 := pc_L_law_32 ++ pc_L_law_r32
def pc_L_law_r30 : List UInt8 := pc_L_law_31 ++ pc_L_law_r31
def pc_L_law_r29 : List UInt8 := pc_L_law_30 ++ pc_L_law_r30
def pc_L_law_r28 : List UInt8 := pc_L_law_29 ++ pc_L_law_r29
def pc_L_law_r27 : List UInt8 := pc_L_law_28 ++ pc_L_law_r28
def pc_L_law_r26 : List UInt8 := pc_L_law_27 ++ pc_L_law_r27
def pc_L_law_r25 : List UInt8 := pc_L_law_26 ++ pc_L_law_r26
def pc_L_law_r24 : List UInt8 := pc_L_law_25 ++ pc_L_law_r25
def pc_L_law_r23 : List UInt8 := pc_L_law_24 ++ pc_L_law_r24
def pc_L_law_r22 : List UInt8 := pc_L_law_23 ++ pc_L_law_r23
def pc_L_law_r21 : List UInt8 := pc_L_law_22 ++ pc_L_law_r22
def pc_L_law_r20 : List UInt8 := pc_L_law_21 ++ pc_L_law_r21
def pc_L_law_r19 : List UInt8 := pc_L_law_20 ++ pc_L_law_r20
def pc_L_law_r18 : List UInt8 := pc_L_law_19 ++ pc_L_law_r19
def pc_L_law_r17 : List UInt8 := pc_L_law_18 ++ pc_L_law_r18
def pc_L_law_r16 : List UInt8 := pc_L_law_17 ++ pc_L_law_r17
def pc_L_law_r15 : List UInt8 := pc_L_law_16 ++ pc_L_law_r16
def pc_L_law_r14 : List UInt8 := pc_L_law_15 ++ pc_L_law_r15
def pc_L_law_r13 : List UInt8 := pc_L_law_14 ++ pc_L_law_r14
def pc_L_law_r12 : List UInt8 := pc_L_law_13 ++ pc_L_law_r13
def pc_L_law_r11 : List UInt8 := pc_L_law_12 ++ pc_L_law_r12
def pc_L_law_r10 : List UInt8 := pc_L_law_11 ++ pc_L_law_r11
def pc_L_law_r9 : List UInt8 := pc_L_law_10 ++ pc_L_law_r10
def pc_L_law_r8 : List UInt8 := pc_L_law_9 ++ pc_L_law_r9
def pc_L_law_r7 : List UInt8 := pc_L_law_8 ++ pc_L_law_r8
def pc_L_law_r6 : List UInt8 := pc_L_law_7 ++ pc_L_law_r7
def pc_L_law_r5 : List UInt8 := pc_L_law_6 ++ pc_L_law_r6
def pc_L_law_r4 : List UInt8 := pc_L_law_5 ++ pc_L_law_r5
def pc_L_law_r3 : List UInt8 := pc_L_law_4 ++ pc_L_law_r4
def pc_L_law_r2 : List UInt8 := pc_L_law_3 ++ pc_L_law_r3
def pc_L_law_r1 : List UInt8 := pc_L_law_2 ++ pc_L_law_r2
def pc_L_law_r0 : List UInt8 := pc_L_law_1 ++ pc_L_law_r1
def pc_L_law_p0 : List UInt8 := []
def pc_L_law_p1 : List UInt8 := pc_L_law_p0 ++ pc_L_law_0
def pc_L_law_p2 : List UInt8 := pc_L_law_p1 ++ pc_L_law_1
def pc_L_law_p3 : List UInt8 := pc_L_law_p2 ++ pc_L_law_2
def pc_L_law_p4 : List UInt8 := pc_L_law_p3 ++ pc_L_law_3
def pc_L_law_p5 : List UInt8 := pc_L_law_p4 ++ pc_L_law_4
def pc_L_law_p6 : List UInt8 := pc_L_law_p5 ++ pc_L_law_5
def pc_L_law_p7 : List UInt8 := pc_L_law_p6 ++ pc_L_law_6
def pc_L_law_p8 : List UInt8 := pc_L_law_p7 ++ pc_L_law_7
def pc_L_law_p9 : List UInt8 := pc_L_law_p8 ++ pc_L_law_8
def pc_L_law_p10 : List UInt8 := pc_L_law_p9 ++ pc_L_law_9
def pc_L_law_p11 : List UInt8 := pc_L_law_p10 ++ pc_L_law_10
def pc_L_law_p12 : List UInt8 := pc_L_law_p11 ++ pc_L_law_11
def pc_L_law_p13 : List UInt8 := pc_L_law_p12 ++ pc_L_law_12
def pc_L_law_p14 : List UInt8 := pc_L_law_p13 ++ pc_L_law_13
def pc_L_law_p15 : List UInt8 := pc_L_law_p14 ++ pc_L_law_14
def pc_L_law_p16 : List UInt8 := pc_L_law_p15 ++ pc_L_law_15
def pc_L_law_p17 : List UInt8 := pc_L_law_p16 ++ pc_L_law_16
def pc_L_law_p18 : List UInt8 := pc_L_law_p17 ++ pc_L_law_17
def pc_L_law_p19 : List UInt8 := pc_L_law_p18 ++ pc_L_law_18
def pc_L_law_p20 : List UInt8 := pc_L_law_p19 ++ pc_L_law_19
def pc_L_law_p21 : List UInt8 := pc_L_law_p20 ++ pc_L_law_20
def pc_L_law_p22 : List UInt8 := pc_L_law_p21 ++ pc_L_law_21
def pc_L_law_p23 : List UInt8 := pc_L_law_p22 ++ pc_L_law_22
def pc_L_law_p24 : List UInt8 := pc_L_law_p23 ++ pc_L_law_23
def pc_L_law_p25 : List UInt8 := pc_L_law_p24 ++ pc_L_law_24
def pc_L_law_p26 : List UInt8 := pc_L_law_p25 ++ pc_L_law_25
def pc_L_law_p27 : List UInt8 := pc_L_law_p26 ++ pc_L_law_26
def pc_L_law_p28 : List UInt8 := pc_L_law_p27 ++ pc_L_law_27
def pc_L_law_p29 : List UInt8 := pc_L_law_p28 ++ pc_L_law_28
def pc_L_law_p30 : List UInt8 := pc_L_law_p29 ++ pc_L_law_29
def pc_L_law_p31 : List UInt8 := pc_L_law_p30 ++ pc_L_law_30
def pc_L_law_p32 : List UInt8 := pc_L_law_p31 ++ pc_L_law_31
def pc_L_law_p33 : List UInt8 := pc_L_law_p32 ++ pc_L_law_32
def pc_L_law_p34 : List UInt8 := pc_L_law_p33 ++ pc_L_law_33
def pc_L_law_p35 : List UInt8 := pc_L_law_p34 ++ pc_L_law_34
def pc_L_law_p36 : List UInt8 := pc_L_law_p35 ++ pc_L_law_35
def pc_L_law_p37 : List UInt8 := pc_L_law_p36 ++ pc_L_law_36
def pc_L_law_p38 : List UInt8 := pc_L_law_p37 ++ pc_L_law_37
def pc_L_law_p39 : List UInt8 := pc_L_law_p38 ++ pc_L_law_38
def pc_L_law_p40 : List UInt8 := pc_L_law_p39 ++ pc_L_law_39
def pc_L_law_p41 : List UInt8 := pc_L_law_p40 ++ pc_L_law_40
def pc_L_law_p42 : List UInt8 := pc_L_law_p41 ++ pc_L_law_41
def pc_L_law_p43 : List UInt8 := pc_L_law_p42 ++ pc_L_law_42
def pc_L_law_p44 : List UInt8 := pc_L_law_p43 ++ pc_L_law_43
def pc_L_law_p45 : List UInt8 := pc_L_law_p44 ++ pc_L_law_44
def pc_L_law_p46 : List UInt8 := pc_L_law_p45 ++ pc_L_law_45
def pc_L_law_p47 : List UInt8 := pc_L_law_p46 ++ pc_L_law_46
def pc_L_law_p48 : List UInt8 := pc_L_law_p47 ++ pc_L_law_47
def pc_L_law_p49 : List UInt8 := pc_L_law_p48 ++ pc_L_law_48
def pc_L_law_p50 : List UInt8 := pc_L_law_p49 ++ pc_L_law_49
def pc_L_law_p51 : List UInt8 := pc_L_law_p50 ++ pc_L_law_50
def pc_L_law_p52 : List UInt8 := pc_L_law_p51 ++ pc_L_law_51
def pc_L_law_p53 : List UInt8 := pc_L_law_p52 ++ pc_L_law_52
def pc_L_law_p54 : List UInt8 := pc_L_law_p53 ++ pc_L_law_53
def pc_L_law_p55 : List UInt8 := pc_L_law_p54 ++ pc_L_law_54
def pc_L_law_p56 : List UInt8 := pc_L_law_p55 ++ pc_L_law_55
def pc_L_law_p57 : List UInt8 := pc_L_law_p56 ++ pc_L_law_56
def pc_L_law_p58 : List UInt8 := pc_L_law_p57 ++ pc_L_law_57
def pc_L_law_p59 : List UInt8 := pc_L_law_p58 ++ pc_L_law_58
def pc_L_law_p60 : List UInt8 := pc_L_law_p59 ++ pc_L_law_59
def pc_L_law_p61 : List UInt8 := pc_L_law_p60 ++ pc_L_law_60
def pc_L_law_p62 : List UInt8 := pc_L_law_p61 ++ pc_L_law_61
def pc_L_law_p63 : List UInt8 := pc_L_law_p62 ++ pc_L_law_62
def pc_L_law_p64 : List UInt8 := pc_L_law_p63 ++ pc_L_law_63
def pc_L_law_p65 : List UInt8 := pc_L_law_p64 ++ pc_L_law_64
def pc_L_law_p66 : List UInt8 := pc_L_law_p65 ++ pc_L_law_65
def pc_L_law_p67 : List UInt8 := pc_L_law_p66 ++ pc_L_law_66
def pc_L_law_p68 : List UInt8 := pc_L_law_p67 ++ pc_L_law_67
def pc_L_law_p69 : List UInt8 := pc_L_law_p68 ++ pc_L_law_68
def pc_L_law_p70 : List UInt8 := pc_L_law_p69 ++ pc_L_law_69
def pc_L_law_p71 : List UInt8 := pc_L_law_p70 ++ pc_L_law_70
def pc_L_law_p72 : List UInt8 := pc_L_law_p71 ++ pc_L_law_71
def pc_L_law_p73 : List UInt8 := pc_L_law_p72 ++ pc_L_law_72
def pc_L_law_p74 : List UInt8 := pc_L_law_p73 ++ pc_L_law_73
def pc_L_law_p75 : List UInt8 := pc_L_law_p74 ++ pc_L_law_74
def pc_L_law_p76 : List UInt8 := pc_L_law_p75 ++ pc_L_law_75
def pc_L_law_p77 : List UInt8 := pc_L_law_p76 ++ pc_L_law_76
def pc_L_law_p78 : List UInt8 := pc_L_law_p77 ++ pc_L_law_77
def pc_L_law_p79 : List UInt8 := pc_L_law_p78 ++ pc_L_law_78
def pc_L_law_p80 : List UInt8 := pc_L_law_p79 ++ pc_L_law_79
def pc_L_law_p81 : List UInt8 := pc_L_law_p80 ++ pc_L_law_80
def pc_L_law_p82 : List UInt8 := pc_L_law_p81 ++ pc_L_law_81
def pc_L_law_p83 : List UInt8 := pc_L_law_p82 ++ pc_L_law_82
def pc_L_law_p84 : List UInt8 := pc_L_law_p83 ++ pc_L_law_83
def pc_L_law_p85 : List UInt8 := pc_L_law_p84 ++ pc_L_law_84
def pc_L_law_p86 : List UInt8 := pc_L_law_p85 ++ pc_L_law_85
def pc_L_law_p87 : List UInt8 := pc_L_law_p86 ++ pc_L_law_86
def pc_L_law_p88 : List UInt8 := pc_L_law_p87 ++ pc_L_law_87
def pc_L_law_p89 : List UInt8 := pc_L_law_p88 ++ pc_L_law_88
def pc_L_law_p90 : List UInt8 := pc_L_law_p89 ++ pc_L_law_89
def pc_L_law_p91 : List UInt8 := pc_L_law_p90 ++ pc_L_law_90
def pc_L_law_p92 : List UInt8 := pc_L_law_p91 ++ pc_L_law_91
def pc_L_law_p93 : List UInt8 := pc_L_law_p92 ++ pc_L_law_92
def pc_L_law_p94 : List UInt8 := pc_L_law_p93 ++ pc_L_law_93
def pc_L_law_p95 : List UInt8 := pc_L_law_p94 ++ pc_L_law_94
def pc_L_law_p96 : List UInt8 := pc_L_law_p95 ++ pc_L_law_95
def pc_L_law_p97 : List UInt8 := pc_L_law_p96 ++ pc_L_law_96
def pc_L_law_p98 : List UInt8 := pc_L_law_p97 ++ pc_L_law_97
def pc_L_law_p99 : List UInt8 := pc_L_law_p98 ++ pc_L_law_98
def pc_L_law_p100 : List UInt8 := pc_L_law_p99 ++ pc_L_law_99
def pc_L_law_p101 : List UInt8 := pc_L_law_p100 ++ pc_L_law_100
def pc_L_law_p102 : List UInt8 := pc_L_law_p101 ++ pc_L_law_101
def pc_L_law_p103 : List UInt8 := pc_L_law_p102 ++ pc_L_law_102
def pc_L_law_p104 : List UInt8 := pc_L_law_p103 ++ pc_L_law_103
def pc_L_law_p105 : List UInt8 := pc_L_law_p104 ++ pc_L_law_104
def pc_L_law_p106 : List UInt8 := pc_L_law_p105 ++ pc_L_law_105
def pc_L_law_p107 : List UInt8 := pc_L_law_p106 ++ pc_L_law_106
def pc_L_law_p108 : List UInt8 := pc_L_law_p107 ++ pc_L_law_107
def pc_L_law_p109 : List UInt8 := pc_L_law_p108 ++ pc_L_law_108
def pc_L_law_p110 : List UInt8 := pc_L_law_p109 ++ pc_L_law_109
def pc_L_law_p111 : List UInt8 := pc_L_law_p110 ++ pc_L_law_110
def pc_L_law_p112 : List UInt8 := pc_L_law_p111 ++ pc_L_law_111
def pc_L_law_p113 : List UInt8 := pc_L_law_p112 ++ pc_L_law_112
def pc_L_law_p114 : List UInt8 := pc_L_law_p113 ++ pc_L_law_113
def pc_L_law_p115 : List UInt8 := pc_L_law_p114 ++ pc_L_law_114
def pc_L_law_p116 : List UInt8 := pc_L_law_p115 ++ pc_L_law_115
def pc_L_law_p117 : List UInt8 := pc_L_law_p116 ++ pc_L_law_116
def pc_L_law_p118 : List UInt8 := pc_L_law_p117 ++ pc_L_law_117
def pc_L_law_p119 : List UInt8 := pc_L_law_p118 ++ pc_L_law_118
def pc_L_law_p120 : List UInt8 := pc_L_law_p119 ++ pc_L_law_119
def pc_L_law_p121 : List UInt8 := pc_L_law_p120 ++ pc_L_law_120
def pc_L_law_p122 : List UInt8 := pc_L_law_p121 ++ pc_L_law_121
def pc_L_law_p123 : List UInt8 := pc_L_law_p122 ++ pc_L_law_122
def pc_L_law_p124 : List UInt8 := pc_L_law_p123 ++ pc_L_law_123
theorem pc_L_law_e0 : cL_law.data.toList = pc_L_law_p0 ++ (pc_L_law_0 ++ pc_L_law_r0) := by decide +kernel
theorem pc_L_law_e1 : cL_law.data.toList = pc_L_law_p1 ++ (pc_L_law_1 ++ pc_L_law_r1) := dc_next pc_L_law_e0
theorem pc_L_law_e2 : cL_law.data.toList = pc_L_law_p2 ++ (pc_L_law_2 ++ pc_L_law_r2) := dc_next pc_L_law_e1
theorem pc_L_law_e3 : cL_law.data.toList = pc_L_law_p3 ++ (pc_L_law_3 ++ pc_L_law_r3) := dc_next pc_L_law_e2
theorem pc_L_law_e4 : cL_law.data.toList = pc_L_law_p4 ++ (pc_L_law_4 ++ pc_L_law_r4) := dc_next pc_L_law_e3
theorem pc_L_law_e5 : cL_law.data.toList = pc_L_law_p5 ++ (pc_L_law_5 ++ pc_L_law_r5) := dc_next pc_L_law_e4
theorem pc_L_law_e6 : cL_law.data.toList = pc_L_law_p6 ++ (pc_L_law_6 ++ pc_L_law_r6) := dc_next pc_L_law_e5
theorem pc_L_law_e7 : cL_law.data.toList = pc_L_law_p7 ++ (pc_L_law_7 ++ pc_L_law_r7) := dc_next pc_L_law_e6
theorem pc_L_law_e8 : cL_law.data.toList = pc_L_law_p8 ++ (pc_L_law_8 ++ pc_L_law_r8) := dc_next pc_L_law_e7
theorem pc_L_law_e9 : cL_law.data.toList = pc_L_law_p9 ++ (pc_L_law_9 ++ pc_L_law_r9) := dc_next pc_L_law_e8
theorem pc_L_law_e10 : cL_law.data.toList = pc_L_law_p10 ++ (pc_L_law_10 ++ pc_L_law_r10) := dc_next pc_L_law_e9
theorem pc_L_law_e11 : cL_law.data.toList = pc_L_law_p11 ++ (pc_L_law_11 ++ pc_L_law_r11) := dc_next pc_L_law_e10
theorem pc_L_law_e12 : cL_law.data.toList = pc_L_law_p12 ++ (pc_L_law_12 ++ pc_L_law_r12) := dc_next pc_L_law_e11
theorem pc_L_law_e13 : cL_law.data.toList = pc_L_law_p13 ++ (pc_L_law_13 ++ pc_L_law_r13) := dc_next pc_L_law_e12
theorem pc_L_law_e14 : cL_law.data.toList = pc_L_law_p14 ++ (pc_L_law_14 ++ pc_L_law_r14) := dc_next pc_L_law_e13
theorem pc_L_law_e15 : cL_law.data.toList = pc_L_law_p15 ++ (pc_L_law_15 ++ pc_L_law_r15) := dc_next pc_L_law_e14
theorem pc_L_law_e16 : cL_law.data.toList = pc_L_law_p16 ++ (pc_L_law_16 ++ pc_L_law_r16) := dc_next pc_L_law_e15
theorem pc_L_law_e17 : cL_law.data.toList = pc_L_law_p17 ++ (pc_L_law_17 ++ pc_L_law_r17) := dc_next pc_L_law_e16
theorem pc_L_law_e18 : cL_law.data.toList = pc_L_law_p18 ++ (pc_L_law_18 ++ pc_L_law_r18) := dc_next pc_L_law_e17
theorem pc_L_law_e19 : cL_law.data.toList = pc_L_law_p19 ++ (pc_L_law_19 ++ pc_L_law_r19) := dc_next pc_L_law_e18
theorem pc_L_law_e20 : cL_law.data.toList = pc_L_law_p20 ++ (pc_L_law_20 ++ pc_L_law_r20) := dc_next pc_L_law_e19
theorem pc_L_law_e21 : cL_law.data.toList = pc_L_law_p21 ++ (pc_L_law_21 ++ pc_L_law_r21) := dc_next pc_L_law_e20
theorem pc_L_law_e22 : cL_law.data.toList = pc_L_law_p22 ++ (pc_L_law_22 ++ pc_L_law_r22) := dc_next pc_L_law_e21
theorem pc_L_law_e23 : cL_law.data.toList = pc_L_law_p23 ++ (pc_L_law_23 ++ pc_L_law_r23) := dc_next pc_L_law_e22
theorem pc_L_law_e24 : cL_law.data.toList = pc_L_law_p24 ++ (pc_L_law_24 ++ pc_L_law_r24) := dc_next pc_L_law_e23
theorem pc_L_law_e25 : cL_law.data.toList = pc_L_law_p25 ++ (pc_L_law_25 ++ pc_L_law_r25) := dc_next pc_L_law_e24
theorem pc_L_law_e26 : cL_law.data.toList = pc_L_law_p26 ++ (pc_L_law_26 ++ pc_L_law_r26) := dc_next pc_L_law_e25
theorem pc_L_law_e27 : cL_law.data.toList = pc_L_law_p27 ++ (pc_L_law_27 ++ pc_L_law_r27) := dc_next pc_L_law_e26
theorem pc_L_law_e28 : cL_law.data.toList = pc_L_law_p28 ++ (pc_L_law_28 ++ pc_L_law_r28) := dc_next pc_L_law_e27
theorem pc_L_law_e29 : cL_law.data.toList = pc_L_law_p29 ++ (pc_L_law_29 ++ pc_L_law_r29) := dc_next pc_L_law_e28
theorem pc_L_law_e30 : cL_law.data.toList = pc_L_law_p30 ++ (pc_L_law_30 ++ pc_L_law_r30) := dc_next pc_L_law_e29
theorem pc_L_law_e31 : cL_law.data.toList = pc_L_law_p31 ++ (pc_L_law_31 ++ pc_L_law_r31) := dc_next pc_L_law_e30
theorem pc_L_law_e32 : cL_law.data.toList = pc_L_law_p32 ++ (pc_L_law_32 ++ pc_L_law_r32) := dc_next pc_L_law_e31
theorem pc_L_law_e33 : cL_law.data.toList = pc_L_law_p33 ++ (pc_L_law_33 ++ pc_L_law_r33) := dc_next pc_L_law_e32
theorem pc_L_law_e34 : cL_law.data.toList = pc_L_law_p34 ++ (pc_L_law_34 ++ pc_L_law_r34) := dc_next pc_L_law_e33
theorem pc_L_law_e35 : cL_law.data.toList = pc_L_law_p35 ++ (pc_L_law_35 ++ pc_L_law_r35) := dc_next pc_L_law_e34
theorem pc_L_law_e36 : cL_law.data.toList = pc_L_law_p36 ++ (pc_L_law_36 ++ pc_L_law_r36) := dc_next pc_L_law_e35
theorem pc_L_law_e37 : cL_law.data.toList = pc_L_law_p37 ++ (pc_L_law_37 ++ pc_L_law_r37) := dc_next pc_L_law_e36
theorem pc_L_law_e38 : cL_law.data.toList = pc_L_law_p38 ++ (pc_L_law_38 ++ pc_L_law_r38) := dc_next pc_L_law_e37
theorem pc_L_law_e39 : cL_law.data.toList = pc_L_law_p39 ++ (pc_L_law_39 ++ pc_L_law_r39) := dc_next pc_L_law_e38
theorem pc_L_law_e40 : cL_law.data.toList = pc_L_law_p40 ++ (pc_L_law_40 ++ pc_L_law_r40) := dc_next pc_L_law_e39
theorem pc_L_law_e41 : cL_law.data.toList = pc_L_law_p41 ++ (pc_L_law_41 ++ pc_L_law_r41) := dc_next pc_L_law_e40
theorem pc_L_law_e42 : cL_law.data.toList = pc_L_law_p42 ++ (pc_L_law_42 ++ pc_L_law_r42) := dc_next pc_L_law_e41
theorem pc_L_law_e43 : cL_law.data.toList = pc_L_law_p43 ++ (pc_L_law_43 ++ pc_L_law_r43) := dc_next pc_L_law_e42
theorem pc_L_law_e44 : cL_law.data.toList = pc_L_law_p44 ++ (pc_L_law_44 ++ pc_L_law_r44) := dc_next pc_L_law_e43
theorem pc_L_law_e45 : cL_law.data.toList = pc_L_law_p45 ++ (pc_L_law_45 ++ pc_L_law_r45) := dc_next pc_L_law_e44
theorem pc_L_law_e46 : cL_law.data.toList = pc_L_law_p46 ++ (pc_L_law_46 ++ pc_L_law_r46) := dc_next pc_L_law_e45
theorem pc_L_law_e47 : cL_law.data.toList = pc_L_law_p47 ++ (pc_L_law_47 ++ pc_L_law_r47) := dc_next pc_L_law_e46
theorem pc_L_law_e48 : cL_law.data.toList = pc_L_law_p48 ++ (pc_L_law_48 ++ pc_L_law_r48) := dc_next pc_L_law_e47
theorem pc_L_law_e49 : cL_law.data.toList = pc_L_law_p49 ++ (pc_L_law_49 ++ pc_L_law_r49) := dc_next pc_L_law_e48
theorem pc_L_law_e50 : cL_law.data.toList = pc_L_law_p50 ++ (pc_L_law_50 ++ pc_L_law_r50) := dc_next pc_L_law_e49
theorem pc_L_law_e51 : cL_law.data.toList = pc_L_law_p51 ++ (pc_L_law_51 ++ pc_L_law_r51) := dc_next pc_L_law_e50
theorem pc_L_law_e52 : cL_law.data.toList = pc_L_law_p52 ++ (pc_L_law_52 ++ pc_L_law_r52) := dc_next pc_L_law_e51
theorem pc_L_law_e53 : cL_law.data.toList = pc_L_law_p53 ++ (pc_L_law_53 ++ pc_L_law_r53) := dc_next pc_L_law_e52
theorem pc_L_law_e54 : cL_law.data.toList = pc_L_law_p54 ++ (pc_L_law_54 ++ pc_L_law_r54) := dc_next pc_L_law_e53
theorem pc_L_law_e55 : cL_law.data.toList = pc_L_law_p55 ++ (pc_L_law_55 ++ pc_L_law_r55) := dc_next pc_L_law_e54
theorem pc_L_law_e56 : cL_law.data.toList = pc_L_law_p56 ++ (pc_L_law_56 ++ pc_L_law_r56) := dc_next pc_L_law_e55
theorem pc_L_law_e57 : cL_law.data.toList = pc_L_law_p57 ++ (pc_L_law_57 ++ pc_L_law_r57) := dc_next pc_L_law_e56
theorem pc_L_law_e58 : cL_law.data.toList = pc_L_law_p58 ++ (pc_L_law_58 ++ pc_L_law_r58) := dc_next pc_L_law_e57
theorem pc_L_law_e59 : cL_law.data.toList = pc_L_law_p59 ++ (pc_L_law_59 ++ pc_L_law_r59) := dc_next pc_L_law_e58
theorem pc_L_law_e60 : cL_law.data.toList = pc_L_law_p60 ++ (pc_L_law_60 ++ pc_L_law_r60) := dc_next pc_L_law_e59
theorem pc_L_law_e61 : cL_law.data.toList = pc_L_law_p61 ++ (pc_L_law_61 ++ pc_L_law_r61) := dc_next pc_L_law_e60
theorem pc_L_law_e62 : cL_law.data.toList = pc_L_law_p62 ++ (pc_L_law_62 ++ pc_L_law_r62) := dc_next pc_L_law_e61
theorem pc_L_law_e63 : cL_law.data.toList = pc_L_law_p63 ++ (pc_L_law_63 ++ pc_L_law_r63) := dc_next pc_L_law_e62
theorem pc_L_law_e64 : cL_law.data.toList = pc_L_law_p64 ++ (pc_L_law_64 ++ pc_L_law_r64) := dc_next pc_L_law_e63
theorem pc_L_law_e65 : cL_law.data.toList = pc_L_law_p65 ++ (pc_L_law_65 ++ pc_L_law_r65) := dc_next pc_L_law_e64
theorem pc_L_law_e66 : cL_law.data.toList = pc_L_law_p66 ++ (pc_L_law_66 ++ pc_L_law_r66) := dc_next pc_L_law_e65
theorem pc_L_law_e67 : cL_law.data.toList = pc_L_law_p67 ++ (pc_L_law_67 ++ pc_L_law_r67) := dc_next pc_L_law_e66
theorem pc_L_law_e68 : cL_law.data.toList = pc_L_law_p68 ++ (pc_L_law_68 ++ pc_L_law_r68) := dc_next pc_L_law_e67
theorem pc_L_law_e69 : cL_law.data.toList = pc_L_law_p69 ++ (pc_L_law_69 ++ pc_L_law_r69) := dc_next pc_L_law_e68
theorem pc_L_law_e70 : cL_law.data.toList = pc_L_law_p70 ++ (pc_L_law_70 ++ pc_L_law_r70) := dc_next pc_L_law_e69
theorem pc_L_law_e71 : cL_law.data.toList = pc_L_law_p71 ++ (pc_L_law_71 ++ pc_L_law_r71) := dc_next pc_L_law_e70
theorem pc_L_law_e72 : cL_law.data.toList = pc_L_law_p72 ++ (pc_L_law_72 ++ pc_L_law_r72) := dc_next pc_L_law_e71
theorem pc_L_law_e73 : cL_law.data.toList = pc_L_law_p73 ++ (pc_L_law_73 ++ pc_L_law_r73) := dc_next pc_L_law_e72
theorem pc_L_law_e74 : cL_law.data.toList = pc_L_law_p74 ++ (pc_L_law_74 ++ pc_L_law_r74) := dc_next pc_L_law_e73
theorem pc_L_law_e75 : cL_law.data.toList = pc_L_law_p75 ++ (pc_L_law_75 ++ pc_L_law_r75) := dc_next pc_L_law_e74
theorem pc_L_law_e76 : cL_law.data.toList = pc_L_law_p76 ++ (pc_L_law_76 ++ pc_L_law_r76) := dc_next pc_L_law_e75
theorem pc_L_law_e77 : cL_law.data.toList = pc_L_law_p77 ++ (pc_L_law_77 ++ pc_L_law_r77) := dc_next pc_L_law_e76
theorem pc_L_law_e78 : cL_law.data.toList = pc_L_law_p78 ++ (pc_L_law_78 ++ pc_L_law_r78) := dc_next pc_L_law_e77
theorem pc_L_law_e79 : cL_law.data.toList = pc_L_law_p79 ++ (pc_L_law_79 ++ pc_L_law_r79) := dc_next pc_L_law_e78
theorem pc_L_law_e80 : cL_law.data.toList = pc_L_law_p80 ++ (pc_L_law_80 ++ pc_L_law_r80) := dc_next pc_L_law_e79
theorem pc_L_law_e81 : cL_law.data.toList = pc_L_law_p81 ++ (pc_L_law_81 ++ pc_L_law_r81) := dc_next pc_L_law_e80
theorem pc_L_law_e82 : cL_law.data.toList = pc_L_law_p82 ++ (pc_L_law_82 ++ pc_L_law_r82) := dc_next pc_L_law_e81
theorem pc_L_law_e83 : cL_law.data.toList = pc_L_law_p83 ++ (pc_L_law_83 ++ pc_L_law_r83) := dc_next pc_L_law_e82
theorem pc_L_law_e84 : cL_law.data.toList = pc_L_law_p84 ++ (pc_L_law_84 ++ pc_L_law_r84) := dc_next pc_L_law_e83
theorem pc_L_law_e85 : cL_law.data.toList = pc_L_law_p85 ++ (pc_L_law_85 ++ pc_L_law_r85) := dc_next pc_L_law_e84
theorem pc_L_law_e86 : cL_law.data.toList = pc_L_law_p86 ++ (pc_L_law_86 ++ pc_L_law_r86) := dc_next pc_L_law_e85
theorem pc_L_law_e87 : cL_law.data.toList = pc_L_law_p87 ++ (pc_L_law_87 ++ pc_L_law_r87) := dc_next pc_L_law_e86
theorem pc_L_law_e88 : cL_law.data.toList = pc_L_law_p88 ++ (pc_L_law_88 ++ pc_L_law_r88) := dc_next pc_L_law_e87
theorem pc_L_law_e89 : cL_law.data.toList = pc_L_law_p89 ++ (pc_L_law_89 ++ pc_L_law_r89) := dc_next pc_L_law_e88
theorem pc_L_law_e90 : cL_law.data.toList = pc_L_law_p90 ++ (pc_L_law_90 ++ pc_L_law_r90) := dc_next pc_L_law_e89
theorem pc_L_law_e91 : cL_law.data.toList = pc_L_law_p91 ++ (pc_L_law_91 ++ pc_L_law_r91) := dc_next pc_L_law_e90
theorem pc_L_law_e92 : cL_law.data.toList = pc_L_law_p92 ++ (pc_L_law_92 ++ pc_L_law_r92) := dc_next pc_L_law_e91
theorem pc_L_law_e93 : cL_law.data.toList = pc_L_law_p93 ++ (pc_L_law_93 ++ pc_L_law_r93) := dc_next pc_L_law_e92
theorem pc_L_law_e94 : cL_law.data.toList = pc_L_law_p94 ++ (pc_L_law_94 ++ pc_L_law_r94) := dc_next pc_L_law_e93
theorem pc_L_law_e95 : cL_law.data.toList = pc_L_law_p95 ++ (pc_L_law_95 ++ pc_L_law_r95) := dc_next pc_L_law_e94
theorem pc_L_law_e96 : cL_law.data.toList = pc_L_law_p96 ++ (pc_L_law_96 ++ pc_L_law_r96) := dc_next pc_L_law_e95
theorem pc_L_law_e97 : cL_law.data.toList = pc_L_law_p97 ++ (pc_L_law_97 ++ pc_L_law_r97) := dc_next pc_L_law_e96
theorem pc_L_law_e98 : cL_law.data.toList = pc_L_law_p98 ++ (pc_L_law_98 ++ pc_L_law_r98) := dc_next pc_L_law_e97
theorem pc_L_law_e99 : cL_law.data.toList = pc_L_law_p99 ++ (pc_L_law_99 ++ pc_L_law_r99) := dc_next pc_L_law_e98
theorem pc_L_law_e100 : cL_law.data.toList = pc_L_law_p100 ++ (pc_L_law_100 ++ pc_L_law_r100) := dc_next pc_L_law_e99
theorem pc_L_law_e101 : cL_law.data.toList = pc_L_law_p101 ++ (pc_L_law_101 ++ pc_L_law_r101) := dc_next pc_L_law_e100
theorem pc_L_law_e102 : cL_law.data.toList = pc_L_law_p102 ++ (pc_L_law_102 ++ pc_L_law_r102) := dc_next pc_L_law_e101
theorem pc_L_law_e103 : cL_law.data.toList = pc_L_law_p103 ++ (pc_L_law_103 ++ pc_L_law_r103) := dc_next pc_L_law_e102
theorem pc_L_law_e104 : cL_law.data.toList = pc_L_law_p104 ++ (pc_L_law_104 ++ pc_L_law_r104) := dc_next pc_L_law_e103
theorem pc_L_law_e105 : cL_law.data.toList = pc_L_law_p105 ++ (pc_L_law_105 ++ pc_L_law_r105) := dc_next pc_L_law_e104
theorem pc_L_law_e106 : cL_law.data.toList = pc_L_law_p106 ++ (pc_L_law_106 ++ pc_L_law_r106) := dc_next pc_L_law_e105
theorem pc_L_law_e107 : cL_law.data.toList = pc_L_law_p107 ++ (pc_L_law_107 ++ pc_L_law_r107) := dc_next pc_L_law_e106
theorem pc_L_law_e108 : cL_law.data.toList = pc_L_law_p108 ++ (pc_L_law_108 ++ pc_L_law_r108) := dc_next pc_L_law_e107
theorem pc_L_law_e109 : cL_law.data.toList = pc_L_law_p109 ++ (pc_L_law_109 ++ pc_L_law_r109) := dc_next pc_L_law_e108
theorem pc_L_law_e110 : cL_law.data.toList = pc_L_law_p110 ++ (pc_L_law_110 ++ pc_L_law_r110) := dc_next pc_L_law_e109
theorem pc_L_law_e111 : cL_law.data.toList = pc_L_law_p111 ++ (pc_L_law_111 ++ pc_L_law_r111) := dc_next pc_L_law_e110
theorem pc_L_law_e112 : cL_law.data.toList = pc_L_law_p112 ++ (pc_L_law_112 ++ pc_L_law_r112) := dc_next pc_L_law_e111
theorem pc_L_law_e113 : cL_law.data.toList = pc_L_law_p113 ++ (pc_L_law_113 ++ pc_L_law_r113) := dc_next pc_L_law_e112
theorem pc_L_law_e114 : cL_law.data.toList = pc_L_law_p114 ++ (pc_L_law_114 ++ pc_L_law_r114) := dc_next pc_L_law_e113
theorem pc_L_law_e115 : cL_law.data.toList = pc_L_law_p115 ++ (pc_L_law_115 ++ pc_L_law_r115) := dc_next pc_L_law_e114
theorem pc_L_law_e116 : cL_law.data.toList = pc_L_law_p116 ++ (pc_L_law_116 ++ pc_L_law_r116) := dc_next pc_L_law_e115
theorem pc_L_law_e117 : cL_law.data.toList = pc_L_law_p117 ++ (pc_L_law_117 ++ pc_L_law_r117) := dc_next pc_L_law_e116
theorem pc_L_law_e118 : cL_law.data.toList = pc_L_law_p118 ++ (pc_L_law_118 ++ pc_L_law_r118) := dc_next pc_L_law_e117
theorem pc_L_law_e119 : cL_law.data.toList = pc_L_law_p119 ++ (pc_L_law_119 ++ pc_L_law_r119) := dc_next pc_L_law_e118
theorem pc_L_law_e120 : cL_law.data.toList = pc_L_law_p120 ++ (pc_L_law_120 ++ pc_L_law_r120) := dc_next pc_L_law_e119
theorem pc_L_law_e121 : cL_law.data.toList = pc_L_law_p121 ++ (pc_L_law_121 ++ pc_L_law_r121) := dc_next pc_L_law_e120
theorem pc_L_law_e122 : cL_law.data.toList = pc_L_law_p122 ++ (pc_L_law_122 ++ pc_L_law_r122) := dc_next pc_L_law_e121
theorem pc_L_law_e123 : cL_law.data.toList = pc_L_law_p123 ++ (pc_L_law_123 ++ pc_L_law_r123) := dc_next pc_L_law_e122
theorem pc_L_law_e124 : cL_law.data.toList = pc_L_law_p124 ++ (pc_L_law_124 ++ pc_L_law_r124) := dc_next pc_L_law_e123
theorem pc_L_law_l0 : pc_L_law_p0.length = 0 := rfl
theorem pc_L_law_l1 : pc_L_law_p1.length = 24 := by rw [pc_L_law_p1, List.length_append, pc_L_law_l0]; rfl
theorem pc_L_law_l2 : pc_L_law_p2.length = 48 := by rw [pc_L_law_p2, List.length_append, pc_L_law_l1]; rfl
theorem pc_L_law_l3 : pc_L_law_p3.length = 72 := by rw [pc_L_law_p3, List.length_append, pc_L_law_l2]; rfl
theorem pc_L_law_l4 : pc_L_law_p4.length = 96 := by rw [pc_L_law_p4, List.length_append, pc_L_law_l3]; rfl
theorem pc_L_law_l5 : pc_L_law_p5.length = 120 := by rw [pc_L_law_p5, List.length_append, pc_L_law_l4]; rfl
theorem pc_L_law_l6 : pc_L_law_p6.length = 144 := by rw [pc_L_law_p6, List.length_append, pc_L_law_l5]; rfl
theorem pc_L_law_l7 : pc_L_law_p7.length = 168 := by rw [pc_L_law_p7, List.length_append, pc_L_law_l6]; rfl
theorem pc_L_law_l8 : pc_L_law_p8.length = 192 := by rw [pc_L_law_p8, List.length_append, pc_L_law_l7]; rfl
theorem pc_L_law_l9 : pc_L_law_p9.length = 216 := by rw [pc_L_law_p9, List.length_append, pc_L_law_l8]; rfl
theorem pc_L_law_l10 : pc_L_law_p10.length = 240 := by rw [pc_L_law_p10, List.length_append, pc_L_law_l9]; rfl
theorem pc_L_law_l11 : pc_L_law_p11.length = 264 := by rw [pc_L_law_p11, List.length_append, pc_L_law_l10]; rfl
theorem pc_L_law_l12 : pc_L_law_p12.length = 288 := by rw [pc_L_law_p12, List.length_append, pc_L_law_l11]; rfl
theorem pc_L_law_l13 : pc_L_law_p13.length = 312 := by rw [pc_L_law_p13, List.length_append, pc_L_law_l12]; rfl
theorem pc_L_law_l14 : pc_L_law_p14.length = 336 := by rw [pc_L_law_p14, List.length_append, pc_L_law_l13]; rfl
theorem pc_L_law_l15 : pc_L_law_p15.length = 360 := by rw [pc_L_law_p15, List.length_append, pc_L_law_l14]; rfl
theorem pc_L_law_l16 : pc_L_law_p16.length = 384 := by rw [pc_L_law_p16, List.length_append, pc_L_law_l15]; rfl
theorem pc_L_law_l17 : pc_L_law_p17.length = 408 := by rw [pc_L_law_p17, List.length_append, pc_L_law_l16]; rfl
theorem pc_L_law_l18 : pc_L_law_p18.length = 432 := by rw [pc_L_law_p18, List.length_append, pc_L_law_l17]; rfl
theorem pc_L_law_l19 : pc_L_law_p19.length = 456 := by rw [pc_L_law_p19, List.length_append, pc_L_law_l18]; rfl
theorem pc_L_law_l20 : pc_L_law_p20.length = 480 := by rw [pc_L_law_p20, List.length_append, pc_L_law_l19]; rfl
theorem pc_L_law_l21 : pc_L_law_p21.length = 504 := by rw [pc_L_law_p21, List.length_append, pc_L_law_l20]; rfl
theorem pc_L_law_l22 : pc_L_law_p22.length = 528 := by rw [pc_L_law_p22, List.length_append, pc_L_law_l21]; rfl
theorem pc_L_law_l23 : pc_L_law_p23.length = 552 := by rw [pc_L_law_p23, List.length_append, pc_L_law_l22]; rfl
theorem pc_L_law_l24 : pc_L_law_p24.length = 576 := by rw [pc_L_law_p24, List.length_append, pc_L_law_l23]; rfl
theorem pc_L_law_l25 : pc_L_law_p25.length = 600 := by rw [pc_L_law_p25, List.length_append, pc_L_law_l24]; rfl
theorem pc_L_law_l26 : pc_L_law_p26.length = 624 := by rw [pc_L_law_p26, List.length_append, pc_L_law_l25]; rfl
theorem pc_L_law_l27 : pc_L_law_p27.length = 648 := by rw [pc_L_law_p27, List.length_append, pc_L_law_l26]; rfl
theorem pc_L_law_l28 : pc_L_law_p28.length = 672 := by rw [pc_L_law_p28, List.length_append, pc_L_law_l27]; rfl
theorem pc_L_law_l29 : pc_L_law_p29.length = 696 := by rw [pc_L_law_p29, List.length_append, pc_L_law_l28]; rfl
theorem pc_L_law_l30 : pc_L_law_p30.length = 720 := by rw [pc_L_law_p30, List.length_append, pc_L_law_l29]; rfl
theorem pc_L_law_l31 : pc_L_law_p31.length = 744 := by rw [pc_L_law_p31, List.length_append, pc_L_law_l30]; rfl
theorem pc_L_law_l32 : pc_L_law_p32.length = 768 := by rw [pc_L_law_p32, List.length_append, pc_L_law_l31]; rfl
theorem pc_L_law_l33 : pc_L_law_p33.length = 792 := by rw [pc_L_law_p33, List.length_append, pc_L_law_l32]; rfl
theorem pc_L_law_l34 : pc_L_law_p34.length = 816 := by rw [pc_L_law_p34, List.length_append, pc_L_law_l33]; rfl
theorem pc_L_law_l35 : pc_L_law_p35.length = 840 := by rw [pc_L_law_p35, List.length_append, pc_L_law_l34]; rfl
theorem pc_L_law_l36 : pc_L_law_p36.length = 864 := by rw [pc_L_law_p36, List.length_append, pc_L_law_l35]; rfl
theorem pc_L_law_l37 : pc_L_law_p37.length = 888 := by rw [pc_L_law_p37, List.length_append, pc_L_law_l36]; rfl
theorem pc_L_law_l38 : pc_L_law_p38.length = 912 := by rw [pc_L_law_p38, List.length_append, pc_L_law_l37]; rfl
theorem pc_L_law_l39 : pc_L_law_p39.length = 936 := by rw [pc_L_law_p39, List.length_append, pc_L_law_l38]; rfl
theorem pc_L_law_l40 : pc_L_law_p40.length = 960 := by rw [pc_L_law_p40, List.length_append, pc_L_law_l39]; rfl
theorem pc_L_law_l41 : pc_L_law_p41.length = 984 := by rw [pc_L_law_p41, List.length_append, pc_L_law_l40]; rfl
theorem pc_L_law_l42 : pc_L_law_p42.length = 1008 := by rw [pc_L_law_p42, List.length_append, pc_L_law_l41]; rfl
theorem pc_L_law_l43 : pc_L_law_p43.length = 1032 := by rw [pc_L_law_p43, List.length_append, pc_L_law_l42]; rfl
theorem pc_L_law_l44 : pc_L_law_p44.length = 1056 := by rw [pc_L_law_p44, List.length_append, pc_L_law_l43]; rfl
theorem pc_L_law_l45 : pc_L_law_p45.length = 1080 := by rw [pc_L_law_p45, List.length_append, pc_L_law_l44]; rfl
theorem pc_L_law_l46 : pc_L_law_p46.length = 1104 := by rw [pc_L_law_p46, List.length_append, pc_L_law_l45]; rfl
theorem pc_L_law_l47 : pc_L_law_p47.length = 1128 := by rw [pc_L_law_p47, List.length_append, pc_L_law_l46]; rfl
theorem pc_L_law_l48 : pc_L_law_p48.length = 1152 := by rw [pc_L_law_p48, List.length_append, pc_L_law_l47]; rfl
theorem pc_L_law_l49 : pc_L_law_p49.length = 1176 := by rw [pc_L_law_p49, List.length_append, pc_L_law_l48]; rfl
theorem pc_L_law_l50 : pc_L_law_p50.length = 1200 := by rw [pc_L_law_p50, List.length_append, pc_L_law_l49]; rfl
theorem pc_L_law_l51 : pc_L_law_p51.length = 1224 := by rw [pc_L_law_p51, List.length_append, pc_L_law_l50]; rfl
theorem pc_L_law_l52 : pc_L_law_p52.length = 1248 := by rw [pc_L_law_p52, List.length_append, pc_L_law_l51]; rfl
theorem pc_L_law_l53 : pc_L_law_p53.length = 1272 := by rw [pc_L_law_p53, List.length_append, pc_L_law_l52]; rfl
theorem pc_L_law_l54 : pc_L_law_p54.length = 1296 := by rw [pc_L_law_p54, List.length_append, pc_L_law_l53]; rfl
theorem pc_L_law_l55 : pc_L_law_p55.length = 1320 := by rw [pc_L_law_p55, List.length_append, pc_L_law_l54]; rfl
theorem pc_L_law_l56 : pc_L_law_p56.length = 1344 := by rw [pc_L_law_p56, List.length_append, pc_L_law_l55]; rfl
theorem pc_L_law_l57 : pc_L_law_p57.length = 1368 := by rw [pc_L_law_p57, List.length_append, pc_L_law_l56]; rfl
theorem pc_L_law_l58 : pc_L_law_p58.length = 1392 := by rw [pc_L_law_p58, List.length_append, pc_L_law_l57]; rfl
theorem pc_L_law_l59 : pc_L_law_p59.length = 1416 := by rw [pc_L_law_p59, List.length_append, pc_L_law_l58]; rfl
theorem pc_L_law_l60 : pc_L_law_p60.length = 1440 := by rw [pc_L_law_p60, List.length_append, pc_L_law_l59]; rfl
theorem pc_L_law_l61 : pc_L_law_p61.length = 1464 := by rw [pc_L_law_p61, List.length_append, pc_L_law_l60]; rfl
theorem pc_L_law_l62 : pc_L_law_p62.length = 1488 := by rw [pc_L_law_p62, List.length_append, pc_L_law_l61]; rfl
theorem pc_L_law_l63 : pc_L_law_p63.length = 1512 := by rw [pc_L_law_p63, List.length_append, pc_L_law_l62]; rfl
theorem pc_L_law_l64 : pc_L_law_p64.length = 1536 := by rw [pc_L_law_p64, List.length_append, pc_L_law_l63]; rfl
theorem pc_L_law_l65 : pc_L_law_p65.length = 1560 := by rw [pc_L_law_p65, List.length_append, pc_L_law_l64]; rfl
theorem pc_L_law_l66 : pc_L_law_p66.length = 1584 := by rw [pc_L_law_p66, List.length_append, pc_L_law_l65]; rfl
theorem pc_L_law_l67 : pc_L_law_p67.length = 1608 := by rw [pc_L_law_p67, List.length_append, pc_L_law_l66]; rfl
theorem pc_L_law_l68 : pc_L_law_p68.length = 1632 := by rw [pc_L_law_p68, List.length_append, pc_L_law_l67]; rfl
theorem pc_L_law_l69 : pc_L_law_p69.length = 1656 := by rw [pc_L_law_p69, List.length_append, pc_L_law_l68]; rfl
theorem pc_L_law_l70 : pc_L_law_p70.length = 1680 := by rw [pc_L_law_p70, List.length_append, pc_L_law_l69]; rfl
theorem pc_L_law_l71 : pc_L_law_p71.length = 1704 := by rw [pc_L_law_p71, List.length_append, pc_L_law_l70]; rfl
theorem pc_L_law_l72 : pc_L_law_p72.length = 1728 := by rw [pc_L_law_p72, List.length_append, pc_L_law_l71]; rfl
theorem pc_L_law_l73 : pc_L_law_p73.length = 1752 := by rw [pc_L_law_p73, List.length_append, pc_L_law_l72]; rfl
theorem pc_L_law_l74 : pc_L_law_p74.length = 1776 := by rw [pc_L_law_p74, List.length_append, pc_L_law_l73]; rfl
theorem pc_L_law_l75 : pc_L_law_p75.length = 1800 := by rw [pc_L_law_p75, List.length_append, pc_L_law_l74]; rfl
theorem pc_L_law_l76 : pc_L_law_p76.length = 1824 := by rw [pc_L_law_p76, List.length_append, pc_L_law_l75]; rfl
theorem pc_L_law_l77 : pc_L_law_p77.length = 1848 := by rw [pc_L_law_p77, List.length_append, pc_L_law_l76]; rfl
theorem pc_L_law_l78 : pc_L_law_p78.length = 1872 := by rw [pc_L_law_p78, List.length_append, pc_L_law_l77]; rfl
theorem pc_L_law_l79 : pc_L_law_p79.length = 1896 := by rw [pc_L_law_p79, List.length_append, pc_L_law_l78]; rfl
theorem pc_L_law_l80 : pc_L_law_p80.length = 1920 := by rw [pc_L_law_p80, List.length_append, pc_L_law_l79]; rfl
theorem pc_L_law_l81 : pc_L_law_p81.length = 1944 := by rw [pc_L_law_p81, List.length_append, pc_L_law_l80]; rfl
theorem pc_L_law_l82 : pc_L_law_p82.length = 1968 := by rw [pc_L_law_p82, List.length_append, pc_L_law_l81]; rfl
theorem pc_L_law_l83 : pc_L_law_p83.length = 1992 := by rw [pc_L_law_p83, List.length_append, pc_L_law_l82]; rfl
theorem pc_L_law_l84 : pc_L_law_p84.length = 2016 := by rw [pc_L_law_p84, List.length_append, pc_L_law_l83]; rfl
theorem pc_L_law_l85 : pc_L_law_p85.length = 2040 := by rw [pc_L_law_p85, List.length_append, pc_L_law_l84]; rfl
theorem pc_L_law_l86 : pc_L_law_p86.length = 2064 := by rw [pc_L_law_p86, List.length_append, pc_L_law_l85]; rfl
theorem pc_L_law_l87 : pc_L_law_p87.length = 2088 := by rw [pc_L_law_p87, List.length_append, pc_L_law_l86]; rfl
theorem pc_L_law_l88 : pc_L_law_p88.length = 2112 := by rw [pc_L_law_p88, List.length_append, pc_L_law_l87]; rfl
theorem pc_L_law_l89 : pc_L_law_p89.length = 2136 := by rw [pc_L_law_p89, List.length_append, pc_L_law_l88]; rfl
theorem pc_L_law_l90 : pc_L_law_p90.length = 2160 := by rw [pc_L_law_p90, List.length_append, pc_L_law_l89]; rfl
theorem pc_L_law_l91 : pc_L_law_p91.length = 2184 := by rw [pc_L_law_p91, List.length_append, pc_L_law_l90]; rfl
theorem pc_L_law_l92 : pc_L_law_p92.length = 2208 := by rw [pc_L_law_p92, List.length_append, pc_L_law_l91]; rfl
theorem pc_L_law_l93 : pc_L_law_p93.length = 2232 := by rw [pc_L_law_p93, List.length_append, pc_L_law_l92]; rfl
theorem pc_L_law_l94 : pc_L_law_p94.length = 2256 := by rw [pc_L_law_p94, List.length_append, pc_L_law_l93]; rfl
theorem pc_L_law_l95 : pc_L_law_p95.length = 2280 := by rw [pc_L_law_p95, List.length_append, pc_L_law_l94]; rfl
theorem pc_L_law_l96 : pc_L_law_p96.length = 2304 := by rw [pc_L_law_p96, List.length_append, pc_L_law_l95]; rfl
theorem pc_L_law_l97 : pc_L_law_p97.length = 2328 := by rw [pc_L_law_p97, List.length_append, pc_L_law_l96]; rfl
theorem pc_L_law_l98 : pc_L_law_p98.length = 2352 := by rw [pc_L_law_p98, List.length_append, pc_L_law_l97]; rfl
theorem pc_L_law_l99 : pc_L_law_p99.length = 2376 := by rw [pc_L_law_p99, List.length_append, pc_L_law_l98]; rfl
theorem pc_L_law_l100 : pc_L_law_p100.length = 2400 := by rw [pc_L_law_p100, List.length_append, pc_L_law_l99]; rfl
theorem pc_L_law_l101 : pc_L_law_p101.length = 2424 := by rw [pc_L_law_p101, List.length_append, pc_L_law_l100]; rfl
theorem pc_L_law_l102 : pc_L_law_p102.length = 2448 := by rw [pc_L_law_p102, List.length_append, pc_L_law_l101]; rfl
theorem pc_L_law_l103 : pc_L_law_p103.length = 2472 := by rw [pc_L_law_p103, List.length_append, pc_L_law_l102]; rfl
theorem pc_L_law_l104 : pc_L_law_p104.length = 2496 := by rw [pc_L_law_p104, List.length_append, pc_L_law_l103]; rfl
theorem pc_L_law_l105 : pc_L_law_p105.length = 2520 := by rw [pc_L_law_p105, List.length_append, pc_L_law_l104]; rfl
theorem pc_L_law_l106 : pc_L_law_p106.length = 2544 := by rw [pc_L_law_p106, List.length_append, pc_L_law_l105]; rfl
theorem pc_L_law_l107 : pc_L_law_p107.length = 2568 := by rw [pc_L_law_p107, List.length_append, pc_L_law_l106]; rfl
theorem pc_L_law_l108 : pc_L_law_p108.length = 2592 := by rw [pc_L_law_p108, List.length_append, pc_L_law_l107]; rfl
theorem pc_L_law_l109 : pc_L_law_p109.length = 2616 := by rw [pc_L_law_p109, List.length_append, pc_L_law_l108]; rfl
theorem pc_L_law_l110 : pc_L_law_p110.length = 2640 := by rw [pc_L_law_p110, List.length_append, pc_L_law_l109]; rfl
theorem pc_L_law_l111 : pc_L_law_p111.length = 2664 := by rw [pc_L_law_p111, List.length_append, pc_L_law_l110]; rfl
theorem pc_L_law_l112 : pc_L_law_p112.length = 2688 := by rw [pc_L_law_p112, List.length_append, pc_L_law_l111]; rfl
theorem pc_L_law_l113 : pc_L_law_p113.length = 2712 := by rw [pc_L_law_p113, List.length_append, pc_L_law_l112]; rfl
theorem pc_L_law_l114 : pc_L_law_p114.length = 2736 := by rw [pc_L_law_p114, List.length_append, pc_L_law_l113]; rfl
theorem pc_L_law_l115 : pc_L_law_p115.length = 2760 := by rw [pc_L_law_p115, List.length_append, pc_L_law_l114]; rfl
theorem pc_L_law_l116 : pc_L_law_p116.length = 2784 := by rw [pc_L_law_p116, List.length_append, pc_L_law_l115]; rfl
theorem pc_L_law_l117 : pc_L_law_p117.length = 2808 := by rw [pc_L_law_p117, List.length_append, pc_L_law_l116]; rfl
theorem pc_L_law_l118 : pc_L_law_p118.length = 2832 := by rw [pc_L_law_p118, List.length_append, pc_L_law_l117]; rfl
theorem pc_L_law_l119 : pc_L_law_p119.length = 2856 := by rw [pc_L_law_p119, List.length_append, pc_L_law_l118]; rfl
theorem pc_L_law_l120 : pc_L_law_p120.length = 2880 := by rw [pc_L_law_p120, List.length_append, pc_L_law_l119]; rfl
theorem pc_L_law_l121 : pc_L_law_p121.length = 2904 := by rw [pc_L_law_p121, List.length_append, pc_L_law_l120]; rfl
theorem pc_L_law_l122 : pc_L_law_p122.length = 2928 := by rw [pc_L_law_p122, List.length_append, pc_L_law_l121]; rfl
theorem pc_L_law_l123 : pc_L_law_p123.length = 2952 := by rw [pc_L_law_p123, List.length_append, pc_L_law_l122]; rfl
theorem pc_L_law_l124 : pc_L_law_p124.length = 2976 := by rw [pc_L_law_p124, List.length_append, pc_L_law_l123]; rfl
def pc_L_law_w0 : ByteArray := ⟨(pc_L_law_0 ++ pc_L_law_1).toArray⟩
theorem pc_L_law_a0 : dc_Ag cL_law pc_L_law_w0 0 := dc_ag (dc_two pc_L_law_e0) pc_L_law_l0
def pc_L_law_w1 : ByteArray := ⟨(pc_L_law_1 ++ pc_L_law_2).toArray⟩
theorem pc_L_law_a1 : dc_Ag cL_law pc_L_law_w1 24 := dc_ag (dc_two pc_L_law_e1) pc_L_law_l1
def pc_L_law_w2 : ByteArray := ⟨(pc_L_law_2 ++ pc_L_law_3).toArray⟩
theorem pc_L_law_a2 : dc_Ag cL_law pc_L_law_w2 48 := dc_ag (dc_two pc_L_law_e2) pc_L_law_l2
def pc_L_law_w3 : ByteArray := ⟨(pc_L_law_3 ++ pc_L_law_4).toArray⟩
theorem pc_L_law_a3 : dc_Ag cL_law pc_L_law_w3 72 := dc_ag (dc_two pc_L_law_e3) pc_L_law_l3
def pc_L_law_w4 : ByteArray := ⟨(pc_L_law_4 ++ pc_L_law_5).toArray⟩
theorem pc_L_law_a4 : dc_Ag cL_law pc_L_law_w4 96 := dc_ag (dc_two pc_L_law_e4) pc_L_law_l4
def pc_L_law_w5 : ByteArray := ⟨(pc_L_law_5 ++ pc_L_law_6).toArray⟩
theorem pc_L_law_a5 : dc_Ag cL_law pc_L_law_w5 120 := dc_ag (dc_two pc_L_law_e5) pc_L_law_l5
def pc_L_law_w6 : ByteArray := ⟨(pc_L_law_6 ++ pc_L_law_7).toArray⟩
theorem pc_L_law_a6 : dc_Ag cL_law pc_L_law_w6 144 := dc_ag (dc_two pc_L_law_e6) pc_L_law_l6
def pc_L_law_w7 : ByteArray := ⟨(pc_L_law_7 ++ pc_L_law_8).toArray⟩
theorem pc_L_law_a7 : dc_Ag cL_law pc_L_law_w7 168 := dc_ag (dc_two pc_L_law_e7) pc_L_law_l7
def pc_L_law_w8 : ByteArray := ⟨(pc_L_law_8 ++ pc_L_law_9).toArray⟩
theorem pc_L_law_a8 : dc_Ag cL_law pc_L_law_w8 192 := dc_ag (dc_two pc_L_law_e8) pc_L_law_l8
def pc_L_law_w9 : ByteArray := ⟨(pc_L_law_9 ++ pc_L_law_10).toArray⟩
theorem pc_L_law_a9 : dc_Ag cL_law pc_L_law_w9 216 := dc_ag (dc_two pc_L_law_e9) pc_L_law_l9
def pc_L_law_w10 : ByteArray := ⟨(pc_L_law_10 ++ pc_L_law_11).toArray⟩
theorem pc_L_law_a10 : dc_Ag cL_law pc_L_law_w10 240 := dc_ag (dc_two pc_L_law_e10) pc_L_law_l10
def pc_L_law_w11 : ByteArray := ⟨(pc_L_law_11 ++ pc_L_law_12).toArray⟩
theorem pc_L_law_a11 : dc_Ag cL_law pc_L_law_w11 264 := dc_ag (dc_two pc_L_law_e11) pc_L_law_l11
def pc_L_law_w12 : ByteArray := ⟨(pc_L_law_12 ++ pc_L_law_13).toArray⟩
theorem pc_L_law_a12 : dc_Ag cL_law pc_L_law_w12 288 := dc_ag (dc_two pc_L_law_e12) pc_L_law_l12
def pc_L_law_w13 : ByteArray := ⟨(pc_L_law_13 ++ pc_L_law_14).toArray⟩
theorem pc_L_law_a13 : dc_Ag cL_law pc_L_law_w13 312 := dc_ag (dc_two pc_L_law_e13) pc_L_law_l13
def pc_L_law_w14 : ByteArray := ⟨(pc_L_law_14 ++ pc_L_law_15).toArray⟩
theorem pc_L_law_a14 : dc_Ag cL_law pc_L_law_w14 336 := dc_ag (dc_two pc_L_law_e14) pc_L_law_l14
def pc_L_law_w15 : ByteArray := ⟨(pc_L_law_15 ++ pc_L_law_16).toArray⟩
theorem pc_L_law_a15 : dc_Ag cL_law pc_L_law_w15 360 := dc_ag (dc_two pc_L_law_e15) pc_L_law_l15
def pc_L_law_w16 : ByteArray := ⟨(pc_L_law_16 ++ pc_L_law_17).toArray⟩
theorem pc_L_law_a16 : dc_Ag cL_law pc_L_law_w16 384 := dc_ag (dc_two pc_L_law_e16) pc_L_law_l16
def pc_L_law_w17 : ByteArray := ⟨(pc_L_law_17 ++ pc_L_law_18).toArray⟩
theorem pc_L_law_a17 : dc_Ag cL_law pc_L_law_w17 408 := dc_ag (dc_two pc_L_law_e17) pc_L_law_l17
def pc_L_law_w18 : ByteArray := ⟨(pc_L_law_18 ++ pc_L_law_19).toArray⟩
theorem pc_L_law_a18 : dc_Ag cL_law pc_L_law_w18 432 := dc_ag (dc_two pc_L_law_e18) pc_L_law_l18
def pc_L_law_w19 : ByteArray := ⟨(pc_L_law_19 ++ pc_L_law_20).toArray⟩
theorem pc_L_law_a19 : dc_Ag cL_law pc_L_law_w19 456 := dc_ag (dc_two pc_L_law_e19) pc_L_law_l19
def pc_L_law_w20 : ByteArray := ⟨(pc_L_law_20 ++ pc_L_law_21).toArray⟩
theorem pc_L_law_a20 : dc_Ag cL_law pc_L_law_w20 480 := dc_ag (dc_two pc_L_law_e20) pc_L_law_l20
def pc_L_law_w21 : ByteArray := ⟨(pc_L_law_21 ++ pc_L_law_22).toArray⟩
theorem pc_L_law_a21 : dc_Ag cL_law pc_L_law_w21 504 := dc_ag (dc_two pc_L_law_e21) pc_L_law_l21
def pc_L_law_w22 : ByteArray := ⟨(pc_L_law_22 ++ pc_L_law_23).toArray⟩
theorem pc_L_law_a22 : dc_Ag cL_law pc_L_law_w22 528 := dc_ag (dc_two pc_L_law_e22) pc_L_law_l22
def pc_L_law_w23 : ByteArray := ⟨(pc_L_law_23 ++ pc_L_law_24).toArray⟩
theorem pc_L_law_a23 : dc_Ag cL_law pc_L_law_w23 552 := dc_ag (dc_two pc_L_law_e23) pc_L_law_l23
def pc_L_law_w24 : ByteArray := ⟨(pc_L_law_24 ++ pc_L_law_25).toArray⟩
theorem pc_L_law_a24 : dc_Ag cL_law pc_L_law_w24 576 := dc_ag (dc_two pc_L_law_e24) pc_L_law_l24
def pc_L_law_w25 : ByteArray := ⟨(pc_L_law_25 ++ pc_L_law_26).toArray⟩
theorem pc_L_law_a25 : dc_Ag cL_law pc_L_law_w25 600 := dc_ag (dc_two pc_L_law_e25) pc_L_law_l25
def pc_L_law_w26 : ByteArray := ⟨(pc_L_law_26 ++ pc_L_law_27).toArray⟩
theorem pc_L_law_a26 : dc_Ag cL_law pc_L_law_w26 624 := dc_ag (dc_two pc_L_law_e26) pc_L_law_l26
def pc_L_law_w27 : ByteArray := ⟨(pc_L_law_27 ++ pc_L_law_28).toArray⟩
theorem pc_L_law_a27 : dc_Ag cL_law pc_L_law_w27 648 := dc_ag (dc_two pc_L_law_e27) pc_L_law_l27
def pc_L_law_w28 : ByteArray := ⟨(pc_L_law_28 ++ pc_L_law_29).toArray⟩
theorem pc_L_law_a28 : dc_Ag cL_law pc_L_law_w28 672 := dc_ag (dc_two pc_L_law_e28) pc_L_law_l28
def pc_L_law_w29 : ByteArray := ⟨(pc_L_law_29 ++ pc_L_law_30).toArray⟩
theorem pc_L_law_a29 : dc_Ag cL_law pc_L_law_w29 696 := dc_ag (dc_two pc_L_law_e29) pc_L_law_l29
def pc_L_law_w30 : ByteArray := ⟨(pc_L_law_30 ++ pc_L_law_31).toArray⟩
theorem pc_L_law_a30 : dc_Ag cL_law pc_L_law_w30 720 := dc_ag (dc_two pc_L_law_e30) pc_L_law_l30
def pc_L_law_w31 : ByteArray := ⟨(pc_L_law_31 ++ pc_L_law_32).toArray⟩
theorem pc_L_law_a31 : dc_Ag cL_law pc_L_law_w31 744 := dc_ag (dc_two pc_L_law_e31) pc_L_law_l31
def pc_L_law_w32 : ByteArray := ⟨(pc_L_law_32 ++ pc_L_law_33).toArray⟩
theorem pc_L_law_a32 : dc_Ag cL_law pc_L_law_w32 768 := dc_ag (dc_two pc_L_law_e32) pc_L_law_l32
def pc_L_law_w33 : ByteArray := ⟨(pc_L_law_33 ++ pc_L_law_34).toArray⟩
theorem pc_L_law_a33 : dc_Ag cL_law pc_L_law_w33 792 := dc_ag (dc_two pc_L_law_e33) pc_L_law_l33
def pc_L_law_w34 : ByteArray := ⟨(pc_L_law_34 ++ pc_L_law_35).toArray⟩
theorem pc_L_law_a34 : dc_Ag cL_law pc_L_law_w34 816 := dc_ag (dc_two pc_L_law_e34) pc_L_law_l34
def pc_L_law_w35 : ByteArray := ⟨(pc_L_law_35 ++ pc_L_law_36).toArray⟩
theorem pc_L_law_a35 : dc_Ag cL_law pc_L_law_w35 840 := dc_ag (dc_two pc_L_law_e35) pc_L_law_l35
def pc_L_law_w36 : ByteArray := ⟨(pc_L_law_36 ++ pc_L_law_37).toArray⟩
theorem pc_L_law_a36 : dc_Ag cL_law pc_L_law_w36 864 := dc_ag (dc_two pc_L_law_e36) pc_L_law_l36
def pc_L_law_w37 : ByteArray := ⟨(pc_L_law_37 ++ pc_L_law_38).toArray⟩
theorem pc_L_law_a37 : dc_Ag cL_law pc_L_law_w37 888 := dc_ag (dc_two pc_L_law_e37) pc_L_law_l37
def pc_L_law_w38 : ByteArray := ⟨(pc_L_law_38 ++ pc_L_law_39).toArray⟩
theorem pc_L_law_a38 : dc_Ag cL_law pc_L_law_w38 912 := dc_ag (dc_two pc_L_law_e38) pc_L_law_l38
def pc_L_law_w39 : ByteArray := ⟨(pc_L_law_39 ++ pc_L_law_40).toArray⟩
theorem pc_L_law_a39 : dc_Ag cL_law pc_L_law_w39 936 := dc_ag (dc_two pc_L_law_e39) pc_L_law_l39
def pc_L_law_w40 : ByteArray := ⟨(pc_L_law_40 ++ pc_L_law_41).toArray⟩
theorem pc_L_law_a40 : dc_Ag cL_law pc_L_law_w40 960 := dc_ag (dc_two pc_L_law_e40) pc_L_law_l40
def pc_L_law_w41 : ByteArray := ⟨(pc_L_law_41 ++ pc_L_law_42).toArray⟩
theorem pc_L_law_a41 : dc_Ag cL_law pc_L_law_w41 984 := dc_ag (dc_two pc_L_law_e41) pc_L_law_l41
def pc_L_law_w42 : ByteArray := ⟨(pc_L_law_42 ++ pc_L_law_43).toArray⟩
theorem pc_L_law_a42 : dc_Ag cL_law pc_L_law_w42 1008 := dc_ag (dc_two pc_L_law_e42) pc_L_law_l42
def pc_L_law_w43 : ByteArray := ⟨(pc_L_law_43 ++ pc_L_law_44).toArray⟩
theorem pc_L_law_a43 : dc_Ag cL_law pc_L_law_w43 1032 := dc_ag (dc_two pc_L_law_e43) pc_L_law_l43
def pc_L_law_w44 : ByteArray := ⟨(pc_L_law_44 ++ pc_L_law_45).toArray⟩
theorem pc_L_law_a44 : dc_Ag cL_law pc_L_law_w44 1056 := dc_ag (dc_two pc_L_law_e44) pc_L_law_l44
def pc_L_law_w45 : ByteArray := ⟨(pc_L_law_45 ++ pc_L_law_46).toArray⟩
theorem pc_L_law_a45 : dc_Ag cL_law pc_L_law_w45 1080 := dc_ag (dc_two pc_L_law_e45) pc_L_law_l45
def pc_L_law_w46 : ByteArray := ⟨(pc_L_law_46 ++ pc_L_law_47).toArray⟩
theorem pc_L_law_a46 : dc_Ag cL_law pc_L_law_w46 1104 := dc_ag (dc_two pc_L_law_e46) pc_L_law_l46
def pc_L_law_w47 : ByteArray := ⟨(pc_L_law_47 ++ pc_L_law_48).toArray⟩
theorem pc_L_law_a47 : dc_Ag cL_law pc_L_law_w47 1128 := dc_ag (dc_two pc_L_law_e47) pc_L_law_l47
def pc_L_law_w48 : ByteArray := ⟨(pc_L_law_48 ++ pc_L_law_49).toArray⟩
theorem pc_L_law_a48 : dc_Ag cL_law pc_L_law_w48 1152 := dc_ag (dc_two pc_L_law_e48) pc_L_law_l48
def pc_L_law_w49 : ByteArray := ⟨(pc_L_law_49 ++ pc_L_law_50).toArray⟩
theorem pc_L_law_a49 : dc_Ag cL_law pc_L_law_w49 1176 := dc_ag (dc_two pc_L_law_e49) pc_L_law_l49
def pc_L_law_w50 : ByteArray := ⟨(pc_L_law_50 ++ pc_L_law_51).toArray⟩
theorem pc_L_law_a50 : dc_Ag cL_law pc_L_law_w50 1200 := dc_ag (dc_two pc_L_law_e50) pc_L_law_l50
def pc_L_law_w51 : ByteArray := ⟨(pc_L_law_51 ++ pc_L_law_52).toArray⟩
theorem pc_L_law_a51 : dc_Ag cL_law pc_L_law_w51 1224 := dc_ag (dc_two pc_L_law_e51) pc_L_law_l51
def pc_L_law_w52 : ByteArray := ⟨(pc_L_law_52 ++ pc_L_law_53).toArray⟩
theorem pc_L_law_a52 : dc_Ag cL_law pc_L_law_w52 1248 := dc_ag (dc_two pc_L_law_e52) pc_L_law_l52
def pc_L_law_w53 : ByteArray := ⟨(pc_L_law_53 ++ pc_L_law_54).toArray⟩
theorem pc_L_law_a53 : dc_Ag cL_law pc_L_law_w53 1272 := dc_ag (dc_two pc_L_law_e53) pc_L_law_l53
def pc_L_law_w54 : ByteArray := ⟨(pc_L_law_54 ++ pc_L_law_55).toArray⟩
theorem pc_L_law_a54 : dc_Ag cL_law pc_L_law_w54 1296 := dc_ag (dc_two pc_L_law_e54) pc_L_law_l54
def pc_L_law_w55 : ByteArray := ⟨(pc_L_law_55 ++ pc_L_law_56).toArray⟩
theorem pc_L_law_a55 : dc_Ag cL_law pc_L_law_w55 1320 := dc_ag (dc_two pc_L_law_e55) pc_L_law_l55
def pc_L_law_w56 : ByteArray := ⟨(pc_L_law_56 ++ pc_L_law_57).toArray⟩
theorem pc_L_law_a56 : dc_Ag cL_law pc_L_law_w56 1344 := dc_ag (dc_two pc_L_law_e56) pc_L_law_l56
def pc_L_law_w57 : ByteArray := ⟨(pc_L_law_57 ++ pc_L_law_58).toArray⟩
theorem pc_L_law_a57 : dc_Ag cL_law pc_L_law_w57 1368 := dc_ag (dc_two pc_L_law_e57) pc_L_law_l57
def pc_L_law_w58 : ByteArray := ⟨(pc_L_law_58 ++ pc_L_law_59).toArray⟩
theorem pc_L_law_a58 : dc_Ag cL_law pc_L_law_w58 1392 := dc_ag (dc_two pc_L_law_e58) pc_L_law_l58
def pc_L_law_w59 : ByteArray := ⟨(pc_L_law_59 ++ pc_L_law_60).toArray⟩
theorem pc_L_law_a59 : dc_Ag cL_law pc_L_law_w59 1416 := dc_ag (dc_two pc_L_law_e59) pc_L_law_l59
def pc_L_law_w60 : ByteArray := ⟨(pc_L_law_60 ++ pc_L_law_61).toArray⟩
theorem pc_L_law_a60 : dc_Ag cL_law pc_L_law_w60 1440 := dc_ag (dc_two pc_L_law_e60) pc_L_law_l60
def pc_L_law_w61 : ByteArray := ⟨(pc_L_law_61 ++ pc_L_law_62).toArray⟩
theorem pc_L_law_a61 : dc_Ag cL_law pc_L_law_w61 1464 := dc_ag (dc_two pc_L_law_e61) pc_L_law_l61
def pc_L_law_w62 : ByteArray := ⟨(pc_L_law_62 ++ pc_L_law_63).toArray⟩
theorem pc_L_law_a62 : dc_Ag cL_law pc_L_law_w62 1488 := dc_ag (dc_two pc_L_law_e62) pc_L_law_l62
def pc_L_law_w63 : ByteArray := ⟨(pc_L_law_63 ++ pc_L_law_64).toArray⟩
theorem pc_L_law_a63 : dc_Ag cL_law pc_L_law_w63 1512 := dc_ag (dc_two pc_L_law_e63) pc_L_law_l63
def pc_L_law_w64 : ByteArray := ⟨(pc_L_law_64 ++ pc_L_law_65).toArray⟩
theorem pc_L_law_a64 : dc_Ag cL_law pc_L_law_w64 1536 := dc_ag (dc_two pc_L_law_e64) pc_L_law_l64
def pc_L_law_w65 : ByteArray := ⟨(pc_L_law_65 ++ pc_L_law_66).toArray⟩
theorem pc_L_law_a65 : dc_Ag cL_law pc_L_law_w65 1560 := dc_ag (dc_two pc_L_law_e65) pc_L_law_l65
def pc_L_law_w66 : ByteArray := ⟨(pc_L_law_66 ++ pc_L_law_67).toArray⟩
theorem pc_L_law_a66 : dc_Ag cL_law pc_L_law_w66 1584 := dc_ag (dc_two pc_L_law_e66) pc_L_law_l66
def pc_L_law_w67 : ByteArray := ⟨(pc_L_law_67 ++ pc_L_law_68).toArray⟩
theorem pc_L_law_a67 : dc_Ag cL_law pc_L_law_w67 1608 := dc_ag (dc_two pc_L_law_e67) pc_L_law_l67
def pc_L_law_w68 : ByteArray := ⟨(pc_L_law_68 ++ pc_L_law_69).toArray⟩
theorem pc_L_law_a68 : dc_Ag cL_law pc_L_law_w68 1632 := dc_ag (dc_two pc_L_law_e68) pc_L_law_l68
def pc_L_law_w69 : ByteArray := ⟨(pc_L_law_69 ++ pc_L_law_70).toArray⟩
theorem pc_L_law_a69 : dc_Ag cL_law pc_L_law_w69 1656 := dc_ag (dc_two pc_L_law_e69) pc_L_law_l69
def pc_L_law_w70 : ByteArray := ⟨(pc_L_law_70 ++ pc_L_law_71).toArray⟩
theorem pc_L_law_a70 : dc_Ag cL_law pc_L_law_w70 1680 := dc_ag (dc_two pc_L_law_e70) pc_L_law_l70
def pc_L_law_w71 : ByteArray := ⟨(pc_L_law_71 ++ pc_L_law_72).toArray⟩
theorem pc_L_law_a71 : dc_Ag cL_law pc_L_law_w71 1704 := dc_ag (dc_two pc_L_law_e71) pc_L_law_l71
def pc_L_law_w72 : ByteArray := ⟨(pc_L_law_72 ++ pc_L_law_73).toArray⟩
theorem pc_L_law_a72 : dc_Ag cL_law pc_L_law_w72 1728 := dc_ag (dc_two pc_L_law_e72) pc_L_law_l72
def pc_L_law_w73 : ByteArray := ⟨(pc_L_law_73 ++ pc_L_law_74).toArray⟩
theorem pc_L_law_a73 : dc_Ag cL_law pc_L_law_w73 1752 := dc_ag (dc_two pc_L_law_e73) pc_L_law_l73
def pc_L_law_w74 : ByteArray := ⟨(pc_L_law_74 ++ pc_L_law_75).toArray⟩
theorem pc_L_law_a74 : dc_Ag cL_law pc_L_law_w74 1776 := dc_ag (dc_two pc_L_law_e74) pc_L_law_l74
def pc_L_law_w75 : ByteArray := ⟨(pc_L_law_75 ++ pc_L_law_76).toArray⟩
theorem pc_L_law_a75 : dc_Ag cL_law pc_L_law_w75 1800 := dc_ag (dc_two pc_L_law_e75) pc_L_law_l75
def pc_L_law_w76 : ByteArray := ⟨(pc_L_law_76 ++ pc_L_law_77).toArray⟩
theorem pc_L_law_a76 : dc_Ag cL_law pc_L_law_w76 1824 := dc_ag (dc_two pc_L_law_e76) pc_L_law_l76
def pc_L_law_w77 : ByteArray := ⟨(pc_L_law_77 ++ pc_L_law_78).toArray⟩
theorem pc_L_law_a77 : dc_Ag cL_law pc_L_law_w77 1848 := dc_ag (dc_two pc_L_law_e77) pc_L_law_l77
def pc_L_law_w78 : ByteArray := ⟨(pc_L_law_78 ++ pc_L_law_79).toArray⟩
theorem pc_L_law_a78 : dc_Ag cL_law pc_L_law_w78 1872 := dc_ag (dc_two pc_L_law_e78) pc_L_law_l78
def pc_L_law_w79 : ByteArray := ⟨(pc_L_law_79 ++ pc_L_law_80).toArray⟩
theorem pc_L_law_a79 : dc_Ag cL_law pc_L_law_w79 1896 := dc_ag (dc_two pc_L_law_e79) pc_L_law_l79
def pc_L_law_w80 : ByteArray := ⟨(pc_L_law_80 ++ pc_L_law_81).toArray⟩
theorem pc_L_law_a80 : dc_Ag cL_law pc_L_law_w80 1920 := dc_ag (dc_two pc_L_law_e80) pc_L_law_l80
def pc_L_law_w81 : ByteArray := ⟨(pc_L_law_81 ++ pc_L_law_82).toArray⟩
theorem pc_L_law_a81 : dc_Ag cL_law pc_L_law_w81 1944 := dc_ag (dc_two pc_L_law_e81) pc_L_law_l81
def pc_L_law_w82 : ByteArray := ⟨(pc_L_law_82 ++ pc_L_law_83).toArray⟩
theorem pc_L_law_a82 : dc_Ag cL_law pc_L_law_w82 1968 := dc_ag (dc_two pc_L_law_e82) pc_L_law_l82
def pc_L_law_w83 : ByteArray := ⟨(pc_L_law_83 ++ pc_L_law_84).toArray⟩
theorem pc_L_law_a83 : dc_Ag cL_law pc_L_law_w83 1992 := dc_ag (dc_two pc_L_law_e83) pc_L_law_l83
def pc_L_law_w84 : ByteArray := ⟨(pc_L_law_84 ++ pc_L_law_85).toArray⟩
theorem pc_L_law_a84 : dc_Ag cL_law pc_L_law_w84 2016 := dc_ag (dc_two pc_L_law_e84) pc_L_law_l84
def pc_L_law_w85 : ByteArray := ⟨(pc_L_law_85 ++ pc_L_law_86).toArray⟩
theorem pc_L_law_a85 : dc_Ag cL_law pc_L_law_w85 2040 := dc_ag (dc_two pc_L_law_e85) pc_L_law_l85
def pc_L_law_w86 : ByteArray := ⟨(pc_L_law_86 ++ pc_L_law_87).toArray⟩
theorem pc_L_law_a86 : dc_Ag cL_law pc_L_law_w86 2064 := dc_ag (dc_two pc_L_law_e86) pc_L_law_l86
def pc_L_law_w87 : ByteArray := ⟨(pc_L_law_87 ++ pc_L_law_88).toArray⟩
theorem pc_L_law_a87 : dc_Ag cL_law pc_L_law_w87 2088 := dc_ag (dc_two pc_L_law_e87) pc_L_law_l87
def pc_L_law_w88 : ByteArray := ⟨(pc_L_law_88 ++ pc_L_law_89).toArray⟩
theorem pc_L_law_a88 : dc_Ag cL_law pc_L_law_w88 2112 := dc_ag (dc_two pc_L_law_e88) pc_L_law_l88
def pc_L_law_w89 : ByteArray := ⟨(pc_L_law_89 ++ pc_L_law_90).toArray⟩
theorem pc_L_law_a89 : dc_Ag cL_law pc_L_law_w89 2136 := dc_ag (dc_two pc_L_law_e89) pc_L_law_l89
def pc_L_law_w90 : ByteArray := ⟨(pc_L_law_90 ++ pc_L_law_91).toArray⟩
theorem pc_L_law_a90 : dc_Ag cL_law pc_L_law_w90 2160 := dc_ag (dc_two pc_L_law_e90) pc_L_law_l90
def pc_L_law_w91 : ByteArray := ⟨(pc_L_law_91 ++ pc_L_law_92).toArray⟩
theorem pc_L_law_a91 : dc_Ag cL_law pc_L_law_w91 2184 := dc_ag (dc_two pc_L_law_e91) pc_L_law_l91
def pc_L_law_w92 : ByteArray := ⟨(pc_L_law_92 ++ pc_L_law_93).toArray⟩
theorem pc_L_law_a92 : dc_Ag cL_law pc_L_law_w92 2208 := dc_ag (dc_two pc_L_law_e92) pc_L_law_l92
def pc_L_law_w93 : ByteArray := ⟨(pc_L_law_93 ++ pc_L_law_94).toArray⟩
theorem pc_L_law_a93 : dc_Ag cL_law pc_L_law_w93 2232 := dc_ag (dc_two pc_L_law_e93) pc_L_law_l93
def pc_L_law_w94 : ByteArray := ⟨(pc_L_law_94 ++ pc_L_law_95).toArray⟩
theorem pc_L_law_a94 : dc_Ag cL_law pc_L_law_w94 2256 := dc_ag (dc_two pc_L_law_e94) pc_L_law_l94
def pc_L_law_w95 : ByteArray := ⟨(pc_L_law_95 ++ pc_L_law_96).toArray⟩
theorem pc_L_law_a95 : dc_Ag cL_law pc_L_law_w95 2280 := dc_ag (dc_two pc_L_law_e95) pc_L_law_l95
def pc_L_law_w96 : ByteArray := ⟨(pc_L_law_96 ++ pc_L_law_97).toArray⟩
theorem pc_L_law_a96 : dc_Ag cL_law pc_L_law_w96 2304 := dc_ag (dc_two pc_L_law_e96) pc_L_law_l96
def pc_L_law_w97 : ByteArray := ⟨(pc_L_law_97 ++ pc_L_law_98).toArray⟩
theorem pc_L_law_a97 : dc_Ag cL_law pc_L_law_w97 2328 := dc_ag (dc_two pc_L_law_e97) pc_L_law_l97
def pc_L_law_w98 : ByteArray := ⟨(pc_L_law_98 ++ pc_L_law_99).toArray⟩
theorem pc_L_law_a98 : dc_Ag cL_law pc_L_law_w98 2352 := dc_ag (dc_two pc_L_law_e98) pc_L_law_l98
def pc_L_law_w99 : ByteArray := ⟨(pc_L_law_99 ++ pc_L_law_100).toArray⟩
theorem pc_L_law_a99 : dc_Ag cL_law pc_L_law_w99 2376 := dc_ag (dc_two pc_L_law_e99) pc_L_law_l99
def pc_L_law_w100 : ByteArray := ⟨(pc_L_law_100 ++ pc_L_law_101).toArray⟩
theorem pc_L_law_a100 : dc_Ag cL_law pc_L_law_w100 2400 := dc_ag (dc_two pc_L_law_e100) pc_L_law_l100
def pc_L_law_w101 : ByteArray := ⟨(pc_L_law_101 ++ pc_L_law_102).toArray⟩
theorem pc_L_law_a101 : dc_Ag cL_law pc_L_law_w101 2424 := dc_ag (dc_two pc_L_law_e101) pc_L_law_l101
def pc_L_law_w102 : ByteArray := ⟨(pc_L_law_102 ++ pc_L_law_103).toArray⟩
theorem pc_L_law_a102 : dc_Ag cL_law pc_L_law_w102 2448 := dc_ag (dc_two pc_L_law_e102) pc_L_law_l102
def pc_L_law_w103 : ByteArray := ⟨(pc_L_law_103 ++ pc_L_law_104).toArray⟩
theorem pc_L_law_a103 : dc_Ag cL_law pc_L_law_w103 2472 := dc_ag (dc_two pc_L_law_e103) pc_L_law_l103
def pc_L_law_w104 : ByteArray := ⟨(pc_L_law_104 ++ pc_L_law_105).toArray⟩
theorem pc_L_law_a104 : dc_Ag cL_law pc_L_law_w104 2496 := dc_ag (dc_two pc_L_law_e104) pc_L_law_l104
def pc_L_law_w105 : ByteArray := ⟨(pc_L_law_105 ++ pc_L_law_106).toArray⟩
theorem pc_L_law_a105 : dc_Ag cL_law pc_L_law_w105 2520 := dc_ag (dc_two pc_L_law_e105) pc_L_law_l105
def pc_L_law_w106 : ByteArray := ⟨(pc_L_law_106 ++ pc_L_law_107).toArray⟩
theorem pc_L_law_a106 : dc_Ag cL_law pc_L_law_w106 2544 := dc_ag (dc_two pc_L_law_e106) pc_L_law_l106
def pc_L_law_w107 : ByteArray := ⟨(pc_L_law_107 ++ pc_L_law_108).toArray⟩
theorem pc_L_law_a107 : dc_Ag cL_law pc_L_law_w107 2568 := dc_ag (dc_two pc_L_law_e107) pc_L_law_l107
def pc_L_law_w108 : ByteArray := ⟨(pc_L_law_108 ++ pc_L_law_109).toArray⟩
theorem pc_L_law_a108 : dc_Ag cL_law pc_L_law_w108 2592 := dc_ag (dc_two pc_L_law_e108) pc_L_law_l108
def pc_L_law_w109 : ByteArray := ⟨(pc_L_law_109 ++ pc_L_law_110).toArray⟩
theorem pc_L_law_a109 : dc_Ag cL_law pc_L_law_w109 2616 := dc_ag (dc_two pc_L_law_e109) pc_L_law_l109
def pc_L_law_w110 : ByteArray := ⟨(pc_L_law_110 ++ pc_L_law_111).toArray⟩
theorem pc_L_law_a110 : dc_Ag cL_law pc_L_law_w110 2640 := dc_ag (dc_two pc_L_law_e110) pc_L_law_l110
def pc_L_law_w111 : ByteArray := ⟨(pc_L_law_111 ++ pc_L_law_112).toArray⟩
theorem pc_L_law_a111 : dc_Ag cL_law pc_L_law_w111 2664 := dc_ag (dc_two pc_L_law_e111) pc_L_law_l111
def pc_L_law_w112 : ByteArray := ⟨(pc_L_law_112 ++ pc_L_law_113).toArray⟩
theorem pc_L_law_a112 : dc_Ag cL_law pc_L_law_w112 2688 := dc_ag (dc_two pc_L_law_e112) pc_L_law_l112
def pc_L_law_w113 : ByteArray := ⟨(pc_L_law_113 ++ pc_L_law_114).toArray⟩
theorem pc_L_law_a113 : dc_Ag cL_law pc_L_law_w113 2712 := dc_ag (dc_two pc_L_law_e113) pc_L_law_l113
def pc_L_law_w114 : ByteArray := ⟨(pc_L_law_114 ++ pc_L_law_115).toArray⟩
theorem pc_L_law_a114 : dc_Ag cL_law pc_L_law_w114 2736 := dc_ag (dc_two pc_L_law_e114) pc_L_law_l114
def pc_L_law_w115 : ByteArray := ⟨(pc_L_law_115 ++ pc_L_law_116).toArray⟩
theorem pc_L_law_a115 : dc_Ag cL_law pc_L_law_w115 2760 := dc_ag (dc_two pc_L_law_e115) pc_L_law_l115
def pc_L_law_w116 : ByteArray := ⟨(pc_L_law_116 ++ pc_L_law_117).toArray⟩
theorem pc_L_law_a116 : dc_Ag cL_law pc_L_law_w116 2784 := dc_ag (dc_two pc_L_law_e116) pc_L_law_l116
def pc_L_law_w117 : ByteArray := ⟨(pc_L_law_117 ++ pc_L_law_118).toArray⟩
theorem pc_L_law_a117 : dc_Ag cL_law pc_L_law_w117 2808 := dc_ag (dc_two pc_L_law_e117) pc_L_law_l117
def pc_L_law_w118 : ByteArray := ⟨(pc_L_law_118 ++ pc_L_law_119).toArray⟩
theorem pc_L_law_a118 : dc_Ag cL_law pc_L_law_w118 2832 := dc_ag (dc_two pc_L_law_e118) pc_L_law_l118
def pc_L_law_w119 : ByteArray := ⟨(pc_L_law_119 ++ pc_L_law_120).toArray⟩
theorem pc_L_law_a119 : dc_Ag cL_law pc_L_law_w119 2856 := dc_ag (dc_two pc_L_law_e119) pc_L_law_l119
def pc_L_law_w120 : ByteArray := ⟨(pc_L_law_120 ++ pc_L_law_121).toArray⟩
theorem pc_L_law_a120 : dc_Ag cL_law pc_L_law_w120 2880 := dc_ag (dc_two pc_L_law_e120) pc_L_law_l120
def pc_L_law_w121 : ByteArray := ⟨(pc_L_law_121 ++ pc_L_law_122).toArray⟩
theorem pc_L_law_a121 : dc_Ag cL_law pc_L_law_w121 2904 := dc_ag (dc_two pc_L_law_e121) pc_L_law_l121
def pc_L_law_w122 : ByteArray := ⟨(pc_L_law_122 ++ pc_L_law_123).toArray⟩
theorem pc_L_law_a122 : dc_Ag cL_law pc_L_law_w122 2928 := dc_ag (dc_two pc_L_law_e122) pc_L_law_l122
def pc_L_law_w123 : ByteArray := ⟨(pc_L_law_123 ++ pc_L_law_124).toArray⟩
theorem pc_L_law_a123 : dc_Ag cL_law pc_L_law_w123 2952 := dc_ag (dc_two pc_L_law_e123) pc_L_law_l123
def pc_L_law_w124 : ByteArray := ⟨pc_L_law_124.toArray⟩
theorem pc_L_law_a124 : dc_Ag cL_law pc_L_law_w124 2976 := dc_ag pc_L_law_e124 pc_L_law_l124
