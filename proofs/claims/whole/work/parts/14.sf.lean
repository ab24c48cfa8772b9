/-- the cells that the two constructors make, in their order: kind, length, the cells that they hold -/
def SF : tk_S := [(9, 11, [1, 20, -1, 39, 72, 74, 87, 90, 94, 97, 99]), (8, 5, [2, 5, 8, 12, 16]), (3, 3, [3, 4, -1]), (20, 6, []), (20, 6, []), (3, 3, [6, 7, -1]), (20, 6, []), (20, 6, []), (5, 5, [-1, 9, 10, 11, -1]), (20, 4, []), (20, 4, []), (20, 4, []), (5, 5, [-1, 13, 14, 15, -1]), (20, 8, []), (20, 8, []), (20, 8, []), (5, 5, [-1, 17, 18, 19, -1]), (20, 8, []), (20, 8, []), (20, 8, []), (8, 5, [21, 24, 27, 31, 35]), (3, 3, [22, 23, -1]), (20, 6, []), (20, 6, []), (3, 3, [25, 26, -1]), (20, 6, []), (20, 6, []), (5, 5, [-1, 28, 29, 30, -1]), (20, 4, []), (20, 4, []), (20, 4, []), (5, 5, [-1, 32, 33, 34, -1]), (20, 8, []), (20, 8, []), (20, 8, []), (5, 5, [-1, 36, 37, 38, -1]), (20, 8, []), (20, 8, []), (20, 8, []), (0, 4, [40, 71, -1, -1]), (23, 10, [41, 44, 47, 50, 53, 56, 59, 62, 65, 68]), (3, 3, [42, 43, -1]), (20, 6, []), (20, 6, []), (3, 3, [45, 46, -1]), (20, 6, []), (20, 6, []), (3, 3, [48, 49, -1]), (20, 6, []), (20, 6, []), (3, 3, [51, 52, -1]), (20, 6, []), (20, 6, []), (3, 3, [54, 55, -1]), (20, 6, []), (20, 6, []), (3, 3, [57, 58, -1]), (20, 6, []), (20, 6, []), (3, 3, [60, 61, -1]), (20, 6, []), (20, 6, []), (3, 3, [63, 64, -1]), (20, 6, []), (20, 6, []), (3, 3, [66, 67, -1]), (20, 6, []), (20, 6, []), (3, 3, [69, 70, -1]), (20, 6, []), (20, 6, []), (20, 10, []), (7, 2, [73, -1]), (22, 100, []), (24, 6, [75, 77, 79, 81, 83, 85]), (6, 3, [76, -1, -1]), (21, 60, []), (6, 3, [78, -1, -1]), (21, 60, []), (6, 3, [80, -1, -1]), (21, 60, []), (6, 3, [82, -1, -1]), (21, 60, []), (6, 3, [84, -1, -1]), (21, 60, []), (6, 3, [86, -1, -1]), (21, 60, []), (3, 3, [88, 89, -1]), (20, 6, []), (20, 6, []), (2, 4, [91, 92, 93, -1]), (20, 7, []), (20, 7, []), (20, 7, []), (4, 3, [95, 96, -1]), (20, 100, []), (20, 100, []), (1, 1, [98]), (20, 61, []), (1, 1, [100]), (20, 61, []), (10, 46, [102, 103, 104, -1, 105, 106, 107, 108, 109, -1, -1, 110, -1, 111, 112, 113, -1, 114, 115, 116, 117, 118, -1, 119, 120, 121, -1, 122, 123, -1, 124, 125, 126, 127, 128, 129, -1, 130, 131, 132, -1, 133, -1, 134, -1, 135]), (20, 3, []), (20, 18, []), (20, 18, []), (20, 10, []), (20, 10, []), (20, 60, []), (20, 60, []), (20, 100, []), (20, 3, []), (20, 64, []), (20, 64, []), (20, 64, []), (20, 100, []), (20, 100, []), (20, 72, []), (20, 72, []), (20, 72, []), (20, 4, []), (20, 4, []), (20, 4, []), (20, 8, []), (20, 8, []), (20, 8, []), (20, 8, []), (20, 6, []), (20, 6, []), (21, 360, []), (21, 60, []), (20, 2, []), (20, 12, []), (20, 12, []), (20, 12, []), (20, 16, []), (20, 16, [])]
theorem sg0 : tk_sg SF 0 = some (9, 11, [1, 20, -1, 39, 72, 74, 87, 90, 94, 97, 99]) := by decide +kernel
theorem sg1 : tk_sg SF 1 = some (8, 5, [2, 5, 8, 12, 16]) := by decide +kernel
theorem sg2 : tk_sg SF 2 = some (3, 3, [3, 4, -1]) := by decide +kernel
theorem sg3 : tk_sg SF 3 = some (20, 6, []) := by decide +kernel
theorem sg4 : tk_sg SF 4 = some (20, 6, []) := by decide +kernel
theorem sg5 : tk_sg SF 5 = some (3, 3, [6, 7, -1]) := by decide +kernel
theorem sg6 : tk_sg SF 6 = some (20, 6, []) := by decide +kernel
theorem sg7 : tk_sg SF 7 = some (20, 6, []) := by decide +kernel
theorem sg8 : tk_sg SF 8 = some (5, 5, [-1, 9, 10, 11, -1]) := by decide +kernel
theorem sg9 : tk_sg SF 9 = some (20, 4, []) := by decide +kernel
theorem sg10 : tk_sg SF 10 = some (20, 4, []) := by decide +kernel
theorem sg11 : tk_sg SF 11 = some (20, 4, []) := by decide +kernel
theorem sg12 : tk_sg SF 12 = some (5, 5, [-1, 13, 14, 15, -1]) := by decide +kernel
theorem sg13 : tk_sg SF 13 = some (20, 8, []) := by decide +kernel
theorem sg14 : tk_sg SF 14 = some (20, 8, []) := by decide +kernel
theorem sg15 : tk_sg SF 15 = some (20, 8, []) := by decide +kernel
theorem sg16 : tk_sg SF 16 = some (5, 5, [-1, 17, 18, 19, -1]) := by decide +kernel
theorem sg17 : tk_sg SF 17 = some (20, 8, []) := by decide +kernel
theorem sg18 : tk_sg SF 18 = some (20, 8, []) := by decide +kernel
theorem sg19 : tk_sg SF 19 = some (20, 8, []) := by decide +kernel
theorem sg20 : tk_sg SF 20 = some (8, 5, [21, 24, 27, 31, 35]) := by decide +kernel
theorem sg21 : tk_sg SF 21 = some (3, 3, [22, 23, -1]) := by decide +kernel
theorem sg22 : tk_sg SF 22 = some (20, 6, []) := by decide +kernel
theorem sg23 : tk_sg SF 23 = some (20, 6, []) := by decide +kernel
theorem sg24 : tk_sg SF 24 = some (3, 3, [25, 26, -1]) := by decide +kernel
theorem sg25 : tk_sg SF 25 = some (20, 6, []) := by decide +kernel
theorem sg26 : tk_sg SF 26 = some (20, 6, []) := by decide +kernel
theorem sg27 : tk_sg SF 27 = some (5, 5, [-1, 28, 29, 30, -1]) := by decide +kernel
theorem sg28 : tk_sg SF 28 = some (20, 4, []) := by decide +kernel
theorem sg29 : tk_sg SF 29 = some (20, 4, []) := by decide +kernel
theorem sg30 : tk_sg SF 30 = some (20, 4, []) := by decide +kernel
theorem sg31 : tk_sg SF 31 = some (5, 5, [-1, 32, 33, 34, -1]) := by decide +kernel
theorem sg32 : tk_sg SF 32 = some (20, 8, []) := by decide +kernel
theorem sg33 : tk_sg SF 33 = some (20, 8, []) := by decide +kernel
theorem sg34 : tk_sg SF 34 = some (20, 8, []) := by decide +kernel
theorem sg35 : tk_sg SF 35 = some (5, 5, [-1, 36, 37, 38, -1]) := by decide +kernel
theorem sg36 : tk_sg SF 36 = some (20, 8, []) := by decide +kernel
theorem sg37 : tk_sg SF 37 = some (20, 8, []) := by decide +kernel
theorem sg38 : tk_sg SF 38 = some (20, 8, []) := by decide +kernel
theorem sg39 : tk_sg SF 39 = some (0, 4, [40, 71, -1, -1]) := by decide +kernel
theorem sg40 : tk_sg SF 40 = some (23, 10, [41, 44, 47, 50, 53, 56, 59, 62, 65, 68]) := by decide +kernel
theorem sg41 : tk_sg SF 41 = some (3, 3, [42, 43, -1]) := by decide +kernel
theorem sg42 : tk_sg SF 42 = some (20, 6, []) := by decide +kernel
theorem sg43 : tk_sg SF 43 = some (20, 6, []) := by decide +kernel
theorem sg44 : tk_sg SF 44 = some (3, 3, [45, 46, -1]) := by decide +kernel
theorem sg45 : tk_sg SF 45 = some (20, 6, []) := by decide +kernel
theorem sg46 : tk_sg SF 46 = some (20, 6, []) := by decide +kernel
theorem sg47 : tk_sg SF 47 = some (3, 3, [48, 49, -1]) := by decide +kernel
theorem sg48 : tk_sg SF 48 = some (20, 6, []) := by decide +kernel
theorem sg49 : tk_sg SF 49 = some (20, 6, []) := by decide +kernel
theorem sg50 : tk_sg SF 50 = some (3, 3, [51, 52, -1]) := by decide +kernel
theorem sg51 : tk_sg SF 51 = some (20, 6, []) := by decide +kernel
theorem sg52 : tk_sg SF 52 = some (20, 6, []) := by decide +kernel
theorem sg53 : tk_sg SF 53 = some (3, 3, [54, 55, -1]) := by decide +kernel
theorem sg54 : tk_sg SF 54 = some (20, 6, []) := by decide +kernel
theorem sg55 : tk_sg SF 55 = some (20, 6, []) := by decide +kernel
theorem sg56 : tk_sg SF 56 = some (3, 3, [57, 58, -1]) := by decide +kernel
theorem sg57 : tk_sg SF 57 = some (20, 6, []) := by decide +kernel
theorem sg58 : tk_sg SF 58 = some (20, 6, []) := by decide +kernel
theorem sg59 : tk_sg SF 59 = some (3, 3, [60, 61, -1]) := by decide +kernel
theorem sg60 : tk_sg SF 60 = some (20, 6, []) := by decide +kernel
theorem sg61 : tk_sg SF 61 = some (20, 6, []) := by decide +kernel
theorem sg62 : tk_sg SF 62 = some (3, 3, [63, 64, -1]) := by decide +kernel
theorem sg63 : tk_sg SF 63 = some (20, 6, []) := by decide +kernel
theorem sg64 : tk_sg SF 64 = some (20, 6, []) := by decide +kernel
theorem sg65 : tk_sg SF 65 = some (3, 3, [66, 67, -1]) := by decide +kernel
theorem sg66 : tk_sg SF 66 = some (20, 6, []) := by decide +kernel
theorem sg67 : tk_sg SF 67 = some (20, 6, []) := by decide +kernel
theorem sg68 : tk_sg SF 68 = some (3, 3, [69, 70, -1]) := by decide +kernel
theorem sg69 : tk_sg SF 69 = some (20, 6, []) := by decide +kernel
theorem sg70 : tk_sg SF 70 = some (20, 6, []) := by decide +kernel
theorem sg71 : tk_sg SF 71 = some (20, 10, []) := by decide +kernel
theorem sg72 : tk_sg SF 72 = some (7, 2, [73, -1]) := by decide +kernel
theorem sg73 : tk_sg SF 73 = some (22, 100, []) := by decide +kernel
theorem sg74 : tk_sg SF 74 = some (24, 6, [75, 77, 79, 81, 83, 85]) := by decide +kernel
theorem sg75 : tk_sg SF 75 = some (6, 3, [76, -1, -1]) := by decide +kernel
theorem sg76 : tk_sg SF 76 = some (21, 60, []) := by decide +kernel
theorem sg77 : tk_sg SF 77 = some (6, 3, [78, -1, -1]) := by decide +kernel
theorem sg78 : tk_sg SF 78 = some (21, 60, []) := by decide +kernel
theorem sg79 : tk_sg SF 79 = some (6, 3, [80, -1, -1]) := by decide +kernel
theorem sg80 : tk_sg SF 80 = some (21, 60, []) := by decide +kernel
theorem sg81 : tk_sg SF 81 = some (6, 3, [82, -1, -1]) := by decide +kernel
theorem sg82 : tk_sg SF 82 = some (21, 60, []) := by decide +kernel
theorem sg83 : tk_sg SF 83 = some (6, 3, [84, -1, -1]) := by decide +kernel
theorem sg84 : tk_sg SF 84 = some (21, 60, []) := by decide +kernel
theorem sg85 : tk_sg SF 85 = some (6, 3, [86, -1, -1]) := by decide +kernel
theorem sg86 : tk_sg SF 86 = some (21, 60, []) := by decide +kernel
theorem sg87 : tk_sg SF 87 = some (3, 3, [88, 89, -1]) := by decide +kernel
theorem sg88 : tk_sg SF 88 = some (20, 6, []) := by decide +kernel
theorem sg89 : tk_sg SF 89 = some (20, 6, []) := by decide +kernel
theorem sg90 : tk_sg SF 90 = some (2, 4, [91, 92, 93, -1]) := by decide +kernel
theorem sg91 : tk_sg SF 91 = some (20, 7, []) := by decide +kernel
theorem sg92 : tk_sg SF 92 = some (20, 7, []) := by decide +kernel
theorem sg93 : tk_sg SF 93 = some (20, 7, []) := by decide +kernel
theorem sg94 : tk_sg SF 94 = some (4, 3, [95, 96, -1]) := by decide +kernel
theorem sg95 : tk_sg SF 95 = some (20, 100, []) := by decide +kernel
theorem sg96 : tk_sg SF 96 = some (20, 100, []) := by decide +kernel
theorem sg97 : tk_sg SF 97 = some (1, 1, [98]) := by decide +kernel
theorem sg98 : tk_sg SF 98 = some (20, 61, []) := by decide +kernel
theorem sg99 : tk_sg SF 99 = some (1, 1, [100]) := by decide +kernel
theorem sg100 : tk_sg SF 100 = some (20, 61, []) := by decide +kernel
theorem sg101 : tk_sg SF 101 = some (10, 46, [102, 103, 104, -1, 105, 106, 107, 108, 109, -1, -1, 110, -1, 111, 112, 113, -1, 114, 115, 116, 117, 118, -1, 119, 120, 121, -1, 122, 123, -1, 124, 125, 126, 127, 128, 129, -1, 130, 131, 132, -1, 133, -1, 134, -1, 135]) := by decide +kernel
theorem sg102 : tk_sg SF 102 = some (20, 3, []) := by decide +kernel
theorem sg103 : tk_sg SF 103 = some (20, 18, []) := by decide +kernel
theorem sg104 : tk_sg SF 104 = some (20, 18, []) := by decide +kernel
theorem sg105 : tk_sg SF 105 = some (20, 10, []) := by decide +kernel
theorem sg106 : tk_sg SF 106 = some (20, 10, []) := by decide +kernel
theorem sg107 : tk_sg SF 107 = some (20, 60, []) := by decide +kernel
theorem sg108 : tk_sg SF 108 = some (20, 60, []) := by decide +kernel
theorem sg109 : tk_sg SF 109 = some (20, 100, []) := by decide +kernel
theorem sg110 : tk_sg SF 110 = some (20, 3, []) := by decide +kernel
theorem sg111 : tk_sg SF 111 = some (20, 64, []) := by decide +kernel
theorem sg112 : tk_sg SF 112 = some (20, 64, []) := by decide +kernel
theorem sg113 : tk_sg SF 113 = some (20, 64, []) := by decide +kernel
theorem sg114 : tk_sg SF 114 = some (20, 100, []) := by decide +kernel
theorem sg115 : tk_sg SF 115 = some (20, 100, []) := by decide +kernel
theorem sg116 : tk_sg SF 116 = some (20, 72, []) := by decide +kernel
theorem sg117 : tk_sg SF 117 = some (20, 72, []) := by decide +kernel
theorem sg118 : tk_sg SF 118 = some (20, 72, []) := by decide +kernel
theorem sg119 : tk_sg SF 119 = some (20, 4, []) := by decide +kernel
theorem sg120 : tk_sg SF 120 = some (20, 4, []) := by decide +kernel
theorem sg121 : tk_sg SF 121 = some (20, 4, []) := by decide +kernel
theorem sg122 : tk_sg SF 122 = some (20, 8, []) := by decide +kernel
theorem sg123 : tk_sg SF 123 = some (20, 8, []) := by decide +kernel
theorem sg124 : tk_sg SF 124 = some (20, 8, []) := by decide +kernel
theorem sg125 : tk_sg SF 125 = some (20, 8, []) := by decide +kernel
theorem sg126 : tk_sg SF 126 = some (20, 6, []) := by decide +kernel
theorem sg127 : tk_sg SF 127 = some (20, 6, []) := by decide +kernel
theorem sg128 : tk_sg SF 128 = some (21, 360, []) := by decide +kernel
theorem sg129 : tk_sg SF 129 = some (21, 60, []) := by decide +kernel
theorem sg130 : tk_sg SF 130 = some (20, 2, []) := by decide +kernel
theorem sg131 : tk_sg SF 131 = some (20, 12, []) := by decide +kernel
theorem sg132 : tk_sg SF 132 = some (20, 12, []) := by decide +kernel
theorem sg133 : tk_sg SF 133 = some (20, 12, []) := by decide +kernel
theorem sg134 : tk_sg SF 134 = some (20, 16, []) := by decide +kernel
theorem sg135 : tk_sg SF 135 = some (20, 16, []) := by decide +kernel
