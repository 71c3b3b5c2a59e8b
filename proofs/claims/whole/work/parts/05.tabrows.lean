theorem tc1 : clO 1 = 11 := by decide +kernel
theorem tc2 : clO 2 = 10 := by decide +kernel
theorem ta3 : ak 3 = 2 := by decide +kernel
theorem tn3 : aln 3 = 6 := by decide +kernel
theorem ta4 : ak 4 = 2 := by decide +kernel
theorem tn4 : aln 4 = 6 := by decide +kernel
theorem ta5 : ak 5 = 2 := by decide +kernel
theorem tn5 : aln 5 = 6 := by decide +kernel
theorem ta6 : ak 6 = 2 := by decide +kernel
theorem tn6 : aln 6 = 12 := by decide +kernel
theorem ta7 : ak 7 = 2 := by decide +kernel
theorem tn7 : aln 7 = 12 := by decide +kernel
theorem ta8 : ak 8 = 2 := by decide +kernel
theorem tn8 : aln 8 = 12 := by decide +kernel
theorem ta9 : ak 9 = 2 := by decide +kernel
theorem tn9 : aln 9 = 92 := by decide +kernel
theorem ta10 : ak 10 = 2 := by decide +kernel
theorem tn10 : aln 10 = 2760 := by decide +kernel
theorem ta11 : ak 11 = 2 := by decide +kernel
theorem tn11 : aln 11 = 6 := by decide +kernel
theorem ta12 : ak 12 = 2 := by decide +kernel
theorem tn12 : aln 12 = 6 := by decide +kernel
theorem ta13 : ak 13 = 2 := by decide +kernel
theorem tn13 : aln 13 = 6 := by decide +kernel
theorem tc14 : clO 14 = 10 := by decide +kernel
theorem ta15 : ak 15 = 2 := by decide +kernel
theorem tn15 : aln 15 = 6 := by decide +kernel
theorem ta16 : ak 16 = 2 := by decide +kernel
theorem tn16 : aln 16 = 6 := by decide +kernel
theorem ta17 : ak 17 = 2 := by decide +kernel
theorem tn17 : aln 17 = 6 := by decide +kernel
theorem ta18 : ak 18 = 2 := by decide +kernel
theorem tn18 : aln 18 = 12 := by decide +kernel
theorem ta19 : ak 19 = 2 := by decide +kernel
theorem tn19 : aln 19 = 12 := by decide +kernel
theorem ta20 : ak 20 = 2 := by decide +kernel
theorem tn20 : aln 20 = 12 := by decide +kernel
theorem ta21 : ak 21 = 2 := by decide +kernel
theorem tn21 : aln 21 = 92 := by decide +kernel
theorem ta22 : ak 22 = 2 := by decide +kernel
theorem tn22 : aln 22 = 2760 := by decide +kernel
theorem ta23 : ak 23 = 2 := by decide +kernel
theorem tn23 : aln 23 = 6 := by decide +kernel
theorem ta24 : ak 24 = 2 := by decide +kernel
theorem tn24 : aln 24 = 6 := by decide +kernel
theorem ta25 : ak 25 = 2 := by decide +kernel
theorem tn25 : aln 25 = 6 := by decide +kernel
theorem ta26 : ak 26 = 6 := by decide +kernel
theorem tn26 : aln 26 = 4 := by decide +kernel
theorem tc27 : clO 27 = 8 := by decide +kernel
theorem ta28 : ak 28 = 2 := by decide +kernel
theorem tn28 : aln 28 = 24 := by decide +kernel
theorem ta29 : ak 29 = 2 := by decide +kernel
theorem tn29 : aln 29 = 24 := by decide +kernel
theorem ta30 : ak 30 = 2 := by decide +kernel
theorem tn30 : aln 30 = 24 := by decide +kernel
theorem ta31 : ak 31 = 2 := by decide +kernel
theorem tn31 : aln 31 = 300 := by decide +kernel
theorem ta32 : ak 32 = 2 := by decide +kernel
theorem tn32 : aln 32 = 4 := by decide +kernel
theorem ta33 : ak 33 = 2 := by decide +kernel
theorem tn33 : aln 33 = 4 := by decide +kernel
theorem ta34 : ak 34 = 2 := by decide +kernel
theorem tn34 : aln 34 = 64 := by decide +kernel
theorem tc35 : clO 35 = 8 := by decide +kernel
theorem ta36 : ak 36 = 2 := by decide +kernel
theorem tn36 : aln 36 = 24 := by decide +kernel
theorem ta37 : ak 37 = 2 := by decide +kernel
theorem tn37 : aln 37 = 24 := by decide +kernel
theorem ta38 : ak 38 = 2 := by decide +kernel
theorem tn38 : aln 38 = 24 := by decide +kernel
theorem ta39 : ak 39 = 2 := by decide +kernel
theorem tn39 : aln 39 = 300 := by decide +kernel
theorem ta40 : ak 40 = 2 := by decide +kernel
theorem tn40 : aln 40 = 4 := by decide +kernel
theorem ta41 : ak 41 = 2 := by decide +kernel
theorem tn41 : aln 41 = 4 := by decide +kernel
theorem ta42 : ak 42 = 2 := by decide +kernel
theorem tn42 : aln 42 = 64 := by decide +kernel
theorem tc43 : clO 43 = 8 := by decide +kernel
theorem ta44 : ak 44 = 2 := by decide +kernel
theorem tn44 : aln 44 = 24 := by decide +kernel
theorem ta45 : ak 45 = 2 := by decide +kernel
theorem tn45 : aln 45 = 24 := by decide +kernel
theorem ta46 : ak 46 = 2 := by decide +kernel
theorem tn46 : aln 46 = 24 := by decide +kernel
theorem ta47 : ak 47 = 2 := by decide +kernel
theorem tn47 : aln 47 = 300 := by decide +kernel
theorem ta48 : ak 48 = 2 := by decide +kernel
theorem tn48 : aln 48 = 4 := by decide +kernel
theorem ta49 : ak 49 = 2 := by decide +kernel
theorem tn49 : aln 49 = 4 := by decide +kernel
theorem ta50 : ak 50 = 2 := by decide +kernel
theorem tn50 : aln 50 = 64 := by decide +kernel
theorem tc51 : clO 51 = 8 := by decide +kernel
theorem ta52 : ak 52 = 2 := by decide +kernel
theorem tn52 : aln 52 = 24 := by decide +kernel
theorem ta53 : ak 53 = 2 := by decide +kernel
theorem tn53 : aln 53 = 24 := by decide +kernel
theorem ta54 : ak 54 = 2 := by decide +kernel
theorem tn54 : aln 54 = 24 := by decide +kernel
theorem ta55 : ak 55 = 2 := by decide +kernel
theorem tn55 : aln 55 = 300 := by decide +kernel
theorem ta56 : ak 56 = 2 := by decide +kernel
theorem tn56 : aln 56 = 4 := by decide +kernel
theorem ta57 : ak 57 = 2 := by decide +kernel
theorem tn57 : aln 57 = 4 := by decide +kernel
theorem ta58 : ak 58 = 2 := by decide +kernel
theorem tn58 : aln 58 = 64 := by decide +kernel
theorem tc59 : clO 59 = 9 := by decide +kernel
theorem ta60 : ak 60 = 3 := by decide +kernel
theorem tn60 : aln 60 = 300 := by decide +kernel
theorem tc61 : clO 61 = 6 := by decide +kernel
theorem ta62 : ak 62 = 2 := by decide +kernel
theorem tn62 : aln 62 = 64 := by decide +kernel
theorem tc63 : clO 63 = 1 := by decide +kernel
theorem ta64 : ak 64 = 2 := by decide +kernel
theorem tn64 : aln 64 = 6 := by decide +kernel
theorem ta65 : ak 65 = 2 := by decide +kernel
theorem tn65 : aln 65 = 15 := by decide +kernel
theorem ta66 : ak 66 = 2 := by decide +kernel
theorem tn66 : aln 66 = 28 := by decide +kernel
theorem ta67 : ak 67 = 2 := by decide +kernel
theorem tn67 : aln 67 = 92 := by decide +kernel
theorem tc68 : clO 68 = 5 := by decide +kernel
theorem ta69 : ak 69 = 2 := by decide +kernel
theorem tn69 : aln 69 = 4 := by decide +kernel
theorem ta70 : ak 70 = 2 := by decide +kernel
theorem tn70 : aln 70 = 4 := by decide +kernel
theorem ta71 : ak 71 = 2 := by decide +kernel
theorem tn71 : aln 71 = 4 := by decide +kernel
theorem ta72 : ak 72 = 2 := by decide +kernel
theorem tn72 : aln 72 = 4 := by decide +kernel
theorem ta73 : ak 73 = 2 := by decide +kernel
theorem tn73 : aln 73 = 224 := by decide +kernel
theorem tc74 : clO 74 = 0 := by decide +kernel
theorem ta75 : ak 75 = 2 := by decide +kernel
theorem tn75 : aln 75 = 4 := by decide +kernel
theorem ta76 : ak 76 = 2 := by decide +kernel
theorem tn76 : aln 76 = 4 := by decide +kernel
theorem ta77 : ak 77 = 2 := by decide +kernel
theorem tn77 : aln 77 = 244 := by decide +kernel
theorem ta78 : ak 78 = 4 := by decide +kernel
theorem tn78 : aln 78 = 4 := by decide +kernel
theorem ta79 : ak 79 = 4 := by decide +kernel
theorem tn79 : aln 79 = 366 := by decide +kernel
theorem tc80 : clO 80 = 2 := by decide +kernel
theorem ta81 : ak 81 = 2 := by decide +kernel
theorem tn81 : aln 81 = 5 := by decide +kernel
theorem ta82 : ak 82 = 2 := by decide +kernel
theorem tn82 : aln 82 = 5 := by decide +kernel
theorem ta83 : ak 83 = 2 := by decide +kernel
theorem tn83 : aln 83 = 6 := by decide +kernel
theorem ta84 : ak 84 = 2 := by decide +kernel
theorem tn84 : aln 84 = 192 := by decide +kernel
theorem ta85 : ak 85 = 2 := by decide +kernel
theorem tn85 : aln 85 = 192 := by decide +kernel
theorem tc86 : clO 86 = 3 := by decide +kernel
theorem ta87 : ak 87 = 2 := by decide +kernel
theorem tn87 : aln 87 = 6 := by decide +kernel
theorem ta88 : ak 88 = 2 := by decide +kernel
theorem tn88 : aln 88 = 6 := by decide +kernel
theorem tc89 : clO 89 = 4 := by decide +kernel
theorem ta90 : ak 90 = 2 := by decide +kernel
theorem tn90 : aln 90 = 6 := by decide +kernel
theorem ta91 : ak 91 = 2 := by decide +kernel
theorem tn91 : aln 91 = 2 := by decide +kernel
theorem ta92 : ak 92 = 2 := by decide +kernel
theorem tn92 : aln 92 = 2 := by decide +kernel
theorem ta93 : ak 93 = 2 := by decide +kernel
theorem tn93 : aln 93 = 2 := by decide +kernel
theorem tc94 : clO 94 = 7 := by decide +kernel
theorem ta95 : ak 95 = 2 := by decide +kernel
theorem tn95 : aln 95 = 6 := by decide +kernel
theorem ta96 : ak 96 = 2 := by decide +kernel
theorem tn96 : aln 96 = 6 := by decide +kernel
theorem tc97 : clO 97 = 12 := by decide +kernel
theorem ta98 : ak 98 = 2 := by decide +kernel
theorem tn98 : aln 98 = 6660 := by decide +kernel
theorem ta99 : ak 99 = 2 := by decide +kernel
theorem tn99 : aln 99 = 6660 := by decide +kernel
theorem ta100 : ak 100 = 3 := by decide +kernel
theorem tn100 : aln 100 = 300 := by decide +kernel
theorem ta101 : ak 101 = 2 := by decide +kernel
theorem tn101 : aln 101 = 4 := by decide +kernel
theorem ta102 : ak 102 = 2 := by decide +kernel
theorem tn102 : aln 102 = 96 := by decide +kernel
theorem ta103 : ak 103 = 2 := by decide +kernel
theorem tn103 : aln 103 = 96 := by decide +kernel
theorem ta104 : ak 104 = 2 := by decide +kernel
theorem tn104 : aln 104 = 96 := by decide +kernel
theorem ta105 : ak 105 = 2 := by decide +kernel
theorem tn105 : aln 105 = 96 := by decide +kernel
theorem ta106 : ak 106 = 2 := by decide +kernel
theorem tn106 : aln 106 = 1600 := by decide +kernel
theorem ta107 : ak 107 = 2 := by decide +kernel
theorem tn107 : aln 107 = 1600 := by decide +kernel
theorem ta108 : ak 108 = 2 := by decide +kernel
theorem tn108 : aln 108 = 40 := by decide +kernel
theorem ta109 : ak 109 = 2 := by decide +kernel
theorem tn109 : aln 109 = 41 := by decide +kernel
theorem ta110 : ak 110 = 2 := by decide +kernel
theorem tn110 : aln 110 = 80 := by decide +kernel
theorem ta111 : ak 111 = 2 := by decide +kernel
theorem tn111 : aln 111 = 80 := by decide +kernel
theorem ta112 : ak 112 = 2 := by decide +kernel
theorem tn112 : aln 112 = 24 := by decide +kernel
theorem ta113 : ak 113 = 2 := by decide +kernel
theorem tn113 : aln 113 = 24 := by decide +kernel
theorem ta114 : ak 114 = 2 := by decide +kernel
theorem tn114 : aln 114 = 24 := by decide +kernel
theorem ta115 : ak 115 = 2 := by decide +kernel
theorem tn115 : aln 115 = 24 := by decide +kernel
theorem ta116 : ak 116 = 2 := by decide +kernel
theorem tn116 : aln 116 = 400 := by decide +kernel
theorem ta117 : ak 117 = 2 := by decide +kernel
theorem tn117 : aln 117 = 400 := by decide +kernel
theorem ta118 : ak 118 = 2 := by decide +kernel
theorem tn118 : aln 118 = 15 := by decide +kernel
theorem ta119 : ak 119 = 4 := by decide +kernel
theorem tn119 : aln 119 = 200 := by decide +kernel
theorem ta120 : ak 120 = 2 := by decide +kernel
theorem tn120 : aln 120 = 6 := by decide +kernel
theorem ta121 : ak 121 = 2 := by decide +kernel
theorem tn121 : aln 121 = 6 := by decide +kernel
theorem ta122 : ak 122 = 2 := by decide +kernel
theorem tn122 : aln 122 = 6 := by decide +kernel
theorem ta123 : ak 123 = 2 := by decide +kernel
theorem tn123 : aln 123 = 6 := by decide +kernel
theorem ta124 : ak 124 = 2 := by decide +kernel
theorem tn124 : aln 124 = 12 := by decide +kernel
theorem ta125 : ak 125 = 2 := by decide +kernel
theorem tn125 : aln 125 = 12 := by decide +kernel
theorem ta126 : ak 126 = 2 := by decide +kernel
theorem tn126 : aln 126 = 6 := by decide +kernel
theorem ta127 : ak 127 = 2 := by decide +kernel
theorem tn127 : aln 127 = 6 := by decide +kernel
theorem ta128 : ak 128 = 2 := by decide +kernel
theorem tn128 : aln 128 = 6 := by decide +kernel
theorem ta129 : ak 129 = 2 := by decide +kernel
theorem tn129 : aln 129 = 6 := by decide +kernel
theorem ta130 : ak 130 = 2 := by decide +kernel
theorem tn130 : aln 130 = 4 := by decide +kernel
theorem ta131 : ak 131 = 2 := by decide +kernel
theorem tn131 : aln 131 = 4 := by decide +kernel
theorem ta132 : ak 132 = 2 := by decide +kernel
theorem tn132 : aln 132 = 4 := by decide +kernel
theorem ta133 : ak 133 = 2 := by decide +kernel
theorem tn133 : aln 133 = 6 := by decide +kernel
theorem ta134 : ak 134 = 2 := by decide +kernel
theorem tn134 : aln 134 = 4 := by decide +kernel
theorem ta135 : ak 135 = 2 := by decide +kernel
theorem tn135 : aln 135 = 4 := by decide +kernel
theorem ta136 : ak 136 = 2 := by decide +kernel
theorem tn136 : aln 136 = 3 := by decide +kernel
theorem ta137 : ak 137 = 2 := by decide +kernel
theorem tn137 : aln 137 = 5 := by decide +kernel
theorem ta138 : ak 138 = 2 := by decide +kernel
theorem tn138 : aln 138 = 6000 := by decide +kernel
theorem ta139 : ak 139 = 2 := by decide +kernel
theorem tn139 : aln 139 = 6 := by decide +kernel
theorem ta140 : ak 140 = 5 := by decide +kernel
theorem tn140 : aln 140 = 729 := by decide +kernel
theorem ta141 : ak 141 = 2 := by decide +kernel
theorem tn141 : aln 141 = 6 := by decide +kernel
theorem ta142 : ak 142 = 7 := by decide +kernel
theorem tn142 : aln 142 = 6 := by decide +kernel
theorem ta143 : ak 143 = 7 := by decide +kernel
theorem tn143 : aln 143 = 6 := by decide +kernel
theorem ta144 : ak 144 = 7 := by decide +kernel
theorem tn144 : aln 144 = 6 := by decide +kernel
theorem ta145 : ak 145 = 7 := by decide +kernel
theorem tn145 : aln 145 = 6 := by decide +kernel
theorem ta146 : ak 146 = 7 := by decide +kernel
theorem tn146 : aln 146 = 6 := by decide +kernel
theorem tc147 : clO 147 = 14 := by decide +kernel
theorem ta148 : ak 148 = 9 := by decide +kernel
theorem tn148 : aln 148 = 168 := by decide +kernel
theorem tc149 : clO 149 = 14 := by decide +kernel
theorem ta150 : ak 150 = 9 := by decide +kernel
theorem tn150 : aln 150 = 14 := by decide +kernel
theorem ta152 : ak 152 = 10 := by decide +kernel
theorem tn152 : aln 152 = 0 := by decide +kernel
theorem tr1_0 : rf 1 0 = 2 := by decide +kernel
theorem tr1_1 : rf 1 1 = 14 := by decide +kernel
theorem tr1_2 : rf 1 2 = 26 := by decide +kernel
theorem tr1_3 : rf 1 3 = 59 := by decide +kernel
theorem tr1_4 : rf 1 4 = 61 := by decide +kernel
theorem tr1_5 : rf 1 5 = 63 := by decide +kernel
theorem tr1_6 : rf 1 6 = 68 := by decide +kernel
theorem tr1_7 : rf 1 7 = 74 := by decide +kernel
theorem tr1_8 : rf 1 8 = 80 := by decide +kernel
theorem tr1_9 : rf 1 9 = 86 := by decide +kernel
theorem tr1_10 : rf 1 10 = 89 := by decide +kernel
theorem tr1_11 : rf 1 11 = 94 := by decide +kernel
theorem tr2_2 : rf 2 2 = 3 := by decide +kernel
theorem tr2_3 : rf 2 3 = 4 := by decide +kernel
theorem tr2_4 : rf 2 4 = 5 := by decide +kernel
theorem tr2_5 : rf 2 5 = 6 := by decide +kernel
theorem tr2_6 : rf 2 6 = 7 := by decide +kernel
theorem tr2_7 : rf 2 7 = 8 := by decide +kernel
theorem tr2_8 : rf 2 8 = 9 := by decide +kernel
theorem tr2_9 : rf 2 9 = 10 := by decide +kernel
theorem tr2_12 : rf 2 12 = 11 := by decide +kernel
theorem tr2_13 : rf 2 13 = 12 := by decide +kernel
theorem tr2_15 : rf 2 15 = 13 := by decide +kernel
theorem tr14_2 : rf 14 2 = 15 := by decide +kernel
theorem tr14_3 : rf 14 3 = 16 := by decide +kernel
theorem tr14_4 : rf 14 4 = 17 := by decide +kernel
theorem tr14_5 : rf 14 5 = 18 := by decide +kernel
theorem tr14_6 : rf 14 6 = 19 := by decide +kernel
theorem tr14_7 : rf 14 7 = 20 := by decide +kernel
theorem tr14_8 : rf 14 8 = 21 := by decide +kernel
theorem tr14_9 : rf 14 9 = 22 := by decide +kernel
theorem tr14_12 : rf 14 12 = 23 := by decide +kernel
theorem tr14_13 : rf 14 13 = 24 := by decide +kernel
theorem tr14_15 : rf 14 15 = 25 := by decide +kernel
theorem tr26_0 : rf 26 0 = 27 := by decide +kernel
theorem tr26_1 : rf 26 1 = 35 := by decide +kernel
theorem tr26_2 : rf 26 2 = 43 := by decide +kernel
theorem tr26_3 : rf 26 3 = 51 := by decide +kernel
theorem tr27_0 : rf 27 0 = 28 := by decide +kernel
theorem tr27_1 : rf 27 1 = 29 := by decide +kernel
theorem tr27_2 : rf 27 2 = 30 := by decide +kernel
theorem tr27_4 : rf 27 4 = 31 := by decide +kernel
theorem tr27_6 : rf 27 6 = 32 := by decide +kernel
theorem tr27_7 : rf 27 7 = 33 := by decide +kernel
theorem tr27_8 : rf 27 8 = 34 := by decide +kernel
theorem tr35_0 : rf 35 0 = 36 := by decide +kernel
theorem tr35_1 : rf 35 1 = 37 := by decide +kernel
theorem tr35_2 : rf 35 2 = 38 := by decide +kernel
theorem tr35_4 : rf 35 4 = 39 := by decide +kernel
theorem tr35_6 : rf 35 6 = 40 := by decide +kernel
theorem tr35_7 : rf 35 7 = 41 := by decide +kernel
theorem tr35_8 : rf 35 8 = 42 := by decide +kernel
theorem tr43_0 : rf 43 0 = 44 := by decide +kernel
theorem tr43_1 : rf 43 1 = 45 := by decide +kernel
theorem tr43_2 : rf 43 2 = 46 := by decide +kernel
theorem tr43_4 : rf 43 4 = 47 := by decide +kernel
theorem tr43_6 : rf 43 6 = 48 := by decide +kernel
theorem tr43_7 : rf 43 7 = 49 := by decide +kernel
theorem tr43_8 : rf 43 8 = 50 := by decide +kernel
theorem tr51_0 : rf 51 0 = 52 := by decide +kernel
theorem tr51_1 : rf 51 1 = 53 := by decide +kernel
theorem tr51_2 : rf 51 2 = 54 := by decide +kernel
theorem tr51_4 : rf 51 4 = 55 := by decide +kernel
theorem tr51_6 : rf 51 6 = 56 := by decide +kernel
theorem tr51_7 : rf 51 7 = 57 := by decide +kernel
theorem tr51_8 : rf 51 8 = 58 := by decide +kernel
theorem tr59_0 : rf 59 0 = 60 := by decide +kernel
theorem tr61_2 : rf 61 2 = 59 := by decide +kernel
theorem tr61_6 : rf 61 6 = 62 := by decide +kernel
theorem tr63_0 : rf 63 0 = 64 := by decide +kernel
theorem tr63_1 : rf 63 1 = 65 := by decide +kernel
theorem tr63_3 : rf 63 3 = 2 := by decide +kernel
theorem tr63_4 : rf 63 4 = 26 := by decide +kernel
theorem tr63_5 : rf 63 5 = 66 := by decide +kernel
theorem tr63_6 : rf 63 6 = 67 := by decide +kernel
theorem tr68_0 : rf 68 0 = 2 := by decide +kernel
theorem tr68_1 : rf 68 1 = 63 := by decide +kernel
theorem tr68_2 : rf 68 2 = 69 := by decide +kernel
theorem tr68_3 : rf 68 3 = 70 := by decide +kernel
theorem tr68_4 : rf 68 4 = 71 := by decide +kernel
theorem tr68_5 : rf 68 5 = 72 := by decide +kernel
theorem tr68_6 : rf 68 6 = 73 := by decide +kernel
theorem tr74_0 : rf 74 0 = 2 := by decide +kernel
theorem tr74_1 : rf 74 1 = 63 := by decide +kernel
theorem tr74_2 : rf 74 2 = 75 := by decide +kernel
theorem tr74_3 : rf 74 3 = 76 := by decide +kernel
theorem tr74_4 : rf 74 4 = 77 := by decide +kernel
theorem tr74_5 : rf 74 5 = 78 := by decide +kernel
theorem tr74_6 : rf 74 6 = 79 := by decide +kernel
theorem tr80_0 : rf 80 0 = 2 := by decide +kernel
theorem tr80_1 : rf 80 1 = 63 := by decide +kernel
theorem tr80_2 : rf 80 2 = 81 := by decide +kernel
theorem tr80_3 : rf 80 3 = 82 := by decide +kernel
theorem tr80_4 : rf 80 4 = 83 := by decide +kernel
theorem tr80_5 : rf 80 5 = 84 := by decide +kernel
theorem tr80_6 : rf 80 6 = 85 := by decide +kernel
theorem tr86_0 : rf 86 0 = 87 := by decide +kernel
theorem tr86_1 : rf 86 1 = 2 := by decide +kernel
theorem tr86_2 : rf 86 2 = 88 := by decide +kernel
theorem tr89_0 : rf 89 0 = 2 := by decide +kernel
theorem tr89_1 : rf 89 1 = 63 := by decide +kernel
theorem tr89_2 : rf 89 2 = 90 := by decide +kernel
theorem tr89_3 : rf 89 3 = 91 := by decide +kernel
theorem tr89_4 : rf 89 4 = 92 := by decide +kernel
theorem tr89_5 : rf 89 5 = 93 := by decide +kernel
theorem tr94_0 : rf 94 0 = 2 := by decide +kernel
theorem tr94_1 : rf 94 1 = 63 := by decide +kernel
theorem tr94_2 : rf 94 2 = 95 := by decide +kernel
theorem tr94_3 : rf 94 3 = 96 := by decide +kernel
theorem tr97_0 : rf 97 0 = 98 := by decide +kernel
theorem tr97_1 : rf 97 1 = 99 := by decide +kernel
theorem tr97_2 : rf 97 2 = 100 := by decide +kernel
theorem tr97_6 : rf 97 6 = 101 := by decide +kernel
theorem tr97_7 : rf 97 7 = 102 := by decide +kernel
theorem tr97_8 : rf 97 8 = 103 := by decide +kernel
theorem tr97_9 : rf 97 9 = 104 := by decide +kernel
theorem tr97_10 : rf 97 10 = 105 := by decide +kernel
theorem tr97_11 : rf 97 11 = 106 := by decide +kernel
theorem tr97_12 : rf 97 12 = 107 := by decide +kernel
theorem tr97_22 : rf 97 22 = 108 := by decide +kernel
theorem tr97_23 : rf 97 23 = 109 := by decide +kernel
theorem tr97_25 : rf 97 25 = 110 := by decide +kernel
theorem tr97_26 : rf 97 26 = 111 := by decide +kernel
theorem tr97_30 : rf 97 30 = 112 := by decide +kernel
theorem tr97_31 : rf 97 31 = 113 := by decide +kernel
theorem tr97_32 : rf 97 32 = 114 := by decide +kernel
theorem tr97_33 : rf 97 33 = 115 := by decide +kernel
theorem tr97_35 : rf 97 35 = 116 := by decide +kernel
theorem tr97_36 : rf 97 36 = 117 := by decide +kernel
theorem tr97_37 : rf 97 37 = 118 := by decide +kernel
theorem tr97_38 : rf 97 38 = 119 := by decide +kernel
theorem tr97_40 : rf 97 40 = 120 := by decide +kernel
theorem tr97_41 : rf 97 41 = 121 := by decide +kernel
theorem tr97_42 : rf 97 42 = 122 := by decide +kernel
theorem tr97_43 : rf 97 43 = 123 := by decide +kernel
theorem tr97_44 : rf 97 44 = 124 := by decide +kernel
theorem tr97_45 : rf 97 45 = 125 := by decide +kernel
theorem tr97_46 : rf 97 46 = 126 := by decide +kernel
theorem tr97_47 : rf 97 47 = 127 := by decide +kernel
theorem tr97_48 : rf 97 48 = 128 := by decide +kernel
theorem tr97_49 : rf 97 49 = 129 := by decide +kernel
theorem tr97_50 : rf 97 50 = 130 := by decide +kernel
theorem tr97_51 : rf 97 51 = 131 := by decide +kernel
theorem tr97_52 : rf 97 52 = 132 := by decide +kernel
theorem tr97_53 : rf 97 53 = 133 := by decide +kernel
theorem tr97_54 : rf 97 54 = 134 := by decide +kernel
theorem tr97_55 : rf 97 55 = 135 := by decide +kernel
theorem tr97_56 : rf 97 56 = 136 := by decide +kernel
theorem tr97_57 : rf 97 57 = 137 := by decide +kernel
theorem tr97_58 : rf 97 58 = 138 := by decide +kernel
theorem tr97_59 : rf 97 59 = 139 := by decide +kernel
theorem tr97_60 : rf 97 60 = 140 := by decide +kernel
theorem tr97_61 : rf 97 61 = 141 := by decide +kernel
theorem tr147_0 : rf 147 0 = 148 := by decide +kernel
theorem tr149_0 : rf 149 0 = 150 := by decide +kernel
