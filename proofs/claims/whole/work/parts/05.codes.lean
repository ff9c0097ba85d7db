/-! The code of each method stands among the words of the claim. -/
def so_hd (M : Nat) : Cond := if mj_h M = [] then .code (mj_y M) (mj_c M) (mj_l M) (mj_r M) else .codeWith (mj_y M) (mj_c M) (mj_l M) (mj_r M) (mj_h M)
set_option maxRecDepth 100000 in
theorem so_ha0 : so_hd 0 ∈ lw_tbl := List.mem_of_getElem? (i := 273) (by decide +kernel)
set_option maxRecDepth 100000 in
theorem so_ha1 : so_hd 1 ∈ lw_tbl := List.mem_of_getElem? (i := 900) (by decide +kernel)
set_option maxRecDepth 100000 in
theorem so_ha2 : so_hd 2 ∈ lw_tbl := List.mem_of_getElem? (i := 396) (by decide +kernel)
set_option maxRecDepth 100000 in
theorem so_ha3 : so_hd 3 ∈ lw_tbl := List.mem_of_getElem? (i := 458) (by decide +kernel)
set_option maxRecDepth 100000 in
theorem so_ha4 : so_hd 4 ∈ lw_tbl := List.mem_of_getElem? (i := 392) (by decide +kernel)
set_option maxRecDepth 100000 in
theorem so_ha5 : so_hd 5 ∈ lw_tbl := List.mem_of_getElem? (i := 905) (by decide +kernel)
set_option maxRecDepth 100000 in
theorem so_ha6 : so_hd 6 ∈ lw_tbl := List.mem_of_getElem? (i := 917) (by decide +kernel)
set_option maxRecDepth 100000 in
theorem so_ha7 : so_hd 7 ∈ lw_tbl := List.mem_of_getElem? (i := 925) (by decide +kernel)
set_option maxRecDepth 100000 in
theorem so_ha8 : so_hd 8 ∈ lw_tbl := List.mem_of_getElem? (i := 921) (by decide +kernel)
set_option maxRecDepth 100000 in
theorem so_ha9 : so_hd 9 ∈ lw_tbl := List.mem_of_getElem? (i := 929) (by decide +kernel)
set_option maxRecDepth 100000 in
theorem so_ha10 : so_hd 10 ∈ lw_tbl := List.mem_of_getElem? (i := 933) (by decide +kernel)
set_option maxRecDepth 100000 in
theorem so_ha11 : so_hd 11 ∈ lw_tbl := List.mem_of_getElem? (i := 939) (by decide +kernel)
set_option maxRecDepth 100000 in
theorem so_ha12 : so_hd 12 ∈ lw_tbl := List.mem_of_getElem? (i := 315) (by decide +kernel)
set_option maxRecDepth 100000 in
theorem so_ha13 : so_hd 13 ∈ lw_tbl := List.mem_of_getElem? (i := 795) (by decide +kernel)
set_option maxRecDepth 100000 in
theorem so_ha14 : so_hd 14 ∈ lw_tbl := List.mem_of_getElem? (i := 803) (by decide +kernel)
set_option maxRecDepth 100000 in
theorem so_ha15 : so_hd 15 ∈ lw_tbl := List.mem_of_getElem? (i := 807) (by decide +kernel)
set_option maxRecDepth 100000 in
theorem so_ha16 : so_hd 16 ∈ lw_tbl := List.mem_of_getElem? (i := 445) (by decide +kernel)
set_option maxRecDepth 100000 in
theorem so_ha17 : so_hd 17 ∈ lw_tbl := List.mem_of_getElem? (i := 449) (by decide +kernel)
set_option maxRecDepth 100000 in
theorem so_ha18 : so_hd 18 ∈ lw_tbl := List.mem_of_getElem? (i := 441) (by decide +kernel)
set_option maxRecDepth 100000 in
theorem so_ha19 : so_hd 19 ∈ lw_tbl := List.mem_of_getElem? (i := 858) (by decide +kernel)
set_option maxRecDepth 100000 in
theorem so_ha20 : so_hd 20 ∈ lw_tbl := List.mem_of_getElem? (i := 888) (by decide +kernel)
set_option maxRecDepth 100000 in
theorem so_ha21 : so_hd 21 ∈ lw_tbl := List.mem_of_getElem? (i := 870) (by decide +kernel)
set_option maxRecDepth 100000 in
theorem so_ha22 : so_hd 22 ∈ lw_tbl := List.mem_of_getElem? (i := 874) (by decide +kernel)
set_option maxRecDepth 100000 in
theorem so_ha23 : so_hd 23 ∈ lw_tbl := List.mem_of_getElem? (i := 308) (by decide +kernel)
set_option maxRecDepth 100000 in
theorem so_ha24 : so_hd 24 ∈ lw_tbl := List.mem_of_getElem? (i := 431) (by decide +kernel)
set_option maxRecDepth 100000 in
theorem so_ha25 : so_hd 25 ∈ lw_tbl := List.mem_of_getElem? (i := 812) (by decide +kernel)
set_option maxRecDepth 100000 in
theorem so_ha26 : so_hd 26 ∈ lw_tbl := List.mem_of_getElem? (i := 236) (by decide +kernel)
set_option maxRecDepth 100000 in
theorem so_ha27 : so_hd 27 ∈ lw_tbl := List.mem_of_getElem? (i := 734) (by decide +kernel)
set_option maxRecDepth 100000 in
theorem so_ha28 : so_hd 28 ∈ lw_tbl := List.mem_of_getElem? (i := 738) (by decide +kernel)
set_option maxRecDepth 100000 in
theorem so_ha29 : so_hd 29 ∈ lw_tbl := List.mem_of_getElem? (i := 742) (by decide +kernel)
set_option maxRecDepth 100000 in
theorem so_ha30 : so_hd 30 ∈ lw_tbl := List.mem_of_getElem? (i := 755) (by decide +kernel)
set_option maxRecDepth 100000 in
theorem so_ha31 : so_hd 31 ∈ lw_tbl := List.mem_of_getElem? (i := 764) (by decide +kernel)
set_option maxRecDepth 100000 in
theorem so_ha32 : so_hd 32 ∈ lw_tbl := List.mem_of_getElem? (i := 768) (by decide +kernel)
set_option maxRecDepth 100000 in
theorem so_ha33 : so_hd 33 ∈ lw_tbl := List.mem_of_getElem? (i := 775) (by decide +kernel)
set_option maxRecDepth 100000 in
theorem so_ha34 : so_hd 34 ∈ lw_tbl := List.mem_of_getElem? (i := 779) (by decide +kernel)
set_option maxRecDepth 100000 in
theorem so_ha35 : so_hd 35 ∈ lw_tbl := List.mem_of_getElem? (i := 783) (by decide +kernel)
set_option maxRecDepth 100000 in
theorem so_ha36 : so_hd 36 ∈ lw_tbl := List.mem_of_getElem? (i := 787) (by decide +kernel)
set_option maxRecDepth 100000 in
theorem so_ha37 : so_hd 37 ∈ lw_tbl := List.mem_of_getElem? (i := 791) (by decide +kernel)
set_option maxRecDepth 100000 in
theorem so_ha38 : so_hd 38 ∈ lw_tbl := List.mem_of_getElem? (i := 799) (by decide +kernel)
set_option maxRecDepth 100000 in
theorem so_ha39 : so_hd 39 ∈ lw_tbl := List.mem_of_getElem? (i := 207) (by decide +kernel)
set_option maxRecDepth 100000 in
theorem so_ha40 : so_hd 40 ∈ lw_tbl := List.mem_of_getElem? (i := 585) (by decide +kernel)
set_option maxRecDepth 100000 in
theorem so_ha41 : so_hd 41 ∈ lw_tbl := List.mem_of_getElem? (i := 674) (by decide +kernel)
set_option maxRecDepth 100000 in
theorem so_ha42 : so_hd 42 ∈ lw_tbl := List.mem_of_getElem? (i := 593) (by decide +kernel)
set_option maxRecDepth 100000 in
theorem so_ha43 : so_hd 43 ∈ lw_tbl := List.mem_of_getElem? (i := 597) (by decide +kernel)
set_option maxRecDepth 100000 in
theorem so_ha44 : so_hd 44 ∈ lw_tbl := List.mem_of_getElem? (i := 601) (by decide +kernel)
set_option maxRecDepth 100000 in
theorem so_ha45 : so_hd 45 ∈ lw_tbl := List.mem_of_getElem? (i := 605) (by decide +kernel)
set_option maxRecDepth 100000 in
theorem so_ha46 : so_hd 46 ∈ lw_tbl := List.mem_of_getElem? (i := 613) (by decide +kernel)
set_option maxRecDepth 100000 in
theorem so_ha47 : so_hd 47 ∈ lw_tbl := List.mem_of_getElem? (i := 631) (by decide +kernel)
set_option maxRecDepth 100000 in
theorem so_ha48 : so_hd 48 ∈ lw_tbl := List.mem_of_getElem? (i := 635) (by decide +kernel)
set_option maxRecDepth 100000 in
theorem so_ha49 : so_hd 49 ∈ lw_tbl := List.mem_of_getElem? (i := 639) (by decide +kernel)
set_option maxRecDepth 100000 in
theorem so_ha50 : so_hd 50 ∈ lw_tbl := List.mem_of_getElem? (i := 621) (by decide +kernel)
set_option maxRecDepth 100000 in
theorem so_ha51 : so_hd 51 ∈ lw_tbl := List.mem_of_getElem? (i := 617) (by decide +kernel)
set_option maxRecDepth 100000 in
theorem so_ha52 : so_hd 52 ∈ lw_tbl := List.mem_of_getElem? (i := 609) (by decide +kernel)
set_option maxRecDepth 100000 in
theorem so_ha53 : so_hd 53 ∈ lw_tbl := List.mem_of_getElem? (i := 627) (by decide +kernel)
set_option maxRecDepth 100000 in
theorem so_ha54 : so_hd 54 ∈ lw_tbl := List.mem_of_getElem? (i := 642) (by decide +kernel)
set_option maxRecDepth 100000 in
theorem so_ha55 : so_hd 55 ∈ lw_tbl := List.mem_of_getElem? (i := 624) (by decide +kernel)
set_option maxRecDepth 100000 in
theorem so_ha56 : so_hd 56 ∈ lw_tbl := List.mem_of_getElem? (i := 646) (by decide +kernel)
set_option maxRecDepth 100000 in
theorem so_ha57 : so_hd 57 ∈ lw_tbl := List.mem_of_getElem? (i := 666) (by decide +kernel)
set_option maxRecDepth 100000 in
theorem so_ha58 : so_hd 58 ∈ lw_tbl := List.mem_of_getElem? (i := 658) (by decide +kernel)
set_option maxRecDepth 100000 in
theorem so_ha59 : so_hd 59 ∈ lw_tbl := List.mem_of_getElem? (i := 662) (by decide +kernel)
set_option maxRecDepth 100000 in
theorem so_ha60 : so_hd 60 ∈ lw_tbl := List.mem_of_getElem? (i := 132) (by decide +kernel)
set_option maxRecDepth 100000 in
theorem so_ha61 : so_hd 61 ∈ lw_tbl := List.mem_of_getElem? (i := 581) (by decide +kernel)
set_option maxRecDepth 100000 in
theorem so_ha62 : so_hd 62 ∈ lw_tbl := List.mem_of_getElem? (i := 650) (by decide +kernel)
set_option maxRecDepth 100000 in
theorem so_ha63 : so_hd 63 ∈ lw_tbl := List.mem_of_getElem? (i := 670) (by decide +kernel)
set_option maxRecDepth 100000 in
theorem so_ha64 : so_hd 64 ∈ lw_tbl := List.mem_of_getElem? (i := 678) (by decide +kernel)
set_option maxRecDepth 100000 in
theorem so_ha65 : so_hd 65 ∈ lw_tbl := List.mem_of_getElem? (i := 654) (by decide +kernel)
set_option maxRecDepth 100000 in
theorem so_ha66 : so_hd 66 ∈ lw_tbl := List.mem_of_getElem? (i := 751) (by decide +kernel)
set_option maxRecDepth 100000 in
theorem so_ha67 : so_hd 67 ∈ lw_tbl := List.mem_of_getElem? (i := 687) (by decide +kernel)
set_option maxRecDepth 100000 in
theorem so_ha68 : so_hd 68 ∈ lw_tbl := List.mem_of_getElem? (i := 683) (by decide +kernel)
set_option maxRecDepth 100000 in
theorem so_ha69 : so_hd 69 ∈ lw_tbl := List.mem_of_getElem? (i := 760) (by decide +kernel)
set_option maxRecDepth 100000 in
theorem so_ha70 : so_hd 70 ∈ lw_tbl := List.mem_of_getElem? (i := 421) (by decide +kernel)
set_option maxRecDepth 100000 in
theorem so_ha71 : so_hd 71 ∈ lw_tbl := List.mem_of_getElem? (i := 125) (by decide +kernel)
set_option maxRecDepth 100000 in
theorem so_ha72 : so_hd 72 ∈ lw_tbl := List.mem_of_getElem? (i := 849) (by decide +kernel)
set_option maxRecDepth 100000 in
theorem so_ha73 : so_hd 73 ∈ lw_tbl := List.mem_of_getElem? (i := 417) (by decide +kernel)
set_option maxRecDepth 100000 in
theorem so_ha74 : so_hd 74 ∈ lw_tbl := List.mem_of_getElem? (i := 746) (by decide +kernel)
set_option maxRecDepth 100000 in
theorem so_ha75 : so_hd 75 ∈ lw_tbl := List.mem_of_getElem? (i := 576) (by decide +kernel)
set_option maxRecDepth 100000 in
theorem so_ha76 : so_hd 76 ∈ lw_tbl := List.mem_of_getElem? (i := 691) (by decide +kernel)
set_option maxRecDepth 100000 in
theorem so_ha77 : so_hd 77 ∈ lw_tbl := List.mem_of_getElem? (i := 108) (by decide +kernel)
set_option maxRecDepth 100000 in
theorem so_ha78 : so_hd 78 ∈ lw_tbl := List.mem_of_getElem? (i := 539) (by decide +kernel)
set_option maxRecDepth 100000 in
theorem so_ha79 : so_hd 79 ∈ lw_tbl := List.mem_of_getElem? (i := 589) (by decide +kernel)
set_option maxRecDepth 100000 in
theorem so_ha80 : so_hd 80 ∈ lw_tbl := List.mem_of_getElem? (i := 909) (by decide +kernel)
set_option maxRecDepth 100000 in
theorem so_ha81 : so_hd 81 ∈ lw_tbl := List.mem_of_getElem? (i := 100) (by decide +kernel)
set_option maxRecDepth 100000 in
theorem so_ha82 : so_hd 82 ∈ lw_tbl := List.mem_of_getElem? (i := 466) (by decide +kernel)
set_option maxRecDepth 100000 in
theorem so_ha83 : so_hd 83 ∈ lw_tbl := List.mem_of_getElem? (i := 547) (by decide +kernel)
set_option maxRecDepth 100000 in
theorem so_ha84 : so_hd 84 ∈ lw_tbl := List.mem_of_getElem? (i := 570) (by decide +kernel)
set_option maxRecDepth 100000 in
theorem so_ha85 : so_hd 85 ∈ lw_tbl := List.mem_of_getElem? (i := 384) (by decide +kernel)
set_option maxRecDepth 100000 in
theorem so_ha86 : so_hd 86 ∈ lw_tbl := List.mem_of_getElem? (i := 699) (by decide +kernel)
set_option maxRecDepth 100000 in
theorem so_ha87 : so_hd 87 ∈ lw_tbl := List.mem_of_getElem? (i := 722) (by decide +kernel)
set_option maxRecDepth 100000 in
theorem so_ha88 : so_hd 88 ∈ lw_tbl := List.mem_of_getElem? (i := 730) (by decide +kernel)
set_option maxRecDepth 100000 in
theorem so_ha89 : so_hd 89 ∈ lw_tbl := List.mem_of_getElem? (i := 820) (by decide +kernel)
set_option maxRecDepth 100000 in
theorem so_ha90 : so_hd 90 ∈ lw_tbl := List.mem_of_getElem? (i := 828) (by decide +kernel)
set_option maxRecDepth 100000 in
theorem so_ha91 : so_hd 91 ∈ lw_tbl := List.mem_of_getElem? (i := 837) (by decide +kernel)
set_option maxRecDepth 100000 in
theorem so_ha92 : so_hd 92 ∈ lw_tbl := List.mem_of_getElem? (i := 845) (by decide +kernel)
set_option maxRecDepth 100000 in
theorem so_ha93 : so_hd 93 ∈ lw_tbl := List.mem_of_getElem? (i := 865) (by decide +kernel)
set_option maxRecDepth 100000 in
theorem so_ha94 : so_hd 94 ∈ lw_tbl := List.mem_of_getElem? (i := 883) (by decide +kernel)
set_option maxRecDepth 100000 in
theorem so_ha95 : so_hd 95 ∈ lw_tbl := List.mem_of_getElem? (i := 895) (by decide +kernel)
set_option maxRecDepth 100000 in
theorem so_ha96 : so_hd 96 ∈ lw_tbl := List.mem_of_getElem? (i := 947) (by decide +kernel)
set_option maxRecDepth 100000 in
theorem so_ha97 : so_hd 97 ∈ lw_tbl := List.mem_of_getElem? (i := 955) (by decide +kernel)
set_option maxRecDepth 100000 in
theorem so_ha98 : so_hd 98 ∈ lw_tbl := List.mem_of_getElem? (i := 388) (by decide +kernel)
set_option maxRecDepth 100000 in
theorem so_ha99 : so_hd 99 ∈ lw_tbl := List.mem_of_getElem? (i := 400) (by decide +kernel)
set_option maxRecDepth 100000 in
theorem so_ha100 : so_hd 100 ∈ lw_tbl := List.mem_of_getElem? (i := 408) (by decide +kernel)
set_option maxRecDepth 100000 in
theorem so_ha101 : so_hd 101 ∈ lw_tbl := List.mem_of_getElem? (i := 413) (by decide +kernel)
set_option maxRecDepth 100000 in
theorem so_ha102 : so_hd 102 ∈ lw_tbl := List.mem_of_getElem? (i := 437) (by decide +kernel)
set_option maxRecDepth 100000 in
theorem so_ha103 : so_hd 103 ∈ lw_tbl := List.mem_of_getElem? (i := 453) (by decide +kernel)
set_option maxRecDepth 100000 in
theorem so_ha104 : so_hd 104 ∈ lw_tbl := List.mem_of_getElem? (i := 434) (by decide +kernel)
set_option maxRecDepth 100000 in
theorem so_ha105 : so_hd 105 ∈ lw_tbl := List.mem_of_getElem? (i := 405) (by decide +kernel)
set_option maxRecDepth 100000 in
theorem so_ha106 : so_hd 106 ∈ lw_tbl := List.mem_of_getElem? (i := 854) (by decide +kernel)
set_option maxRecDepth 100000 in
theorem so_ha107 : so_hd 107 ∈ lw_tbl := List.mem_of_getElem? (i := 1154) (by decide +kernel)
set_option maxRecDepth 100000 in
theorem so_ha108 : so_hd 108 ∈ lw_tbl := List.mem_of_getElem? (i := 961) (by decide +kernel)
set_option maxRecDepth 100000 in
theorem so_ha109 : so_hd 109 ∈ lw_tbl := List.mem_of_getElem? (i := 1095) (by decide +kernel)
set_option maxRecDepth 100000 in
theorem so_ha110 : so_hd 110 ∈ lw_tbl := List.mem_of_getElem? (i := 1103) (by decide +kernel)
set_option maxRecDepth 100000 in
theorem so_ha111 : so_hd 111 ∈ lw_tbl := List.mem_of_getElem? (i := 1114) (by decide +kernel)
set_option maxRecDepth 100000 in
theorem so_ha112 : so_hd 112 ∈ lw_tbl := List.mem_of_getElem? (i := 1099) (by decide +kernel)
set_option maxRecDepth 100000 in
theorem so_ha113 : so_hd 113 ∈ lw_tbl := List.mem_of_getElem? (i := 1107) (by decide +kernel)
set_option maxRecDepth 100000 in
theorem so_ha114 : so_hd 114 ∈ lw_tbl := List.mem_of_getElem? (i := 1111) (by decide +kernel)
set_option maxRecDepth 100000 in
theorem so_ha115 : so_hd 115 ∈ lw_tbl := List.mem_of_getElem? (i := 1143) (by decide +kernel)
set_option maxRecDepth 100000 in
theorem so_ha116 : so_hd 116 ∈ lw_tbl := List.mem_of_getElem? (i := 1170) (by decide +kernel)
set_option maxRecDepth 100000 in
theorem so_ha117 : so_hd 117 ∈ lw_tbl := List.mem_of_getElem? (i := 1127) (by decide +kernel)
set_option maxRecDepth 100000 in
theorem so_ha118 : so_hd 118 ∈ lw_tbl := List.mem_of_getElem? (i := 1190) (by decide +kernel)
set_option maxRecDepth 100000 in
theorem so_ha119 : so_hd 119 ∈ lw_tbl := List.mem_of_getElem? (i := 1131) (by decide +kernel)
set_option maxRecDepth 100000 in
theorem so_ha120 : so_hd 120 ∈ lw_tbl := List.mem_of_getElem? (i := 1186) (by decide +kernel)
set_option maxRecDepth 100000 in
theorem so_ha121 : so_hd 121 ∈ lw_tbl := List.mem_of_getElem? (i := 1135) (by decide +kernel)
set_option maxRecDepth 100000 in
theorem so_ha122 : so_hd 122 ∈ lw_tbl := List.mem_of_getElem? (i := 1182) (by decide +kernel)
set_option maxRecDepth 100000 in
theorem so_ha123 : so_hd 123 ∈ lw_tbl := List.mem_of_getElem? (i := 1139) (by decide +kernel)
set_option maxRecDepth 100000 in
theorem so_ha124 : so_hd 124 ∈ lw_tbl := List.mem_of_getElem? (i := 1178) (by decide +kernel)
set_option maxRecDepth 100000 in
theorem so_ha125 : so_hd 125 ∈ lw_tbl := List.mem_of_getElem? (i := 1174) (by decide +kernel)
set_option maxRecDepth 100000 in
theorem so_ha126 : so_hd 126 ∈ lw_tbl := List.mem_of_getElem? (i := 1123) (by decide +kernel)
set_option maxRecDepth 100000 in
theorem so_ha127 : so_hd 127 ∈ lw_tbl := List.mem_of_getElem? (i := 1118) (by decide +kernel)
set_option maxRecDepth 100000 in
theorem so_ha128 : so_hd 128 ∈ lw_tbl := List.mem_of_getElem? (i := 1202) (by decide +kernel)
set_option maxRecDepth 100000 in
theorem so_ha129 : so_hd 129 ∈ lw_tbl := List.mem_of_getElem? (i := 1198) (by decide +kernel)
set_option maxRecDepth 100000 in
theorem so_ha130 : so_hd 130 ∈ lw_tbl := List.mem_of_getElem? (i := 1194) (by decide +kernel)
set_option maxRecDepth 100000 in
theorem so_ha131 : so_hd 131 ∈ lw_tbl := List.mem_of_getElem? (i := 1206) (by decide +kernel)
set_option maxRecDepth 100000 in
theorem so_ha132 : so_hd 132 ∈ lw_tbl := List.mem_of_getElem? (i := 1214) (by decide +kernel)
set_option maxRecDepth 100000 in
theorem so_ha133 : so_hd 133 ∈ lw_tbl := List.mem_of_getElem? (i := 1210) (by decide +kernel)
set_option maxRecDepth 100000 in
theorem so_ha134 : so_hd 134 ∈ lw_tbl := List.mem_of_getElem? (i := 1223) (by decide +kernel)
set_option maxRecDepth 100000 in
theorem so_ha135 : so_hd 135 ∈ lw_tbl := List.mem_of_getElem? (i := 1219) (by decide +kernel)
set_option maxRecDepth 100000 in
theorem so_ha136 : so_hd 136 ∈ lw_tbl := List.mem_of_getElem? (i := 1243) (by decide +kernel)
set_option maxRecDepth 100000 in
theorem so_ha137 : so_hd 137 ∈ lw_tbl := List.mem_of_getElem? (i := 1239) (by decide +kernel)
set_option maxRecDepth 100000 in
theorem so_ha138 : so_hd 138 ∈ lw_tbl := List.mem_of_getElem? (i := 1235) (by decide +kernel)
set_option maxRecDepth 100000 in
theorem so_ha139 : so_hd 139 ∈ lw_tbl := List.mem_of_getElem? (i := 1247) (by decide +kernel)
set_option maxRecDepth 100000 in
theorem so_ha140 : so_hd 140 ∈ lw_tbl := List.mem_of_getElem? (i := 1231) (by decide +kernel)
set_option maxRecDepth 100000 in
theorem so_ha141 : so_hd 141 ∈ lw_tbl := List.mem_of_getElem? (i := 1254) (by decide +kernel)
set_option maxRecDepth 100000 in
theorem so_ha142 : so_hd 142 ∈ lw_tbl := List.mem_of_getElem? (i := 1262) (by decide +kernel)
set_option maxRecDepth 100000 in
theorem so_ha143 : so_hd 143 ∈ lw_tbl := List.mem_of_getElem? (i := 1258) (by decide +kernel)
set_option maxRecDepth 100000 in
theorem so_ha144 : so_hd 144 ∈ lw_tbl := List.mem_of_getElem? (i := 1266) (by decide +kernel)
set_option maxRecDepth 100000 in
theorem so_ha145 : so_hd 145 ∈ lw_tbl := List.mem_of_getElem? (i := 1227) (by decide +kernel)
set_option maxRecDepth 100000 in
theorem so_ha146 : so_hd 146 ∈ lw_tbl := List.mem_of_getElem? (i := 1274) (by decide +kernel)
set_option maxRecDepth 100000 in
theorem so_ha147 : so_hd 147 ∈ lw_tbl := List.mem_of_getElem? (i := 1282) (by decide +kernel)
set_option maxRecDepth 100000 in
theorem so_ha148 : so_hd 148 ∈ lw_tbl := List.mem_of_getElem? (i := 1271) (by decide +kernel)
set_option maxRecDepth 100000 in
theorem so_ha149 : so_hd 149 ∈ lw_tbl := List.mem_of_getElem? (i := 1278) (by decide +kernel)
set_option maxRecDepth 100000 in
theorem so_ha150 : so_hd 150 ∈ lw_tbl := List.mem_of_getElem? (i := 1286) (by decide +kernel)
set_option maxRecDepth 100000 in
theorem so_ha151 : so_hd 151 ∈ lw_tbl := List.mem_of_getElem? (i := 1294) (by decide +kernel)
set_option maxRecDepth 100000 in
theorem so_ha152 : so_hd 152 ∈ lw_tbl := List.mem_of_getElem? (i := 1298) (by decide +kernel)
set_option maxRecDepth 100000 in
theorem so_ha153 : so_hd 153 ∈ lw_tbl := List.mem_of_getElem? (i := 1290) (by decide +kernel)
set_option maxRecDepth 100000 in
theorem so_ha154 : so_hd 154 ∈ lw_tbl := List.mem_of_getElem? (i := 1302) (by decide +kernel)
set_option maxRecDepth 100000 in
theorem so_ha155 : so_hd 155 ∈ lw_tbl := List.mem_of_getElem? (i := 1306) (by decide +kernel)
set_option maxRecDepth 100000 in
theorem so_ha156 : so_hd 156 ∈ lw_tbl := List.mem_of_getElem? (i := 1317) (by decide +kernel)
set_option maxRecDepth 100000 in
theorem so_ha157 : so_hd 157 ∈ lw_tbl := List.mem_of_getElem? (i := 1329) (by decide +kernel)
set_option maxRecDepth 100000 in
theorem so_ha158 : so_hd 158 ∈ lw_tbl := List.mem_of_getElem? (i := 1325) (by decide +kernel)
set_option maxRecDepth 100000 in
theorem so_ha159 : so_hd 159 ∈ lw_tbl := List.mem_of_getElem? (i := 1333) (by decide +kernel)
set_option maxRecDepth 100000 in
theorem so_ha160 : so_hd 160 ∈ lw_tbl := List.mem_of_getElem? (i := 1321) (by decide +kernel)
set_option maxRecDepth 100000 in
theorem so_ha161 : so_hd 161 ∈ lw_tbl := List.mem_of_getElem? (i := 1313) (by decide +kernel)
set_option maxRecDepth 100000 in
theorem so_ha162 : so_hd 162 ∈ lw_tbl := List.mem_of_getElem? (i := 1337) (by decide +kernel)
set_option maxRecDepth 100000 in
theorem so_ha163 : so_hd 163 ∈ lw_tbl := List.mem_of_getElem? (i := 1341) (by decide +kernel)
set_option maxRecDepth 100000 in
theorem so_ha164 : so_hd 164 ∈ lw_tbl := List.mem_of_getElem? (i := 1345) (by decide +kernel)
set_option maxRecDepth 100000 in
theorem so_ha165 : so_hd 165 ∈ lw_tbl := List.mem_of_getElem? (i := 1349) (by decide +kernel)
set_option maxRecDepth 100000 in
theorem so_ha166 : so_hd 166 ∈ lw_tbl := List.mem_of_getElem? (i := 424) (by decide +kernel)
set_option maxRecDepth 100000 in
theorem so_ha167 : so_hd 167 ∈ lw_tbl := List.mem_of_getElem? (i := 461) (by decide +kernel)
set_option maxRecDepth 100000 in
theorem so_ha168 : so_hd 168 ∈ lw_tbl := List.mem_of_getElem? (i := 542) (by decide +kernel)
set_option maxRecDepth 100000 in
theorem so_ha169 : so_hd 169 ∈ lw_tbl := List.mem_of_getElem? (i := 566) (by decide +kernel)
set_option maxRecDepth 100000 in
theorem so_ha170 : so_hd 170 ∈ lw_tbl := List.mem_of_getElem? (i := 694) (by decide +kernel)
set_option maxRecDepth 100000 in
theorem so_ha171 : so_hd 171 ∈ lw_tbl := List.mem_of_getElem? (i := 718) (by decide +kernel)
set_option maxRecDepth 100000 in
theorem so_ha172 : so_hd 172 ∈ lw_tbl := List.mem_of_getElem? (i := 726) (by decide +kernel)
set_option maxRecDepth 100000 in
theorem so_ha173 : so_hd 173 ∈ lw_tbl := List.mem_of_getElem? (i := 816) (by decide +kernel)
set_option maxRecDepth 100000 in
theorem so_ha174 : so_hd 174 ∈ lw_tbl := List.mem_of_getElem? (i := 824) (by decide +kernel)
set_option maxRecDepth 100000 in
theorem so_ha175 : so_hd 175 ∈ lw_tbl := List.mem_of_getElem? (i := 833) (by decide +kernel)
set_option maxRecDepth 100000 in
theorem so_ha176 : so_hd 176 ∈ lw_tbl := List.mem_of_getElem? (i := 841) (by decide +kernel)
set_option maxRecDepth 100000 in
theorem so_ha177 : so_hd 177 ∈ lw_tbl := List.mem_of_getElem? (i := 861) (by decide +kernel)
set_option maxRecDepth 100000 in
theorem so_ha178 : so_hd 178 ∈ lw_tbl := List.mem_of_getElem? (i := 879) (by decide +kernel)
set_option maxRecDepth 100000 in
theorem so_ha179 : so_hd 179 ∈ lw_tbl := List.mem_of_getElem? (i := 891) (by decide +kernel)
set_option maxRecDepth 100000 in
theorem so_ha180 : so_hd 180 ∈ lw_tbl := List.mem_of_getElem? (i := 943) (by decide +kernel)
set_option maxRecDepth 100000 in
theorem so_ha181 : so_hd 181 ∈ lw_tbl := List.mem_of_getElem? (i := 951) (by decide +kernel)
theorem so_hg0 : ∀ k ∈ [0, 1, 2, 3, 4, 5, 6, 7, 8, 9, 10, 11, 12, 13, 14, 15], so_hd k ∈ lw_tbl := List.forall_mem_cons.mpr ⟨so_ha0, List.forall_mem_cons.mpr ⟨so_ha1, List.forall_mem_cons.mpr ⟨so_ha2, List.forall_mem_cons.mpr ⟨so_ha3, List.forall_mem_cons.mpr ⟨so_ha4, List.forall_mem_cons.mpr ⟨so_ha5, List.forall_mem_cons.mpr ⟨so_ha6, List.forall_mem_cons.mpr ⟨so_ha7, List.forall_mem_cons.mpr ⟨so_ha8, List.forall_mem_cons.mpr ⟨so_ha9, List.forall_mem_cons.mpr ⟨so_ha10, List.forall_mem_cons.mpr ⟨so_ha11, List.forall_mem_cons.mpr ⟨so_ha12, List.forall_mem_cons.mpr ⟨so_ha13, List.forall_mem_cons.mpr ⟨so_ha14, List.forall_mem_cons.mpr ⟨so_ha15, fun _ h => absurd h List.not_mem_nil⟩⟩⟩⟩⟩⟩⟩⟩⟩⟩⟩⟩⟩⟩⟩⟩
theorem so_hg1 : ∀ k ∈ [16, 17, 18, 19, 20, 21, 22, 23, 24, 25, 26, 27, 28, 29, 30, 31], so_hd k ∈ lw_tbl := List.forall_mem_cons.mpr ⟨so_ha16, List.forall_mem_cons.mpr ⟨so_ha17, List.forall_mem_cons.mpr ⟨so_ha18, List.forall_mem_cons.mpr ⟨so_ha19, List.forall_mem_cons.mpr ⟨so_ha20, List.forall_mem_cons.mpr ⟨so_ha21, List.forall_mem_cons.mpr ⟨so_ha22, List.forall_mem_cons.mpr ⟨so_ha23, List.forall_mem_cons.mpr ⟨so_ha24, List.forall_mem_cons.mpr ⟨so_ha25, List.forall_mem_cons.mpr ⟨so_ha26, List.forall_mem_cons.mpr ⟨so_ha27, List.forall_mem_cons.mpr ⟨so_ha28, List.forall_mem_cons.mpr ⟨so_ha29, List.forall_mem_cons.mpr ⟨so_ha30, List.forall_mem_cons.mpr ⟨so_ha31, fun _ h => absurd h List.not_mem_nil⟩⟩⟩⟩⟩⟩⟩⟩⟩⟩⟩⟩⟩⟩⟩⟩
theorem so_hg2 : ∀ k ∈ [32, 33, 34, 35, 36, 37, 38, 39, 40, 41, 42, 43, 44, 45, 46, 47], so_hd k ∈ lw_tbl := List.forall_mem_cons.mpr ⟨so_ha32, List.forall_mem_cons.mpr ⟨so_ha33, List.forall_mem_cons.mpr ⟨so_ha34, List.forall_mem_cons.mpr ⟨so_ha35, List.forall_mem_cons.mpr ⟨so_ha36, List.forall_mem_cons.mpr ⟨so_ha37, List.forall_mem_cons.mpr ⟨so_ha38, List.forall_mem_cons.mpr ⟨so_ha39, List.forall_mem_cons.mpr ⟨so_ha40, List.forall_mem_cons.mpr ⟨so_ha41, List.forall_mem_cons.mpr ⟨so_ha42, List.forall_mem_cons.mpr ⟨so_ha43, List.forall_mem_cons.mpr ⟨so_ha44, List.forall_mem_cons.mpr ⟨so_ha45, List.forall_mem_cons.mpr ⟨so_ha46, List.forall_mem_cons.mpr ⟨so_ha47, fun _ h => absurd h List.not_mem_nil⟩⟩⟩⟩⟩⟩⟩⟩⟩⟩⟩⟩⟩⟩⟩⟩
theorem so_hg3 : ∀ k ∈ [48, 49, 50, 51, 52, 53, 54, 55, 56, 57, 58, 59, 60, 61, 62, 63], so_hd k ∈ lw_tbl := List.forall_mem_cons.mpr ⟨so_ha48, List.forall_mem_cons.mpr ⟨so_ha49, List.forall_mem_cons.mpr ⟨so_ha50, List.forall_mem_cons.mpr ⟨so_ha51, List.forall_mem_cons.mpr ⟨so_ha52, List.forall_mem_cons.mpr ⟨so_ha53, List.forall_mem_cons.mpr ⟨so_ha54, List.forall_mem_cons.mpr ⟨so_ha55, List.forall_mem_cons.mpr ⟨so_ha56, List.forall_mem_cons.mpr ⟨so_ha57, List.forall_mem_cons.mpr ⟨so_ha58, List.forall_mem_cons.mpr ⟨so_ha59, List.forall_mem_cons.mpr ⟨so_ha60, List.forall_mem_cons.mpr ⟨so_ha61, List.forall_mem_cons.mpr ⟨so_ha62, List.forall_mem_cons.mpr ⟨so_ha63, fun _ h => absurd h List.not_mem_nil⟩⟩⟩⟩⟩⟩⟩⟩⟩⟩⟩⟩⟩⟩⟩⟩
theorem so_hg4 : ∀ k ∈ [64, 65, 66, 67, 68, 69, 70, 71, 72, 73, 74, 75, 76, 77, 78, 79], so_hd k ∈ lw_tbl := List.forall_mem_cons.mpr ⟨so_ha64, List.forall_mem_cons.mpr ⟨so_ha65, List.forall_mem_cons.mpr ⟨so_ha66, List.forall_mem_cons.mpr ⟨so_ha67, List.forall_mem_cons.mpr ⟨so_ha68, List.forall_mem_cons.mpr ⟨so_ha69, List.forall_mem_cons.mpr ⟨so_ha70, List.forall_mem_cons.mpr ⟨so_ha71, List.forall_mem_cons.mpr ⟨so_ha72, List.forall_mem_cons.mpr ⟨so_ha73, List.forall_mem_cons.mpr ⟨so_ha74, List.forall_mem_cons.mpr ⟨so_ha75, List.forall_mem_cons.mpr ⟨so_ha76, List.forall_mem_cons.mpr ⟨so_ha77, List.forall_mem_cons.mpr ⟨so_ha78, List.forall_mem_cons.mpr ⟨so_ha79, fun _ h => absurd h List.not_mem_nil⟩⟩⟩⟩⟩⟩⟩⟩⟩⟩⟩⟩⟩⟩⟩⟩
theorem so_hg5 : ∀ k ∈ [80, 81, 82, 83, 84, 85, 86, 87, 88, 89, 90, 91, 92, 93, 94, 95], so_hd k ∈ lw_tbl := List.forall_mem_cons.mpr ⟨so_ha80, List.forall_mem_cons.mpr ⟨so_ha81, List.forall_mem_cons.mpr ⟨so_ha82, List.forall_mem_cons.mpr ⟨so_ha83, List.forall_mem_cons.mpr ⟨so_ha84, List.forall_mem_cons.mpr ⟨so_ha85, List.forall_mem_cons.mpr ⟨so_ha86, List.forall_mem_cons.mpr ⟨so_ha87, List.forall_mem_cons.mpr ⟨so_ha88, List.forall_mem_cons.mpr ⟨so_ha89, List.forall_mem_cons.mpr ⟨so_ha90, List.forall_mem_cons.mpr ⟨so_ha91, List.forall_mem_cons.mpr ⟨so_ha92, List.forall_mem_cons.mpr ⟨so_ha93, List.forall_mem_cons.mpr ⟨so_ha94, List.forall_mem_cons.mpr ⟨so_ha95, fun _ h => absurd h List.not_mem_nil⟩⟩⟩⟩⟩⟩⟩⟩⟩⟩⟩⟩⟩⟩⟩⟩
theorem so_hg6 : ∀ k ∈ [96, 97, 98, 99, 100, 101, 102, 103, 104, 105, 106, 107, 108, 109, 110, 111], so_hd k ∈ lw_tbl := List.forall_mem_cons.mpr ⟨so_ha96, List.forall_mem_cons.mpr ⟨so_ha97, List.forall_mem_cons.mpr ⟨so_ha98, List.forall_mem_cons.mpr ⟨so_ha99, List.forall_mem_cons.mpr ⟨so_ha100, List.forall_mem_cons.mpr ⟨so_ha101, List.forall_mem_cons.mpr ⟨so_ha102, List.forall_mem_cons.mpr ⟨so_ha103, List.forall_mem_cons.mpr ⟨so_ha104, List.forall_mem_cons.mpr ⟨so_ha105, List.forall_mem_cons.mpr ⟨so_ha106, List.forall_mem_cons.mpr ⟨so_ha107, List.forall_mem_cons.mpr ⟨so_ha108, List.forall_mem_cons.mpr ⟨so_ha109, List.forall_mem_cons.mpr ⟨so_ha110, List.forall_mem_cons.mpr ⟨so_ha111, fun _ h => absurd h List.not_mem_nil⟩⟩⟩⟩⟩⟩⟩⟩⟩⟩⟩⟩⟩⟩⟩⟩
theorem so_hg7 : ∀ k ∈ [112, 113, 114, 115, 116, 117, 118, 119, 120, 121, 122, 123, 124, 125, 126, 127], so_hd k ∈ lw_tbl := List.forall_mem_cons.mpr ⟨so_ha112, List.forall_mem_cons.mpr ⟨so_ha113, List.forall_mem_cons.mpr ⟨so_ha114, List.forall_mem_cons.mpr ⟨so_ha115, List.forall_mem_cons.mpr ⟨so_ha116, List.forall_mem_cons.mpr ⟨so_ha117, List.forall_mem_cons.mpr ⟨so_ha118, List.forall_mem_cons.mpr ⟨so_ha119, List.forall_mem_cons.mpr ⟨so_ha120, List.forall_mem_cons.mpr ⟨so_ha121, List.forall_mem_cons.mpr ⟨so_ha122, List.forall_mem_cons.mpr ⟨so_ha123, List.forall_mem_cons.mpr ⟨so_ha124, List.forall_mem_cons.mpr ⟨so_ha125, List.forall_mem_cons.mpr ⟨so_ha126, List.forall_mem_cons.mpr ⟨so_ha127, fun _ h => absurd h List.not_mem_nil⟩⟩⟩⟩⟩⟩⟩⟩⟩⟩⟩⟩⟩⟩⟩⟩
theorem so_hg8 : ∀ k ∈ [128, 129, 130, 131, 132, 133, 134, 135, 136, 137, 138, 139, 140, 141, 142, 143], so_hd k ∈ lw_tbl := List.forall_mem_cons.mpr ⟨so_ha128, List.forall_mem_cons.mpr ⟨so_ha129, List.forall_mem_cons.mpr ⟨so_ha130, List.forall_mem_cons.mpr ⟨so_ha131, List.forall_mem_cons.mpr ⟨so_ha132, List.forall_mem_cons.mpr ⟨so_ha133, List.forall_mem_cons.mpr ⟨so_ha134, List.forall_mem_cons.mpr ⟨so_ha135, List.forall_mem_cons.mpr ⟨so_ha136, List.forall_mem_cons.mpr ⟨so_ha137, List.forall_mem_cons.mpr ⟨so_ha138, List.forall_mem_cons.mpr ⟨so_ha139, List.forall_mem_cons.mpr ⟨so_ha140, List.forall_mem_cons.mpr ⟨so_ha141, List.forall_mem_cons.mpr ⟨so_ha142, List.forall_mem_cons.mpr ⟨so_ha143, fun _ h => absurd h List.not_mem_nil⟩⟩⟩⟩⟩⟩⟩⟩⟩⟩⟩⟩⟩⟩⟩⟩
theorem so_hg9 : ∀ k ∈ [144, 145, 146, 147, 148, 149, 150, 151, 152, 153, 154, 155, 156, 157, 158, 159], so_hd k ∈ lw_tbl := List.forall_mem_cons.mpr ⟨so_ha144, List.forall_mem_cons.mpr ⟨so_ha145, List.forall_mem_cons.mpr ⟨so_ha146, List.forall_mem_cons.mpr ⟨so_ha147, List.forall_mem_cons.mpr ⟨so_ha148, List.forall_mem_cons.mpr ⟨so_ha149, List.forall_mem_cons.mpr ⟨so_ha150, List.forall_mem_cons.mpr ⟨so_ha151, List.forall_mem_cons.mpr ⟨so_ha152, List.forall_mem_cons.mpr ⟨so_ha153, List.forall_mem_cons.mpr ⟨so_ha154, List.forall_mem_cons.mpr ⟨so_ha155, List.forall_mem_cons.mpr ⟨so_ha156, List.forall_mem_cons.mpr ⟨so_ha157, List.forall_mem_cons.mpr ⟨so_ha158, List.forall_mem_cons.mpr ⟨so_ha159, fun _ h => absurd h List.not_mem_nil⟩⟩⟩⟩⟩⟩⟩⟩⟩⟩⟩⟩⟩⟩⟩⟩
theorem so_hg10 : ∀ k ∈ [160, 161, 162, 163, 164, 165, 166, 167, 168, 169, 170, 171, 172, 173, 174, 175], so_hd k ∈ lw_tbl := List.forall_mem_cons.mpr ⟨so_ha160, List.forall_mem_cons.mpr ⟨so_ha161, List.forall_mem_cons.mpr ⟨so_ha162, List.forall_mem_cons.mpr ⟨so_ha163, List.forall_mem_cons.mpr ⟨so_ha164, List.forall_mem_cons.mpr ⟨so_ha165, List.forall_mem_cons.mpr ⟨so_ha166, List.forall_mem_cons.mpr ⟨so_ha167, List.forall_mem_cons.mpr ⟨so_ha168, List.forall_mem_cons.mpr ⟨so_ha169, List.forall_mem_cons.mpr ⟨so_ha170, List.forall_mem_cons.mpr ⟨so_ha171, List.forall_mem_cons.mpr ⟨so_ha172, List.forall_mem_cons.mpr ⟨so_ha173, List.forall_mem_cons.mpr ⟨so_ha174, List.forall_mem_cons.mpr ⟨so_ha175, fun _ h => absurd h List.not_mem_nil⟩⟩⟩⟩⟩⟩⟩⟩⟩⟩⟩⟩⟩⟩⟩⟩
theorem so_hg11 : ∀ k ∈ [176, 177, 178, 179, 180, 181], so_hd k ∈ lw_tbl := List.forall_mem_cons.mpr ⟨so_ha176, List.forall_mem_cons.mpr ⟨so_ha177, List.forall_mem_cons.mpr ⟨so_ha178, List.forall_mem_cons.mpr ⟨so_ha179, List.forall_mem_cons.mpr ⟨so_ha180, List.forall_mem_cons.mpr ⟨so_ha181, fun _ h => absurd h List.not_mem_nil⟩⟩⟩⟩⟩⟩
theorem so_hdm {M : Nat} (h : M < 182) : so_hd M ∈ lw_tbl := by
  by_cases h0 : M < 16
  · exact so_hg0 M (by simp only [List.mem_cons, List.not_mem_nil, or_false]; omega)
  by_cases h1 : M < 32
  · exact so_hg1 M (by simp only [List.mem_cons, List.not_mem_nil, or_false]; omega)
  by_cases h2 : M < 48
  · exact so_hg2 M (by simp only [List.mem_cons, List.not_mem_nil, or_false]; omega)
  by_cases h3 : M < 64
  · exact so_hg3 M (by simp only [List.mem_cons, List.not_mem_nil, or_false]; omega)
  by_cases h4 : M < 80
  · exact so_hg4 M (by simp only [List.mem_cons, List.not_mem_nil, or_false]; omega)
  by_cases h5 : M < 96
  · exact so_hg5 M (by simp only [List.mem_cons, List.not_mem_nil, or_false]; omega)
  by_cases h6 : M < 112
  · exact so_hg6 M (by simp only [List.mem_cons, List.not_mem_nil, or_false]; omega)
  by_cases h7 : M < 128
  · exact so_hg7 M (by simp only [List.mem_cons, List.not_mem_nil, or_false]; omega)
  by_cases h8 : M < 144
  · exact so_hg8 M (by simp only [List.mem_cons, List.not_mem_nil, or_false]; omega)
  by_cases h9 : M < 160
  · exact so_hg9 M (by simp only [List.mem_cons, List.not_mem_nil, or_false]; omega)
  by_cases h10 : M < 176
  · exact so_hg10 M (by simp only [List.mem_cons, List.not_mem_nil, or_false]; omega)
  exact so_hg11 M (by simp only [List.mem_cons, List.not_mem_nil, or_false]; omega)
