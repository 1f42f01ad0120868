-- the law's cases
theorem st_L_13 : siteV "TakerBookLaw" 13 ⟨"TakerBook", "row", "(II)I"⟩ := ⟨List.mem_of_getElem? (i := 401) (by decide +kernel), List.mem_of_getElem? (i := 402) (by decide +kernel), List.mem_of_getElem? (i := 403) (by decide +kernel)⟩
theorem st_L_17 : siteV "TakerBookLaw" 17 ⟨"TakerBookModel", "row", "(II)I"⟩ := ⟨List.mem_of_getElem? (i := 1123) (by decide +kernel), List.mem_of_getElem? (i := 1124) (by decide +kernel), List.mem_of_getElem? (i := 1125) (by decide +kernel)⟩
theorem st_L_18 : siteV "TakerBookLaw" 18 ⟨"TakerBook", "lay", "(III)I"⟩ := ⟨List.mem_of_getElem? (i := 412) (by decide +kernel), List.mem_of_getElem? (i := 413) (by decide +kernel), List.mem_of_getElem? (i := 414) (by decide +kernel)⟩
theorem st_L_22 : siteV "TakerBookLaw" 22 ⟨"TakerBookModel", "lay", "(III)I"⟩ := ⟨List.mem_of_getElem? (i := 1134) (by decide +kernel), List.mem_of_getElem? (i := 1135) (by decide +kernel), List.mem_of_getElem? (i := 1136) (by decide +kernel)⟩
theorem st_L_23 : siteV "TakerBookLaw" 23 ⟨"TakerBook", "at", "(II)I"⟩ := ⟨List.mem_of_getElem? (i := 424) (by decide +kernel), List.mem_of_getElem? (i := 425) (by decide +kernel), List.mem_of_getElem? (i := 426) (by decide +kernel)⟩
theorem st_L_26 : siteV "TakerBookLaw" 26 ⟨"TakerBookModel", "at", "(II)I"⟩ := ⟨List.mem_of_getElem? (i := 1146) (by decide +kernel), List.mem_of_getElem? (i := 1147) (by decide +kernel), List.mem_of_getElem? (i := 1148) (by decide +kernel)⟩
theorem st_L_27 : siteV "TakerBookLaw" 27 ⟨"TakerBook", "tear", "(I)I"⟩ := ⟨List.mem_of_getElem? (i := 428) (by decide +kernel), List.mem_of_getElem? (i := 429) (by decide +kernel), List.mem_of_getElem? (i := 430) (by decide +kernel)⟩
theorem st_L_31 : siteV "TakerBookLaw" 31 ⟨"TakerBookModel", "tear", "(I)I"⟩ := ⟨List.mem_of_getElem? (i := 1150) (by decide +kernel), List.mem_of_getElem? (i := 1151) (by decide +kernel), List.mem_of_getElem? (i := 1152) (by decide +kernel)⟩
theorem st_L_32 : siteV "TakerBookLaw" 32 ⟨"TakerBook", "copy", "(IIIII)I"⟩ := ⟨List.mem_of_getElem? (i := 432) (by decide +kernel), List.mem_of_getElem? (i := 433) (by decide +kernel), List.mem_of_getElem? (i := 434) (by decide +kernel)⟩
theorem st_L_36 : siteV "TakerBookLaw" 36 ⟨"TakerBookModel", "copy", "(IIIII)I"⟩ := ⟨List.mem_of_getElem? (i := 1154) (by decide +kernel), List.mem_of_getElem? (i := 1155) (by decide +kernel), List.mem_of_getElem? (i := 1156) (by decide +kernel)⟩
theorem st_L_37 : siteV "TakerBookLaw" 37 ⟨"TakerBook", "mean", "(I)I"⟩ := ⟨List.mem_of_getElem? (i := 442) (by decide +kernel), List.mem_of_getElem? (i := 443) (by decide +kernel), List.mem_of_getElem? (i := 444) (by decide +kernel)⟩
theorem st_L_40 : siteV "TakerBookLaw" 40 ⟨"TakerBookModel", "mean", "(I)I"⟩ := ⟨List.mem_of_getElem? (i := 1158) (by decide +kernel), List.mem_of_getElem? (i := 1159) (by decide +kernel), List.mem_of_getElem? (i := 1160) (by decide +kernel)⟩
theorem st_L_41 : siteV "TakerBookLaw" 41 ⟨"TakerBook", "text", "(II)I"⟩ := ⟨List.mem_of_getElem? (i := 446) (by decide +kernel), List.mem_of_getElem? (i := 447) (by decide +kernel), List.mem_of_getElem? (i := 448) (by decide +kernel)⟩
theorem st_L_44 : siteV "TakerBookLaw" 44 ⟨"TakerBookModel", "text", "(II)I"⟩ := ⟨List.mem_of_getElem? (i := 1162) (by decide +kernel), List.mem_of_getElem? (i := 1163) (by decide +kernel), List.mem_of_getElem? (i := 1164) (by decide +kernel)⟩
theorem st_L_45 : siteV "TakerBookLaw" 45 ⟨"TakerBook", "put", "(III)I"⟩ := ⟨List.mem_of_getElem? (i := 453) (by decide +kernel), List.mem_of_getElem? (i := 454) (by decide +kernel), List.mem_of_getElem? (i := 455) (by decide +kernel)⟩
theorem st_L_48 : siteV "TakerBookLaw" 48 ⟨"TakerBookModel", "put", "(III)I"⟩ := ⟨List.mem_of_getElem? (i := 1169) (by decide +kernel), List.mem_of_getElem? (i := 1170) (by decide +kernel), List.mem_of_getElem? (i := 1171) (by decide +kernel)⟩
theorem st_L_49 : siteV "TakerBookLaw" 49 ⟨"TakerBook", "fault", "(I)I"⟩ := ⟨List.mem_of_getElem? (i := 461) (by decide +kernel), List.mem_of_getElem? (i := 462) (by decide +kernel), List.mem_of_getElem? (i := 463) (by decide +kernel)⟩
theorem st_L_52 : siteV "TakerBookLaw" 52 ⟨"TakerBookModel", "fault", "(I)I"⟩ := ⟨List.mem_of_getElem? (i := 1173) (by decide +kernel), List.mem_of_getElem? (i := 1174) (by decide +kernel), List.mem_of_getElem? (i := 1175) (by decide +kernel)⟩
theorem st_L_53 : siteV "TakerBookLaw" 53 ⟨"TakerBook", "book", "(I)I"⟩ := ⟨List.mem_of_getElem? (i := 494) (by decide +kernel), List.mem_of_getElem? (i := 495) (by decide +kernel), List.mem_of_getElem? (i := 496) (by decide +kernel)⟩
theorem st_L_56 : siteV "TakerBookLaw" 56 ⟨"TakerBookModel", "book", "(I)I"⟩ := ⟨List.mem_of_getElem? (i := 1200) (by decide +kernel), List.mem_of_getElem? (i := 1201) (by decide +kernel), List.mem_of_getElem? (i := 1202) (by decide +kernel)⟩
theorem st_L_57 : siteV "TakerBookLaw" 57 ⟨"TakerBook", "thief", "(II)I"⟩ := ⟨List.mem_of_getElem? (i := 535) (by decide +kernel), List.mem_of_getElem? (i := 536) (by decide +kernel), List.mem_of_getElem? (i := 537) (by decide +kernel)⟩
theorem st_L_60 : siteV "TakerBookLaw" 60 ⟨"TakerBookModel", "thief", "(II)I"⟩ := ⟨List.mem_of_getElem? (i := 1204) (by decide +kernel), List.mem_of_getElem? (i := 1205) (by decide +kernel), List.mem_of_getElem? (i := 1206) (by decide +kernel)⟩
theorem st_L_61 : siteV "TakerBookLaw" 61 ⟨"TakerBook", "mark", "(II)I"⟩ := ⟨List.mem_of_getElem? (i := 635) (by decide +kernel), List.mem_of_getElem? (i := 636) (by decide +kernel), List.mem_of_getElem? (i := 637) (by decide +kernel)⟩
theorem st_L_64 : siteV "TakerBookLaw" 64 ⟨"TakerBookModel", "mark", "(II)I"⟩ := ⟨List.mem_of_getElem? (i := 1242) (by decide +kernel), List.mem_of_getElem? (i := 1243) (by decide +kernel), List.mem_of_getElem? (i := 1244) (by decide +kernel)⟩
theorem st_L_65 : siteV "TakerBookLaw" 65 ⟨"TakerBook", "week", "()I"⟩ := ⟨List.mem_of_getElem? (i := 650) (by decide +kernel), List.mem_of_getElem? (i := 651) (by decide +kernel), List.mem_of_getElem? (i := 652) (by decide +kernel)⟩
theorem st_L_69 : siteV "TakerBookLaw" 69 ⟨"TakerBookModel", "week", "()I"⟩ := ⟨List.mem_of_getElem? (i := 1253) (by decide +kernel), List.mem_of_getElem? (i := 1254) (by decide +kernel), List.mem_of_getElem? (i := 1255) (by decide +kernel)⟩
theorem st_L_70 : siteV "TakerBookLaw" 70 ⟨"TakerBook", "back", "(I)I"⟩ := ⟨List.mem_of_getElem? (i := 674) (by decide +kernel), List.mem_of_getElem? (i := 675) (by decide +kernel), List.mem_of_getElem? (i := 676) (by decide +kernel)⟩
theorem st_L_73 : siteV "TakerBookLaw" 73 ⟨"TakerBookModel", "back", "(I)I"⟩ := ⟨List.mem_of_getElem? (i := 1277) (by decide +kernel), List.mem_of_getElem? (i := 1278) (by decide +kernel), List.mem_of_getElem? (i := 1279) (by decide +kernel)⟩
theorem st_L_74 : siteV "TakerBookLaw" 74 ⟨"TakerBook", "cross", "(I)I"⟩ := ⟨List.mem_of_getElem? (i := 678) (by decide +kernel), List.mem_of_getElem? (i := 679) (by decide +kernel), List.mem_of_getElem? (i := 680) (by decide +kernel)⟩
theorem st_L_77 : siteV "TakerBookLaw" 77 ⟨"TakerBookModel", "cross", "(I)I"⟩ := ⟨List.mem_of_getElem? (i := 1281) (by decide +kernel), List.mem_of_getElem? (i := 1282) (by decide +kernel), List.mem_of_getElem? (i := 1283) (by decide +kernel)⟩
theorem st_L_78 : siteV "TakerBookLaw" 78 ⟨"TakerBook", "give", "(I)I"⟩ := ⟨List.mem_of_getElem? (i := 686) (by decide +kernel), List.mem_of_getElem? (i := 687) (by decide +kernel), List.mem_of_getElem? (i := 688) (by decide +kernel)⟩
theorem st_L_81 : siteV "TakerBookLaw" 81 ⟨"TakerBookModel", "give", "(I)I"⟩ := ⟨List.mem_of_getElem? (i := 1289) (by decide +kernel), List.mem_of_getElem? (i := 1290) (by decide +kernel), List.mem_of_getElem? (i := 1291) (by decide +kernel)⟩
theorem st_L_82 : siteV "TakerBookLaw" 82 ⟨"TakerBook", "undo", "(I)I"⟩ := ⟨List.mem_of_getElem? (i := 691) (by decide +kernel), List.mem_of_getElem? (i := 692) (by decide +kernel), List.mem_of_getElem? (i := 693) (by decide +kernel)⟩
theorem st_L_85 : siteV "TakerBookLaw" 85 ⟨"TakerBookModel", "undo", "(I)I"⟩ := ⟨List.mem_of_getElem? (i := 1297) (by decide +kernel), List.mem_of_getElem? (i := 1298) (by decide +kernel), List.mem_of_getElem? (i := 1299) (by decide +kernel)⟩
theorem st_L_86 : siteV "TakerBookLaw" 86 ⟨"TakerBook", "keep", "(I)I"⟩ := ⟨List.mem_of_getElem? (i := 700) (by decide +kernel), List.mem_of_getElem? (i := 701) (by decide +kernel), List.mem_of_getElem? (i := 702) (by decide +kernel)⟩
theorem st_L_89 : siteV "TakerBookLaw" 89 ⟨"TakerBookModel", "keep", "(I)I"⟩ := ⟨List.mem_of_getElem? (i := 1301) (by decide +kernel), List.mem_of_getElem? (i := 1302) (by decide +kernel), List.mem_of_getElem? (i := 1303) (by decide +kernel)⟩
theorem st_L_90 : siteV "TakerBookLaw" 90 ⟨"TakerBook", "on", "(I)I"⟩ := ⟨List.mem_of_getElem? (i := 709) (by decide +kernel), List.mem_of_getElem? (i := 710) (by decide +kernel), List.mem_of_getElem? (i := 711) (by decide +kernel)⟩
theorem st_L_93 : siteV "TakerBookLaw" 93 ⟨"TakerBookModel", "on", "(I)I"⟩ := ⟨List.mem_of_getElem? (i := 1305) (by decide +kernel), List.mem_of_getElem? (i := 1306) (by decide +kernel), List.mem_of_getElem? (i := 1307) (by decide +kernel)⟩
theorem st_L_94 : siteV "TakerBookLaw" 94 ⟨"TakerBook", "speak", "()I"⟩ := ⟨List.mem_of_getElem? (i := 713) (by decide +kernel), List.mem_of_getElem? (i := 714) (by decide +kernel), List.mem_of_getElem? (i := 715) (by decide +kernel)⟩
theorem st_L_97 : siteV "TakerBookLaw" 97 ⟨"TakerBookModel", "speak", "()I"⟩ := ⟨List.mem_of_getElem? (i := 1309) (by decide +kernel), List.mem_of_getElem? (i := 1310) (by decide +kernel), List.mem_of_getElem? (i := 1311) (by decide +kernel)⟩
theorem st_L_98 : siteV "TakerBookLaw" 98 ⟨"TakerBook", "safe", "()I"⟩ := ⟨List.mem_of_getElem? (i := 722) (by decide +kernel), List.mem_of_getElem? (i := 723) (by decide +kernel), List.mem_of_getElem? (i := 724) (by decide +kernel)⟩
theorem st_L_101 : siteV "TakerBookLaw" 101 ⟨"TakerBookModel", "safe", "()I"⟩ := ⟨List.mem_of_getElem? (i := 1313) (by decide +kernel), List.mem_of_getElem? (i := 1314) (by decide +kernel), List.mem_of_getElem? (i := 1315) (by decide +kernel)⟩
theorem st_L_102 : siteV "TakerBookLaw" 102 ⟨"TakerBook", "silent", "()I"⟩ := ⟨List.mem_of_getElem? (i := 731) (by decide +kernel), List.mem_of_getElem? (i := 732) (by decide +kernel), List.mem_of_getElem? (i := 733) (by decide +kernel)⟩
theorem st_L_105 : siteV "TakerBookLaw" 105 ⟨"TakerBookModel", "silent", "()I"⟩ := ⟨List.mem_of_getElem? (i := 1321) (by decide +kernel), List.mem_of_getElem? (i := 1322) (by decide +kernel), List.mem_of_getElem? (i := 1323) (by decide +kernel)⟩
theorem st_L_106 : siteV "TakerBookLaw" 106 ⟨"TakerBook", "heads", "(I)I"⟩ := ⟨List.mem_of_getElem? (i := 752) (by decide +kernel), List.mem_of_getElem? (i := 753) (by decide +kernel), List.mem_of_getElem? (i := 754) (by decide +kernel)⟩
theorem st_L_109 : siteV "TakerBookLaw" 109 ⟨"TakerBookModel", "heads", "(I)I"⟩ := ⟨List.mem_of_getElem? (i := 1338) (by decide +kernel), List.mem_of_getElem? (i := 1339) (by decide +kernel), List.mem_of_getElem? (i := 1340) (by decide +kernel)⟩
theorem st_L_110 : siteV "TakerBookLaw" 110 ⟨"TakerBook", "best", "(II)I"⟩ := ⟨List.mem_of_getElem? (i := 763) (by decide +kernel), List.mem_of_getElem? (i := 764) (by decide +kernel), List.mem_of_getElem? (i := 765) (by decide +kernel)⟩
theorem st_L_113 : siteV "TakerBookLaw" 113 ⟨"TakerBookModel", "best", "(II)I"⟩ := ⟨List.mem_of_getElem? (i := 1350) (by decide +kernel), List.mem_of_getElem? (i := 1351) (by decide +kernel), List.mem_of_getElem? (i := 1352) (by decide +kernel)⟩
theorem st_L_114 : siteV "TakerBookLaw" 114 ⟨"TakerBook", "ways", "(I)I"⟩ := ⟨List.mem_of_getElem? (i := 792) (by decide +kernel), List.mem_of_getElem? (i := 793) (by decide +kernel), List.mem_of_getElem? (i := 794) (by decide +kernel)⟩
theorem st_L_117 : siteV "TakerBookLaw" 117 ⟨"TakerBookModel", "ways", "(I)I"⟩ := ⟨List.mem_of_getElem? (i := 1370) (by decide +kernel), List.mem_of_getElem? (i := 1371) (by decide +kernel), List.mem_of_getElem? (i := 1372) (by decide +kernel)⟩
theorem st_L_118 : siteV "TakerBookLaw" 118 ⟨"TakerBook", "brings", "(I)I"⟩ := ⟨List.mem_of_getElem? (i := 800) (by decide +kernel), List.mem_of_getElem? (i := 801) (by decide +kernel), List.mem_of_getElem? (i := 802) (by decide +kernel)⟩
theorem st_L_121 : siteV "TakerBookLaw" 121 ⟨"TakerBookModel", "brings", "(I)I"⟩ := ⟨List.mem_of_getElem? (i := 1378) (by decide +kernel), List.mem_of_getElem? (i := 1379) (by decide +kernel), List.mem_of_getElem? (i := 1380) (by decide +kernel)⟩
theorem st_L_122 : siteV "TakerBookLaw" 122 ⟨"TakerBook", "fits", "(I)I"⟩ := ⟨List.mem_of_getElem? (i := 812) (by decide +kernel), List.mem_of_getElem? (i := 813) (by decide +kernel), List.mem_of_getElem? (i := 814) (by decide +kernel)⟩
theorem st_L_125 : siteV "TakerBookLaw" 125 ⟨"TakerBookModel", "fits", "(I)I"⟩ := ⟨List.mem_of_getElem? (i := 1382) (by decide +kernel), List.mem_of_getElem? (i := 1383) (by decide +kernel), List.mem_of_getElem? (i := 1384) (by decide +kernel)⟩
theorem st_L_126 : siteV "TakerBookLaw" 126 ⟨"TakerBook", "sure", "(I)I"⟩ := ⟨List.mem_of_getElem? (i := 823) (by decide +kernel), List.mem_of_getElem? (i := 824) (by decide +kernel), List.mem_of_getElem? (i := 825) (by decide +kernel)⟩
theorem st_L_129 : siteV "TakerBookLaw" 129 ⟨"TakerBookModel", "sure", "(I)I"⟩ := ⟨List.mem_of_getElem? (i := 1394) (by decide +kernel), List.mem_of_getElem? (i := 1395) (by decide +kernel), List.mem_of_getElem? (i := 1396) (by decide +kernel)⟩
theorem st_L_130 : siteV "TakerBookLaw" 130 ⟨"TakerBook", "ask", "(I)I"⟩ := ⟨List.mem_of_getElem? (i := 831) (by decide +kernel), List.mem_of_getElem? (i := 832) (by decide +kernel), List.mem_of_getElem? (i := 833) (by decide +kernel)⟩
theorem st_L_133 : siteV "TakerBookLaw" 133 ⟨"TakerBookModel", "ask", "(I)I"⟩ := ⟨List.mem_of_getElem? (i := 1398) (by decide +kernel), List.mem_of_getElem? (i := 1399) (by decide +kernel), List.mem_of_getElem? (i := 1400) (by decide +kernel)⟩
theorem st_L_134 : siteV "TakerBookLaw" 134 ⟨"TakerBook", "bold", "(II)I"⟩ := ⟨List.mem_of_getElem? (i := 840) (by decide +kernel), List.mem_of_getElem? (i := 841) (by decide +kernel), List.mem_of_getElem? (i := 842) (by decide +kernel)⟩
theorem st_L_137 : siteV "TakerBookLaw" 137 ⟨"TakerBookModel", "bold", "(II)I"⟩ := ⟨List.mem_of_getElem? (i := 1402) (by decide +kernel), List.mem_of_getElem? (i := 1403) (by decide +kernel), List.mem_of_getElem? (i := 1404) (by decide +kernel)⟩
theorem st_L_138 : siteV "TakerBookLaw" 138 ⟨"TakerBook", "kinds", "(II)I"⟩ := ⟨List.mem_of_getElem? (i := 857) (by decide +kernel), List.mem_of_getElem? (i := 858) (by decide +kernel), List.mem_of_getElem? (i := 859) (by decide +kernel)⟩
theorem st_L_141 : siteV "TakerBookLaw" 141 ⟨"TakerBookModel", "kinds", "(II)I"⟩ := ⟨List.mem_of_getElem? (i := 1414) (by decide +kernel), List.mem_of_getElem? (i := 1415) (by decide +kernel), List.mem_of_getElem? (i := 1416) (by decide +kernel)⟩
theorem st_L_142 : siteV "TakerBookLaw" 142 ⟨"TakerBook", "test", "(II)I"⟩ := ⟨List.mem_of_getElem? (i := 865) (by decide +kernel), List.mem_of_getElem? (i := 866) (by decide +kernel), List.mem_of_getElem? (i := 867) (by decide +kernel)⟩
theorem st_L_145 : siteV "TakerBookLaw" 145 ⟨"TakerBookModel", "test", "(II)I"⟩ := ⟨List.mem_of_getElem? (i := 1422) (by decide +kernel), List.mem_of_getElem? (i := 1423) (by decide +kernel), List.mem_of_getElem? (i := 1424) (by decide +kernel)⟩
theorem st_L_146 : siteV "TakerBookLaw" 146 ⟨"TakerBook", "duel", "(I)I"⟩ := ⟨List.mem_of_getElem? (i := 873) (by decide +kernel), List.mem_of_getElem? (i := 874) (by decide +kernel), List.mem_of_getElem? (i := 875) (by decide +kernel)⟩
theorem st_L_149 : siteV "TakerBookLaw" 149 ⟨"TakerBookModel", "duel", "(I)I"⟩ := ⟨List.mem_of_getElem? (i := 1426) (by decide +kernel), List.mem_of_getElem? (i := 1427) (by decide +kernel), List.mem_of_getElem? (i := 1428) (by decide +kernel)⟩
theorem st_L_150 : siteV "TakerBookLaw" 150 ⟨"TakerBook", "sum", "(I)I"⟩ := ⟨List.mem_of_getElem? (i := 891) (by decide +kernel), List.mem_of_getElem? (i := 892) (by decide +kernel), List.mem_of_getElem? (i := 893) (by decide +kernel)⟩
theorem st_L_153 : siteV "TakerBookLaw" 153 ⟨"TakerBookModel", "sum", "(I)I"⟩ := ⟨List.mem_of_getElem? (i := 1434) (by decide +kernel), List.mem_of_getElem? (i := 1435) (by decide +kernel), List.mem_of_getElem? (i := 1436) (by decide +kernel)⟩
theorem st_L_154 : siteV "TakerBookLaw" 154 ⟨"TakerBook", "odds", "(I)I"⟩ := ⟨List.mem_of_getElem? (i := 900) (by decide +kernel), List.mem_of_getElem? (i := 901) (by decide +kernel), List.mem_of_getElem? (i := 902) (by decide +kernel)⟩
theorem st_L_157 : siteV "TakerBookLaw" 157 ⟨"TakerBookModel", "odds", "(I)I"⟩ := ⟨List.mem_of_getElem? (i := 1442) (by decide +kernel), List.mem_of_getElem? (i := 1443) (by decide +kernel), List.mem_of_getElem? (i := 1444) (by decide +kernel)⟩
theorem st_L_158 : siteV "TakerBookLaw" 158 ⟨"TakerBook", "mid", "(I)I"⟩ := ⟨List.mem_of_getElem? (i := 918) (by decide +kernel), List.mem_of_getElem? (i := 919) (by decide +kernel), List.mem_of_getElem? (i := 920) (by decide +kernel)⟩
theorem st_L_161 : siteV "TakerBookLaw" 161 ⟨"TakerBookModel", "mid", "(I)I"⟩ := ⟨List.mem_of_getElem? (i := 1451) (by decide +kernel), List.mem_of_getElem? (i := 1452) (by decide +kernel), List.mem_of_getElem? (i := 1453) (by decide +kernel)⟩
theorem st_L_162 : siteV "TakerBookLaw" 162 ⟨"TakerBook", "lots", "(II)I"⟩ := ⟨List.mem_of_getElem? (i := 923) (by decide +kernel), List.mem_of_getElem? (i := 924) (by decide +kernel), List.mem_of_getElem? (i := 925) (by decide +kernel)⟩
theorem st_L_165 : siteV "TakerBookLaw" 165 ⟨"TakerBookModel", "lots", "(II)I"⟩ := ⟨List.mem_of_getElem? (i := 1455) (by decide +kernel), List.mem_of_getElem? (i := 1456) (by decide +kernel), List.mem_of_getElem? (i := 1457) (by decide +kernel)⟩
theorem st_L_166 : siteV "TakerBookLaw" 166 ⟨"TakerBook", "asked", "()I"⟩ := ⟨List.mem_of_getElem? (i := 935) (by decide +kernel), List.mem_of_getElem? (i := 936) (by decide +kernel), List.mem_of_getElem? (i := 937) (by decide +kernel)⟩
theorem st_L_169 : siteV "TakerBookLaw" 169 ⟨"TakerBookModel", "asked", "()I"⟩ := ⟨List.mem_of_getElem? (i := 1111) (by decide +kernel), List.mem_of_getElem? (i := 1112) (by decide +kernel), List.mem_of_getElem? (i := 1113) (by decide +kernel)⟩
theorem st_L_170 : siteV "TakerBookLaw" 170 ⟨"TakerBook", "upper", "()J"⟩ := ⟨List.mem_of_getElem? (i := 939) (by decide +kernel), List.mem_of_getElem? (i := 940) (by decide +kernel), List.mem_of_getElem? (i := 941) (by decide +kernel)⟩
theorem st_L_174 : siteV "TakerBookLaw" 174 ⟨"TakerBookModel", "upper", "()J"⟩ := ⟨List.mem_of_getElem? (i := 1115) (by decide +kernel), List.mem_of_getElem? (i := 1116) (by decide +kernel), List.mem_of_getElem? (i := 1117) (by decide +kernel)⟩
theorem st_L_175 : siteV "TakerBookLaw" 175 ⟨"TakerBook", "lower", "()J"⟩ := ⟨List.mem_of_getElem? (i := 943) (by decide +kernel), List.mem_of_getElem? (i := 944) (by decide +kernel), List.mem_of_getElem? (i := 945) (by decide +kernel)⟩
theorem st_L_178 : siteV "TakerBookLaw" 178 ⟨"TakerBookModel", "lower", "()J"⟩ := ⟨List.mem_of_getElem? (i := 1119) (by decide +kernel), List.mem_of_getElem? (i := 1120) (by decide +kernel), List.mem_of_getElem? (i := 1121) (by decide +kernel)⟩
theorem st_L_179 : siteV "TakerBookLaw" 179 ⟨"TakerBook", "count", "(I)I"⟩ := ⟨List.mem_of_getElem? (i := 947) (by decide +kernel), List.mem_of_getElem? (i := 948) (by decide +kernel), List.mem_of_getElem? (i := 949) (by decide +kernel)⟩
theorem st_L_182 : siteV "TakerBookLaw" 182 ⟨"TakerBookModel", "count", "(I)I"⟩ := ⟨List.mem_of_getElem? (i := 1464) (by decide +kernel), List.mem_of_getElem? (i := 1465) (by decide +kernel), List.mem_of_getElem? (i := 1466) (by decide +kernel)⟩
theorem st_L_183 : siteV "TakerBookLaw" 183 ⟨"TakerBook", "finding", "()I"⟩ := ⟨List.mem_of_getElem? (i := 958) (by decide +kernel), List.mem_of_getElem? (i := 959) (by decide +kernel), List.mem_of_getElem? (i := 960) (by decide +kernel)⟩
theorem st_L_186 : siteV "TakerBookLaw" 186 ⟨"TakerBookModel", "finding", "()I"⟩ := ⟨List.mem_of_getElem? (i := 1100) (by decide +kernel), List.mem_of_getElem? (i := 1101) (by decide +kernel), List.mem_of_getElem? (i := 1102) (by decide +kernel)⟩
theorem st_L_187 : siteV "TakerBookLaw" 187 ⟨"TakerBook", "findings", "(I)I"⟩ := ⟨List.mem_of_getElem? (i := 962) (by decide +kernel), List.mem_of_getElem? (i := 963) (by decide +kernel), List.mem_of_getElem? (i := 964) (by decide +kernel)⟩
theorem st_L_190 : siteV "TakerBookLaw" 190 ⟨"TakerBookModel", "findings", "(I)I"⟩ := ⟨List.mem_of_getElem? (i := 1104) (by decide +kernel), List.mem_of_getElem? (i := 1105) (by decide +kernel), List.mem_of_getElem? (i := 1106) (by decide +kernel)⟩
theorem st_L_191 : siteV "TakerBookLaw" 191 ⟨"TakerBook", "digest", "()J"⟩ := ⟨List.mem_of_getElem? (i := 966) (by decide +kernel), List.mem_of_getElem? (i := 967) (by decide +kernel), List.mem_of_getElem? (i := 968) (by decide +kernel)⟩
theorem st_L_194 : siteV "TakerBookLaw" 194 ⟨"TakerBookModel", "digest", "()J"⟩ := ⟨List.mem_of_getElem? (i := 1472) (by decide +kernel), List.mem_of_getElem? (i := 1473) (by decide +kernel), List.mem_of_getElem? (i := 1474) (by decide +kernel)⟩
section
variable {X : FX} {u : Un} {Q : State → Prop} {σ : St} {b L : Nat} {xs : Nat → Int32}
theorem lc_0 {i : Nat} (F : LF X u b L xs) (hi : i + 6 ≤ L) (h : Rel σ) (kk : ∀ ρ, Rel ρ → VL X u Q 1329 (LQ u b (nI i)) [] ρ) : VL X u Q 224 (LQ u b (nI i)) [] σ := by
  obtain ⟨P, c1, k1⟩ := o_row X.2.1 F.1.2.2.2.2.2.2.2.1 h (xs (nI i + 1).toNatClampNeg) (xs (nI i + 2).toNatClampNeg)
  refine w_aload F d_L_224 rfl 1 rfl ?_
  refine w_arg F 1 d_L_225 d_L_226 d_L_227 d_L_228 d_L_229 (by decide) (w_in (k := 1) 1 (by decide) F.2.2.2.2 (by omega)) ?_
  refine w_arg F 2 d_L_230 d_L_231 d_L_232 d_L_233 d_L_234 (by decide) (w_in (k := 2) 2 (by decide) F.2.2.2.2 (by omega)) ?_
  refine w_Vi F c1 mo_T_row st_L_13 rc_0 (by decide) rfl (Nat.le_of_ble_eq_true rfl) d_L_235 (fun r1 τ1 p1 => ?_)
  obtain ⟨P2, c2, k2⟩ := k1 r1 τ1 p1
  refine w_aload F d_L_238 rfl 2 rfl ?_
  refine w_arg F 1 d_L_239 d_L_240 d_L_241 d_L_242 d_L_243 (by decide) (w_in (k := 1) 1 (by decide) F.2.2.2.2 (by omega)) ?_
  refine w_arg F 2 d_L_244 d_L_245 d_L_246 d_L_247 d_L_248 (by decide) (w_in (k := 2) 2 (by decide) F.2.2.2.2 (by omega)) ?_
  refine w_Vi F c2 mo_M_row st_L_17 rc_63 (by decide) rfl (Nat.le_of_ble_eq_true rfl) d_L_249 (fun r2 τ2 p2 => ?_)
  obtain ⟨e, hR⟩ := k2 r2 τ2 p2
  exact w_eq F 1329 d_L_252 (by decide) e (kk τ2 hR)
theorem lc_1 {i : Nat} (F : LF X u b L xs) (hi : i + 6 ≤ L) (h : Rel σ) (kk : ∀ ρ, Rel ρ → VL X u Q 1329 (LQ u b (nI i)) [] ρ) : VL X u Q 257 (LQ u b (nI i)) [] σ := by
  obtain ⟨P, c1, k1⟩ := o_lay X.2.1 F.1.2.2.2.2.2.2.2.1 h (xs (nI i + 1).toNatClampNeg) (xs (nI i + 2).toNatClampNeg) (xs (nI i + 3).toNatClampNeg)
  refine w_aload F d_L_257 rfl 1 rfl ?_
  refine w_arg F 1 d_L_258 d_L_259 d_L_260 d_L_261 d_L_262 (by decide) (w_in (k := 1) 1 (by decide) F.2.2.2.2 (by omega)) ?_
  refine w_arg F 2 d_L_263 d_L_264 d_L_265 d_L_266 d_L_267 (by decide) (w_in (k := 2) 2 (by decide) F.2.2.2.2 (by omega)) ?_
  refine w_arg F 3 d_L_268 d_L_269 d_L_270 d_L_271 d_L_272 (by decide) (w_in (k := 3) 3 (by decide) F.2.2.2.2 (by omega)) ?_
  refine w_Vi F c1 mo_T_lay st_L_18 rc_0 (by decide) rfl (Nat.le_of_ble_eq_true rfl) d_L_273 (fun r1 τ1 p1 => ?_)
  obtain ⟨P2, c2, k2⟩ := k1 r1 τ1 p1
  refine w_aload F d_L_276 rfl 2 rfl ?_
  refine w_arg F 1 d_L_277 d_L_278 d_L_279 d_L_280 d_L_281 (by decide) (w_in (k := 1) 1 (by decide) F.2.2.2.2 (by omega)) ?_
  refine w_arg F 2 d_L_282 d_L_283 d_L_284 d_L_285 d_L_286 (by decide) (w_in (k := 2) 2 (by decide) F.2.2.2.2 (by omega)) ?_
  refine w_arg F 3 d_L_287 d_L_288 d_L_289 d_L_290 d_L_291 (by decide) (w_in (k := 3) 3 (by decide) F.2.2.2.2 (by omega)) ?_
  refine w_Vi F c2 mo_M_lay st_L_22 rc_63 (by decide) rfl (Nat.le_of_ble_eq_true rfl) d_L_292 (fun r2 τ2 p2 => ?_)
  obtain ⟨e, hR⟩ := k2 r2 τ2 p2
  exact w_eq F 1329 d_L_295 (by decide) e (kk τ2 hR)
theorem lc_2 {i : Nat} (F : LF X u b L xs) (hi : i + 6 ≤ L) (h : Rel σ) (kk : ∀ ρ, Rel ρ → VL X u Q 1329 (LQ u b (nI i)) [] ρ) : VL X u Q 300 (LQ u b (nI i)) [] σ := by
  obtain ⟨P, c1, k1⟩ := o_at X.2.1 F.1.2.2.2.2.2.2.2.1 h (xs (nI i + 1).toNatClampNeg) (xs (nI i + 2).toNatClampNeg)
  refine w_aload F d_L_300 rfl 1 rfl ?_
  refine w_arg F 1 d_L_301 d_L_302 d_L_303 d_L_304 d_L_305 (by decide) (w_in (k := 1) 1 (by decide) F.2.2.2.2 (by omega)) ?_
  refine w_arg F 2 d_L_306 d_L_307 d_L_308 d_L_309 d_L_310 (by decide) (w_in (k := 2) 2 (by decide) F.2.2.2.2 (by omega)) ?_
  refine w_Vi F c1 mo_T_at st_L_23 rc_0 (by decide) rfl (Nat.le_of_ble_eq_true rfl) d_L_311 (fun r1 τ1 p1 => ?_)
  obtain ⟨P2, c2, k2⟩ := k1 r1 τ1 p1
  refine w_aload F d_L_314 rfl 2 rfl ?_
  refine w_arg F 1 d_L_315 d_L_316 d_L_317 d_L_318 d_L_319 (by decide) (w_in (k := 1) 1 (by decide) F.2.2.2.2 (by omega)) ?_
  refine w_arg F 2 d_L_320 d_L_321 d_L_322 d_L_323 d_L_324 (by decide) (w_in (k := 2) 2 (by decide) F.2.2.2.2 (by omega)) ?_
  refine w_Vi F c2 mo_M_at st_L_26 rc_63 (by decide) rfl (Nat.le_of_ble_eq_true rfl) d_L_325 (fun r2 τ2 p2 => ?_)
  obtain ⟨e, hR⟩ := k2 r2 τ2 p2
  exact w_eq F 1329 d_L_328 (by decide) e (kk τ2 hR)
theorem lc_3 {i : Nat} (F : LF X u b L xs) (hi : i + 6 ≤ L) (h : Rel σ) (kk : ∀ ρ, Rel ρ → VL X u Q 1329 (LQ u b (nI i)) [] ρ) : VL X u Q 333 (LQ u b (nI i)) [] σ := by
  obtain ⟨P, c1, k1⟩ := o_tear X.2.1 F.1.2.2.2.2.2.2.2.1 h (xs (nI i + 1).toNatClampNeg)
  refine w_aload F d_L_333 rfl 1 rfl ?_
  refine w_arg F 1 d_L_334 d_L_335 d_L_336 d_L_337 d_L_338 (by decide) (w_in (k := 1) 1 (by decide) F.2.2.2.2 (by omega)) ?_
  refine w_Vi F c1 mo_T_tear st_L_27 rc_0 (by decide) rfl (Nat.le_of_ble_eq_true rfl) d_L_339 (fun r1 τ1 p1 => ?_)
  obtain ⟨P2, c2, k2⟩ := k1 r1 τ1 p1
  refine w_aload F d_L_342 rfl 2 rfl ?_
  refine w_arg F 1 d_L_343 d_L_344 d_L_345 d_L_346 d_L_347 (by decide) (w_in (k := 1) 1 (by decide) F.2.2.2.2 (by omega)) ?_
  refine w_Vi F c2 mo_M_tear st_L_31 rc_63 (by decide) rfl (Nat.le_of_ble_eq_true rfl) d_L_348 (fun r2 τ2 p2 => ?_)
  obtain ⟨e, hR⟩ := k2 r2 τ2 p2
  exact w_eq F 1329 d_L_351 (by decide) e (kk τ2 hR)
theorem lc_4 {i : Nat} (F : LF X u b L xs) (hi : i + 6 ≤ L) (h : Rel σ) (kk : ∀ ρ, Rel ρ → VL X u Q 1329 (LQ u b (nI i)) [] ρ) : VL X u Q 356 (LQ u b (nI i)) [] σ := by
  obtain ⟨P, c1, k1⟩ := o_copy X.2.1 F.1.2.2.2.2.2.2.2.1 h (xs (nI i + 1).toNatClampNeg) (xs (nI i + 2).toNatClampNeg) (xs (nI i + 3).toNatClampNeg) (xs (nI i + 4).toNatClampNeg) (xs (nI i + 5).toNatClampNeg)
  refine w_aload F d_L_356 rfl 1 rfl ?_
  refine w_arg F 1 d_L_357 d_L_358 d_L_359 d_L_360 d_L_361 (by decide) (w_in (k := 1) 1 (by decide) F.2.2.2.2 (by omega)) ?_
  refine w_arg F 2 d_L_362 d_L_363 d_L_364 d_L_365 d_L_366 (by decide) (w_in (k := 2) 2 (by decide) F.2.2.2.2 (by omega)) ?_
  refine w_arg F 3 d_L_367 d_L_368 d_L_369 d_L_370 d_L_371 (by decide) (w_in (k := 3) 3 (by decide) F.2.2.2.2 (by omega)) ?_
  refine w_arg F 4 d_L_372 d_L_373 d_L_374 d_L_375 d_L_376 (by decide) (w_in (k := 4) 4 (by decide) F.2.2.2.2 (by omega)) ?_
  refine w_arg F 5 d_L_377 d_L_378 d_L_379 d_L_380 d_L_381 (by decide) (w_in (k := 5) 5 (by decide) F.2.2.2.2 (by omega)) ?_
  refine w_Vi F c1 mo_T_copy st_L_32 rc_0 (by decide) rfl (Nat.le_of_ble_eq_true rfl) d_L_382 (fun r1 τ1 p1 => ?_)
  obtain ⟨P2, c2, k2⟩ := k1 r1 τ1 p1
  refine w_aload F d_L_385 rfl 2 rfl ?_
  refine w_arg F 1 d_L_386 d_L_387 d_L_388 d_L_389 d_L_390 (by decide) (w_in (k := 1) 1 (by decide) F.2.2.2.2 (by omega)) ?_
  refine w_arg F 2 d_L_391 d_L_392 d_L_393 d_L_394 d_L_395 (by decide) (w_in (k := 2) 2 (by decide) F.2.2.2.2 (by omega)) ?_
  refine w_arg F 3 d_L_396 d_L_397 d_L_398 d_L_399 d_L_400 (by decide) (w_in (k := 3) 3 (by decide) F.2.2.2.2 (by omega)) ?_
  refine w_arg F 4 d_L_401 d_L_402 d_L_403 d_L_404 d_L_405 (by decide) (w_in (k := 4) 4 (by decide) F.2.2.2.2 (by omega)) ?_
  refine w_arg F 5 d_L_406 d_L_407 d_L_408 d_L_409 d_L_410 (by decide) (w_in (k := 5) 5 (by decide) F.2.2.2.2 (by omega)) ?_
  refine w_Vi F c2 mo_M_copy st_L_36 rc_63 (by decide) rfl (Nat.le_of_ble_eq_true rfl) d_L_411 (fun r2 τ2 p2 => ?_)
  obtain ⟨e, hR⟩ := k2 r2 τ2 p2
  exact w_eq F 1329 d_L_414 (by decide) e (kk τ2 hR)
theorem lc_5 {i : Nat} (F : LF X u b L xs) (hi : i + 6 ≤ L) (h : Rel σ) (kk : ∀ ρ, Rel ρ → VL X u Q 1329 (LQ u b (nI i)) [] ρ) : VL X u Q 419 (LQ u b (nI i)) [] σ := by
  obtain ⟨P, c1, k1⟩ := o_mean X.2.1 F.1.2.2.2.2.2.2.2.1 h (xs (nI i + 1).toNatClampNeg)
  refine w_aload F d_L_419 rfl 1 rfl ?_
  refine w_arg F 1 d_L_420 d_L_421 d_L_422 d_L_423 d_L_424 (by decide) (w_in (k := 1) 1 (by decide) F.2.2.2.2 (by omega)) ?_
  refine w_Vi F c1 mo_T_mean st_L_37 rc_0 (by decide) rfl (Nat.le_of_ble_eq_true rfl) d_L_425 (fun r1 τ1 p1 => ?_)
  obtain ⟨P2, c2, k2⟩ := k1 r1 τ1 p1
  refine w_aload F d_L_428 rfl 2 rfl ?_
  refine w_arg F 1 d_L_429 d_L_430 d_L_431 d_L_432 d_L_433 (by decide) (w_in (k := 1) 1 (by decide) F.2.2.2.2 (by omega)) ?_
  refine w_Vi F c2 mo_M_mean st_L_40 rc_63 (by decide) rfl (Nat.le_of_ble_eq_true rfl) d_L_434 (fun r2 τ2 p2 => ?_)
  obtain ⟨e, hR⟩ := k2 r2 τ2 p2
  exact w_eq F 1329 d_L_437 (by decide) e (kk τ2 hR)
theorem lc_6 {i : Nat} (F : LF X u b L xs) (hi : i + 6 ≤ L) (h : Rel σ) (kk : ∀ ρ, Rel ρ → VL X u Q 1329 (LQ u b (nI i)) [] ρ) : VL X u Q 442 (LQ u b (nI i)) [] σ := by
  obtain ⟨P, c1, k1⟩ := o_text X.2.1 F.1.2.2.2.2.2.2.2.1 h (xs (nI i + 1).toNatClampNeg) (xs (nI i + 2).toNatClampNeg)
  refine w_aload F d_L_442 rfl 1 rfl ?_
  refine w_arg F 1 d_L_443 d_L_444 d_L_445 d_L_446 d_L_447 (by decide) (w_in (k := 1) 1 (by decide) F.2.2.2.2 (by omega)) ?_
  refine w_arg F 2 d_L_448 d_L_449 d_L_450 d_L_451 d_L_452 (by decide) (w_in (k := 2) 2 (by decide) F.2.2.2.2 (by omega)) ?_
  refine w_Vi F c1 mo_T_text st_L_41 rc_0 (by decide) rfl (Nat.le_of_ble_eq_true rfl) d_L_453 (fun r1 τ1 p1 => ?_)
  obtain ⟨P2, c2, k2⟩ := k1 r1 τ1 p1
  refine w_aload F d_L_456 rfl 2 rfl ?_
  refine w_arg F 1 d_L_457 d_L_458 d_L_459 d_L_460 d_L_461 (by decide) (w_in (k := 1) 1 (by decide) F.2.2.2.2 (by omega)) ?_
  refine w_arg F 2 d_L_462 d_L_463 d_L_464 d_L_465 d_L_466 (by decide) (w_in (k := 2) 2 (by decide) F.2.2.2.2 (by omega)) ?_
  refine w_Vi F c2 mo_M_text st_L_44 rc_63 (by decide) rfl (Nat.le_of_ble_eq_true rfl) d_L_467 (fun r2 τ2 p2 => ?_)
  obtain ⟨e, hR⟩ := k2 r2 τ2 p2
  exact w_eq F 1329 d_L_470 (by decide) e (kk τ2 hR)
theorem lc_7 {i : Nat} (F : LF X u b L xs) (hi : i + 6 ≤ L) (h : Rel σ) (kk : ∀ ρ, Rel ρ → VL X u Q 1329 (LQ u b (nI i)) [] ρ) : VL X u Q 475 (LQ u b (nI i)) [] σ := by
  obtain ⟨P, c1, k1⟩ := o_put X.2.1 F.1.2.2.2.2.2.2.2.1 h (xs (nI i + 1).toNatClampNeg) (xs (nI i + 2).toNatClampNeg) (xs (nI i + 3).toNatClampNeg)
  refine w_aload F d_L_475 rfl 1 rfl ?_
  refine w_arg F 1 d_L_476 d_L_477 d_L_478 d_L_479 d_L_480 (by decide) (w_in (k := 1) 1 (by decide) F.2.2.2.2 (by omega)) ?_
  refine w_arg F 2 d_L_481 d_L_482 d_L_483 d_L_484 d_L_485 (by decide) (w_in (k := 2) 2 (by decide) F.2.2.2.2 (by omega)) ?_
  refine w_arg F 3 d_L_486 d_L_487 d_L_488 d_L_489 d_L_490 (by decide) (w_in (k := 3) 3 (by decide) F.2.2.2.2 (by omega)) ?_
  refine w_Vi F c1 mo_T_put st_L_45 rc_0 (by decide) rfl (Nat.le_of_ble_eq_true rfl) d_L_491 (fun r1 τ1 p1 => ?_)
  obtain ⟨P2, c2, k2⟩ := k1 r1 τ1 p1
  refine w_aload F d_L_494 rfl 2 rfl ?_
  refine w_arg F 1 d_L_495 d_L_496 d_L_497 d_L_498 d_L_499 (by decide) (w_in (k := 1) 1 (by decide) F.2.2.2.2 (by omega)) ?_
  refine w_arg F 2 d_L_500 d_L_501 d_L_502 d_L_503 d_L_504 (by decide) (w_in (k := 2) 2 (by decide) F.2.2.2.2 (by omega)) ?_
  refine w_arg F 3 d_L_505 d_L_506 d_L_507 d_L_508 d_L_509 (by decide) (w_in (k := 3) 3 (by decide) F.2.2.2.2 (by omega)) ?_
  refine w_Vi F c2 mo_M_put st_L_48 rc_63 (by decide) rfl (Nat.le_of_ble_eq_true rfl) d_L_510 (fun r2 τ2 p2 => ?_)
  obtain ⟨e, hR⟩ := k2 r2 τ2 p2
  exact w_eq F 1329 d_L_513 (by decide) e (kk τ2 hR)
theorem lc_8 {i : Nat} (F : LF X u b L xs) (hi : i + 6 ≤ L) (h : Rel σ) (kk : ∀ ρ, Rel ρ → VL X u Q 1329 (LQ u b (nI i)) [] ρ) : VL X u Q 518 (LQ u b (nI i)) [] σ := by
  obtain ⟨P, c1, k1⟩ := o_fault X.2.1 F.1.2.2.2.2.2.2.2.1 h (xs (nI i + 1).toNatClampNeg)
  refine w_aload F d_L_518 rfl 1 rfl ?_
  refine w_arg F 1 d_L_519 d_L_520 d_L_521 d_L_522 d_L_523 (by decide) (w_in (k := 1) 1 (by decide) F.2.2.2.2 (by omega)) ?_
  refine w_Vi F c1 mo_T_fault st_L_49 rc_0 (by decide) rfl (Nat.le_of_ble_eq_true rfl) d_L_524 (fun r1 τ1 p1 => ?_)
  obtain ⟨P2, c2, k2⟩ := k1 r1 τ1 p1
  refine w_aload F d_L_527 rfl 2 rfl ?_
  refine w_arg F 1 d_L_528 d_L_529 d_L_530 d_L_531 d_L_532 (by decide) (w_in (k := 1) 1 (by decide) F.2.2.2.2 (by omega)) ?_
  refine w_Vi F c2 mo_M_fault st_L_52 rc_63 (by decide) rfl (Nat.le_of_ble_eq_true rfl) d_L_533 (fun r2 τ2 p2 => ?_)
  obtain ⟨e, hR⟩ := k2 r2 τ2 p2
  exact w_eq F 1329 d_L_536 (by decide) e (kk τ2 hR)
theorem lc_9 {i : Nat} (F : LF X u b L xs) (hi : i + 6 ≤ L) (h : Rel σ) (kk : ∀ ρ, Rel ρ → VL X u Q 1329 (LQ u b (nI i)) [] ρ) : VL X u Q 541 (LQ u b (nI i)) [] σ := by
  obtain ⟨P, c1, k1⟩ := o_book X.2.1 F.1.2.2.2.2.2.2.2.1 h (xs (nI i + 1).toNatClampNeg)
  refine w_aload F d_L_541 rfl 1 rfl ?_
  refine w_arg F 1 d_L_542 d_L_543 d_L_544 d_L_545 d_L_546 (by decide) (w_in (k := 1) 1 (by decide) F.2.2.2.2 (by omega)) ?_
  refine w_Vi F c1 mo_T_book st_L_53 rc_0 (by decide) rfl (Nat.le_of_ble_eq_true rfl) d_L_547 (fun r1 τ1 p1 => ?_)
  obtain ⟨P2, c2, k2⟩ := k1 r1 τ1 p1
  refine w_aload F d_L_550 rfl 2 rfl ?_
  refine w_arg F 1 d_L_551 d_L_552 d_L_553 d_L_554 d_L_555 (by decide) (w_in (k := 1) 1 (by decide) F.2.2.2.2 (by omega)) ?_
  refine w_Vi F c2 mo_M_book st_L_56 rc_63 (by decide) rfl (Nat.le_of_ble_eq_true rfl) d_L_556 (fun r2 τ2 p2 => ?_)
  obtain ⟨e, hR⟩ := k2 r2 τ2 p2
  exact w_eq F 1329 d_L_559 (by decide) e (kk τ2 hR)
theorem lc_10 {i : Nat} (F : LF X u b L xs) (hi : i + 6 ≤ L) (h : Rel σ) (kk : ∀ ρ, Rel ρ → VL X u Q 1329 (LQ u b (nI i)) [] ρ) : VL X u Q 564 (LQ u b (nI i)) [] σ := by
  obtain ⟨P, c1, k1⟩ := o_thief X.2.1 F.1.2.2.2.2.2.2.2.1 h (xs (nI i + 1).toNatClampNeg) (xs (nI i + 2).toNatClampNeg)
  refine w_aload F d_L_564 rfl 1 rfl ?_
  refine w_arg F 1 d_L_565 d_L_566 d_L_567 d_L_568 d_L_569 (by decide) (w_in (k := 1) 1 (by decide) F.2.2.2.2 (by omega)) ?_
  refine w_arg F 2 d_L_570 d_L_571 d_L_572 d_L_573 d_L_574 (by decide) (w_in (k := 2) 2 (by decide) F.2.2.2.2 (by omega)) ?_
  refine w_Vi F c1 mo_T_thief st_L_57 rc_0 (by decide) rfl (Nat.le_of_ble_eq_true rfl) d_L_575 (fun r1 τ1 p1 => ?_)
  obtain ⟨P2, c2, k2⟩ := k1 r1 τ1 p1
  refine w_aload F d_L_578 rfl 2 rfl ?_
  refine w_arg F 1 d_L_579 d_L_580 d_L_581 d_L_582 d_L_583 (by decide) (w_in (k := 1) 1 (by decide) F.2.2.2.2 (by omega)) ?_
  refine w_arg F 2 d_L_584 d_L_585 d_L_586 d_L_587 d_L_588 (by decide) (w_in (k := 2) 2 (by decide) F.2.2.2.2 (by omega)) ?_
  refine w_Vi F c2 mo_M_thief st_L_60 rc_63 (by decide) rfl (Nat.le_of_ble_eq_true rfl) d_L_589 (fun r2 τ2 p2 => ?_)
  obtain ⟨e, hR⟩ := k2 r2 τ2 p2
  exact w_eq F 1329 d_L_592 (by decide) e (kk τ2 hR)
theorem lc_11 {i : Nat} (F : LF X u b L xs) (hi : i + 6 ≤ L) (h : Rel σ) (kk : ∀ ρ, Rel ρ → VL X u Q 1329 (LQ u b (nI i)) [] ρ) : VL X u Q 597 (LQ u b (nI i)) [] σ := by
  obtain ⟨P, c1, k1⟩ := o_mark X.2.1 F.1.2.2.2.2.2.2.2.1 h (xs (nI i + 1).toNatClampNeg) (xs (nI i + 2).toNatClampNeg)
  refine w_aload F d_L_597 rfl 1 rfl ?_
  refine w_arg F 1 d_L_598 d_L_599 d_L_600 d_L_601 d_L_602 (by decide) (w_in (k := 1) 1 (by decide) F.2.2.2.2 (by omega)) ?_
  refine w_arg F 2 d_L_603 d_L_604 d_L_605 d_L_606 d_L_607 (by decide) (w_in (k := 2) 2 (by decide) F.2.2.2.2 (by omega)) ?_
  refine w_Vi F c1 mo_T_mark st_L_61 rc_0 (by decide) rfl (Nat.le_of_ble_eq_true rfl) d_L_608 (fun r1 τ1 p1 => ?_)
  obtain ⟨P2, c2, k2⟩ := k1 r1 τ1 p1
  refine w_aload F d_L_611 rfl 2 rfl ?_
  refine w_arg F 1 d_L_612 d_L_613 d_L_614 d_L_615 d_L_616 (by decide) (w_in (k := 1) 1 (by decide) F.2.2.2.2 (by omega)) ?_
  refine w_arg F 2 d_L_617 d_L_618 d_L_619 d_L_620 d_L_621 (by decide) (w_in (k := 2) 2 (by decide) F.2.2.2.2 (by omega)) ?_
  refine w_Vi F c2 mo_M_mark st_L_64 rc_63 (by decide) rfl (Nat.le_of_ble_eq_true rfl) d_L_622 (fun r2 τ2 p2 => ?_)
  obtain ⟨e, hR⟩ := k2 r2 τ2 p2
  exact w_eq F 1329 d_L_625 (by decide) e (kk τ2 hR)
theorem lc_12 {i : Nat} (F : LF X u b L xs) (hi : i + 6 ≤ L) (h : Rel σ) (kk : ∀ ρ, Rel ρ → VL X u Q 1329 (LQ u b (nI i)) [] ρ) : VL X u Q 630 (LQ u b (nI i)) [] σ := by
  obtain ⟨P, c1, k1⟩ := o_week X.2.1 F.1.2.2.2.2.2.2.2.1 h
  refine w_aload F d_L_630 rfl 1 rfl ?_
  refine w_Vi F c1 mo_T_week st_L_65 rc_0 (by decide) rfl (Nat.le_of_ble_eq_true rfl) d_L_631 (fun r1 τ1 p1 => ?_)
  obtain ⟨P2, c2, k2⟩ := k1 r1 τ1 p1
  refine w_aload F d_L_634 rfl 2 rfl ?_
  refine w_Vi F c2 mo_M_week st_L_69 rc_63 (by decide) rfl (Nat.le_of_ble_eq_true rfl) d_L_635 (fun r2 τ2 p2 => ?_)
  obtain ⟨e, hR⟩ := k2 r2 τ2 p2
  exact w_eq F 1329 d_L_638 (by decide) e (kk τ2 hR)
theorem lc_13 {i : Nat} (F : LF X u b L xs) (hi : i + 6 ≤ L) (h : Rel σ) (kk : ∀ ρ, Rel ρ → VL X u Q 1329 (LQ u b (nI i)) [] ρ) : VL X u Q 643 (LQ u b (nI i)) [] σ := by
  obtain ⟨P, c1, k1⟩ := o_back X.2.1 F.1.2.2.2.2.2.2.2.1 h (xs (nI i + 1).toNatClampNeg)
  refine w_aload F d_L_643 rfl 1 rfl ?_
  refine w_arg F 1 d_L_644 d_L_645 d_L_646 d_L_647 d_L_648 (by decide) (w_in (k := 1) 1 (by decide) F.2.2.2.2 (by omega)) ?_
  refine w_Vi F c1 mo_T_back st_L_70 rc_0 (by decide) rfl (Nat.le_of_ble_eq_true rfl) d_L_649 (fun r1 τ1 p1 => ?_)
  obtain ⟨P2, c2, k2⟩ := k1 r1 τ1 p1
  refine w_aload F d_L_652 rfl 2 rfl ?_
  refine w_arg F 1 d_L_653 d_L_654 d_L_655 d_L_656 d_L_657 (by decide) (w_in (k := 1) 1 (by decide) F.2.2.2.2 (by omega)) ?_
  refine w_Vi F c2 mo_M_back st_L_73 rc_63 (by decide) rfl (Nat.le_of_ble_eq_true rfl) d_L_658 (fun r2 τ2 p2 => ?_)
  obtain ⟨e, hR⟩ := k2 r2 τ2 p2
  exact w_eq F 1329 d_L_661 (by decide) e (kk τ2 hR)
theorem lc_14 {i : Nat} (F : LF X u b L xs) (hi : i + 6 ≤ L) (h : Rel σ) (kk : ∀ ρ, Rel ρ → VL X u Q 1329 (LQ u b (nI i)) [] ρ) : VL X u Q 666 (LQ u b (nI i)) [] σ := by
  obtain ⟨P, c1, k1⟩ := o_cross X.2.1 F.1.2.2.2.2.2.2.2.1 h (xs (nI i + 1).toNatClampNeg)
  refine w_aload F d_L_666 rfl 1 rfl ?_
  refine w_arg F 1 d_L_667 d_L_668 d_L_669 d_L_670 d_L_671 (by decide) (w_in (k := 1) 1 (by decide) F.2.2.2.2 (by omega)) ?_
  refine w_Vi F c1 mo_T_cross st_L_74 rc_0 (by decide) rfl (Nat.le_of_ble_eq_true rfl) d_L_672 (fun r1 τ1 p1 => ?_)
  obtain ⟨P2, c2, k2⟩ := k1 r1 τ1 p1
  refine w_aload F d_L_675 rfl 2 rfl ?_
  refine w_arg F 1 d_L_676 d_L_677 d_L_678 d_L_679 d_L_680 (by decide) (w_in (k := 1) 1 (by decide) F.2.2.2.2 (by omega)) ?_
  refine w_Vi F c2 mo_M_cross st_L_77 rc_63 (by decide) rfl (Nat.le_of_ble_eq_true rfl) d_L_681 (fun r2 τ2 p2 => ?_)
  obtain ⟨e, hR⟩ := k2 r2 τ2 p2
  exact w_eq F 1329 d_L_684 (by decide) e (kk τ2 hR)
theorem lc_15 {i : Nat} (F : LF X u b L xs) (hi : i + 6 ≤ L) (h : Rel σ) (kk : ∀ ρ, Rel ρ → VL X u Q 1329 (LQ u b (nI i)) [] ρ) : VL X u Q 689 (LQ u b (nI i)) [] σ := by
  obtain ⟨P, c1, k1⟩ := o_give X.2.1 F.1.2.2.2.2.2.2.2.1 h (xs (nI i + 1).toNatClampNeg)
  refine w_aload F d_L_689 rfl 1 rfl ?_
  refine w_arg F 1 d_L_690 d_L_691 d_L_692 d_L_693 d_L_694 (by decide) (w_in (k := 1) 1 (by decide) F.2.2.2.2 (by omega)) ?_
  refine w_Vi F c1 mo_T_give st_L_78 rc_0 (by decide) rfl (Nat.le_of_ble_eq_true rfl) d_L_695 (fun r1 τ1 p1 => ?_)
  obtain ⟨P2, c2, k2⟩ := k1 r1 τ1 p1
  refine w_aload F d_L_698 rfl 2 rfl ?_
  refine w_arg F 1 d_L_699 d_L_700 d_L_701 d_L_702 d_L_703 (by decide) (w_in (k := 1) 1 (by decide) F.2.2.2.2 (by omega)) ?_
  refine w_Vi F c2 mo_M_give st_L_81 rc_63 (by decide) rfl (Nat.le_of_ble_eq_true rfl) d_L_704 (fun r2 τ2 p2 => ?_)
  obtain ⟨e, hR⟩ := k2 r2 τ2 p2
  exact w_eq F 1329 d_L_707 (by decide) e (kk τ2 hR)
theorem lc_16 {i : Nat} (F : LF X u b L xs) (hi : i + 6 ≤ L) (h : Rel σ) (kk : ∀ ρ, Rel ρ → VL X u Q 1329 (LQ u b (nI i)) [] ρ) : VL X u Q 712 (LQ u b (nI i)) [] σ := by
  obtain ⟨P, c1, k1⟩ := o_undo X.2.1 F.1.2.2.2.2.2.2.2.1 h (xs (nI i + 1).toNatClampNeg)
  refine w_aload F d_L_712 rfl 1 rfl ?_
  refine w_arg F 1 d_L_713 d_L_714 d_L_715 d_L_716 d_L_717 (by decide) (w_in (k := 1) 1 (by decide) F.2.2.2.2 (by omega)) ?_
  refine w_Vi F c1 mo_T_undo st_L_82 rc_0 (by decide) rfl (Nat.le_of_ble_eq_true rfl) d_L_718 (fun r1 τ1 p1 => ?_)
  obtain ⟨P2, c2, k2⟩ := k1 r1 τ1 p1
  refine w_aload F d_L_721 rfl 2 rfl ?_
  refine w_arg F 1 d_L_722 d_L_723 d_L_724 d_L_725 d_L_726 (by decide) (w_in (k := 1) 1 (by decide) F.2.2.2.2 (by omega)) ?_
  refine w_Vi F c2 mo_M_undo st_L_85 rc_63 (by decide) rfl (Nat.le_of_ble_eq_true rfl) d_L_727 (fun r2 τ2 p2 => ?_)
  obtain ⟨e, hR⟩ := k2 r2 τ2 p2
  exact w_eq F 1329 d_L_730 (by decide) e (kk τ2 hR)
theorem lc_17 {i : Nat} (F : LF X u b L xs) (hi : i + 6 ≤ L) (h : Rel σ) (kk : ∀ ρ, Rel ρ → VL X u Q 1329 (LQ u b (nI i)) [] ρ) : VL X u Q 735 (LQ u b (nI i)) [] σ := by
  obtain ⟨P, c1, k1⟩ := o_keep X.2.1 F.1.2.2.2.2.2.2.2.1 h (xs (nI i + 1).toNatClampNeg)
  refine w_aload F d_L_735 rfl 1 rfl ?_
  refine w_arg F 1 d_L_736 d_L_737 d_L_738 d_L_739 d_L_740 (by decide) (w_in (k := 1) 1 (by decide) F.2.2.2.2 (by omega)) ?_
  refine w_Vi F c1 mo_T_keep st_L_86 rc_0 (by decide) rfl (Nat.le_of_ble_eq_true rfl) d_L_741 (fun r1 τ1 p1 => ?_)
  obtain ⟨P2, c2, k2⟩ := k1 r1 τ1 p1
  refine w_aload F d_L_744 rfl 2 rfl ?_
  refine w_arg F 1 d_L_745 d_L_746 d_L_747 d_L_748 d_L_749 (by decide) (w_in (k := 1) 1 (by decide) F.2.2.2.2 (by omega)) ?_
  refine w_Vi F c2 mo_M_keep st_L_89 rc_63 (by decide) rfl (Nat.le_of_ble_eq_true rfl) d_L_750 (fun r2 τ2 p2 => ?_)
  obtain ⟨e, hR⟩ := k2 r2 τ2 p2
  exact w_eq F 1329 d_L_753 (by decide) e (kk τ2 hR)
theorem lc_18 {i : Nat} (F : LF X u b L xs) (hi : i + 6 ≤ L) (h : Rel σ) (kk : ∀ ρ, Rel ρ → VL X u Q 1329 (LQ u b (nI i)) [] ρ) : VL X u Q 758 (LQ u b (nI i)) [] σ := by
  obtain ⟨P, c1, k1⟩ := o_on X.2.1 F.1.2.2.2.2.2.2.2.1 h (xs (nI i + 1).toNatClampNeg)
  refine w_aload F d_L_758 rfl 1 rfl ?_
  refine w_arg F 1 d_L_759 d_L_760 d_L_761 d_L_762 d_L_763 (by decide) (w_in (k := 1) 1 (by decide) F.2.2.2.2 (by omega)) ?_
  refine w_Vi F c1 mo_T_on st_L_90 rc_0 (by decide) rfl (Nat.le_of_ble_eq_true rfl) d_L_764 (fun r1 τ1 p1 => ?_)
  obtain ⟨P2, c2, k2⟩ := k1 r1 τ1 p1
  refine w_aload F d_L_767 rfl 2 rfl ?_
  refine w_arg F 1 d_L_768 d_L_769 d_L_770 d_L_771 d_L_772 (by decide) (w_in (k := 1) 1 (by decide) F.2.2.2.2 (by omega)) ?_
  refine w_Vi F c2 mo_M_on st_L_93 rc_63 (by decide) rfl (Nat.le_of_ble_eq_true rfl) d_L_773 (fun r2 τ2 p2 => ?_)
  obtain ⟨e, hR⟩ := k2 r2 τ2 p2
  exact w_eq F 1329 d_L_776 (by decide) e (kk τ2 hR)
theorem lc_19 {i : Nat} (F : LF X u b L xs) (hi : i + 6 ≤ L) (h : Rel σ) (kk : ∀ ρ, Rel ρ → VL X u Q 1329 (LQ u b (nI i)) [] ρ) : VL X u Q 781 (LQ u b (nI i)) [] σ := by
  obtain ⟨P, c1, k1⟩ := o_speak X.2.1 F.1.2.2.2.2.2.2.2.1 h
  refine w_aload F d_L_781 rfl 1 rfl ?_
  refine w_Vi F c1 mo_T_speak st_L_94 rc_0 (by decide) rfl (Nat.le_of_ble_eq_true rfl) d_L_782 (fun r1 τ1 p1 => ?_)
  obtain ⟨P2, c2, k2⟩ := k1 r1 τ1 p1
  refine w_aload F d_L_785 rfl 2 rfl ?_
  refine w_Vi F c2 mo_M_speak st_L_97 rc_63 (by decide) rfl (Nat.le_of_ble_eq_true rfl) d_L_786 (fun r2 τ2 p2 => ?_)
  obtain ⟨e, hR⟩ := k2 r2 τ2 p2
  exact w_eq F 1329 d_L_789 (by decide) e (kk τ2 hR)
theorem lc_20 {i : Nat} (F : LF X u b L xs) (hi : i + 6 ≤ L) (h : Rel σ) (kk : ∀ ρ, Rel ρ → VL X u Q 1329 (LQ u b (nI i)) [] ρ) : VL X u Q 794 (LQ u b (nI i)) [] σ := by
  obtain ⟨P, c1, k1⟩ := o_safe X.2.1 F.1.2.2.2.2.2.2.2.1 h
  refine w_aload F d_L_794 rfl 1 rfl ?_
  refine w_Vi F c1 mo_T_safe st_L_98 rc_0 (by decide) rfl (Nat.le_of_ble_eq_true rfl) d_L_795 (fun r1 τ1 p1 => ?_)
  obtain ⟨P2, c2, k2⟩ := k1 r1 τ1 p1
  refine w_aload F d_L_798 rfl 2 rfl ?_
  refine w_Vi F c2 mo_M_safe st_L_101 rc_63 (by decide) rfl (Nat.le_of_ble_eq_true rfl) d_L_799 (fun r2 τ2 p2 => ?_)
  obtain ⟨e, hR⟩ := k2 r2 τ2 p2
  exact w_eq F 1329 d_L_802 (by decide) e (kk τ2 hR)
theorem lc_21 {i : Nat} (F : LF X u b L xs) (hi : i + 6 ≤ L) (h : Rel σ) (kk : ∀ ρ, Rel ρ → VL X u Q 1329 (LQ u b (nI i)) [] ρ) : VL X u Q 807 (LQ u b (nI i)) [] σ := by
  obtain ⟨P, c1, k1⟩ := o_silent X.2.1 F.1.2.2.2.2.2.2.2.1 h
  refine w_aload F d_L_807 rfl 1 rfl ?_
  refine w_Vi F c1 mo_T_silent st_L_102 rc_0 (by decide) rfl (Nat.le_of_ble_eq_true rfl) d_L_808 (fun r1 τ1 p1 => ?_)
  obtain ⟨P2, c2, k2⟩ := k1 r1 τ1 p1
  refine w_aload F d_L_811 rfl 2 rfl ?_
  refine w_Vi F c2 mo_M_silent st_L_105 rc_63 (by decide) rfl (Nat.le_of_ble_eq_true rfl) d_L_812 (fun r2 τ2 p2 => ?_)
  obtain ⟨e, hR⟩ := k2 r2 τ2 p2
  exact w_eq F 1329 d_L_815 (by decide) e (kk τ2 hR)
theorem lc_22 {i : Nat} (F : LF X u b L xs) (hi : i + 6 ≤ L) (h : Rel σ) (kk : ∀ ρ, Rel ρ → VL X u Q 1329 (LQ u b (nI i)) [] ρ) : VL X u Q 820 (LQ u b (nI i)) [] σ := by
  obtain ⟨P, c1, k1⟩ := o_heads X.2.1 F.1.2.2.2.2.2.2.2.1 h (xs (nI i + 1).toNatClampNeg)
  refine w_aload F d_L_820 rfl 1 rfl ?_
  refine w_arg F 1 d_L_821 d_L_822 d_L_823 d_L_824 d_L_825 (by decide) (w_in (k := 1) 1 (by decide) F.2.2.2.2 (by omega)) ?_
  refine w_Vi F c1 mo_T_heads st_L_106 rc_0 (by decide) rfl (Nat.le_of_ble_eq_true rfl) d_L_826 (fun r1 τ1 p1 => ?_)
  obtain ⟨P2, c2, k2⟩ := k1 r1 τ1 p1
  refine w_aload F d_L_829 rfl 2 rfl ?_
  refine w_arg F 1 d_L_830 d_L_831 d_L_832 d_L_833 d_L_834 (by decide) (w_in (k := 1) 1 (by decide) F.2.2.2.2 (by omega)) ?_
  refine w_Vi F c2 mo_M_heads st_L_109 rc_63 (by decide) rfl (Nat.le_of_ble_eq_true rfl) d_L_835 (fun r2 τ2 p2 => ?_)
  obtain ⟨e, hR⟩ := k2 r2 τ2 p2
  exact w_eq F 1329 d_L_838 (by decide) e (kk τ2 hR)
theorem lc_23 {i : Nat} (F : LF X u b L xs) (hi : i + 6 ≤ L) (h : Rel σ) (kk : ∀ ρ, Rel ρ → VL X u Q 1329 (LQ u b (nI i)) [] ρ) : VL X u Q 843 (LQ u b (nI i)) [] σ := by
  obtain ⟨P, c1, k1⟩ := o_best X.2.1 F.1.2.2.2.2.2.2.2.1 h (xs (nI i + 1).toNatClampNeg) (xs (nI i + 2).toNatClampNeg)
  refine w_aload F d_L_843 rfl 1 rfl ?_
  refine w_arg F 1 d_L_844 d_L_845 d_L_846 d_L_847 d_L_848 (by decide) (w_in (k := 1) 1 (by decide) F.2.2.2.2 (by omega)) ?_
  refine w_arg F 2 d_L_849 d_L_850 d_L_851 d_L_852 d_L_853 (by decide) (w_in (k := 2) 2 (by decide) F.2.2.2.2 (by omega)) ?_
  refine w_Vi F c1 mo_T_best st_L_110 rc_0 (by decide) rfl (Nat.le_of_ble_eq_true rfl) d_L_854 (fun r1 τ1 p1 => ?_)
  obtain ⟨P2, c2, k2⟩ := k1 r1 τ1 p1
  refine w_aload F d_L_857 rfl 2 rfl ?_
  refine w_arg F 1 d_L_858 d_L_859 d_L_860 d_L_861 d_L_862 (by decide) (w_in (k := 1) 1 (by decide) F.2.2.2.2 (by omega)) ?_
  refine w_arg F 2 d_L_863 d_L_864 d_L_865 d_L_866 d_L_867 (by decide) (w_in (k := 2) 2 (by decide) F.2.2.2.2 (by omega)) ?_
  refine w_Vi F c2 mo_M_best st_L_113 rc_63 (by decide) rfl (Nat.le_of_ble_eq_true rfl) d_L_868 (fun r2 τ2 p2 => ?_)
  obtain ⟨e, hR⟩ := k2 r2 τ2 p2
  exact w_eq F 1329 d_L_871 (by decide) e (kk τ2 hR)
theorem lc_24 {i : Nat} (F : LF X u b L xs) (hi : i + 6 ≤ L) (h : Rel σ) (kk : ∀ ρ, Rel ρ → VL X u Q 1329 (LQ u b (nI i)) [] ρ) : VL X u Q 876 (LQ u b (nI i)) [] σ := by
  obtain ⟨P, c1, k1⟩ := o_ways X.2.1 F.1.2.2.2.2.2.2.2.1 h (xs (nI i + 1).toNatClampNeg)
  refine w_aload F d_L_876 rfl 1 rfl ?_
  refine w_arg F 1 d_L_877 d_L_878 d_L_879 d_L_880 d_L_881 (by decide) (w_in (k := 1) 1 (by decide) F.2.2.2.2 (by omega)) ?_
  refine w_Vi F c1 mo_T_ways st_L_114 rc_0 (by decide) rfl (Nat.le_of_ble_eq_true rfl) d_L_882 (fun r1 τ1 p1 => ?_)
  obtain ⟨P2, c2, k2⟩ := k1 r1 τ1 p1
  refine w_aload F d_L_885 rfl 2 rfl ?_
  refine w_arg F 1 d_L_886 d_L_887 d_L_888 d_L_889 d_L_890 (by decide) (w_in (k := 1) 1 (by decide) F.2.2.2.2 (by omega)) ?_
  refine w_Vi F c2 mo_M_ways st_L_117 rc_63 (by decide) rfl (Nat.le_of_ble_eq_true rfl) d_L_891 (fun r2 τ2 p2 => ?_)
  obtain ⟨e, hR⟩ := k2 r2 τ2 p2
  exact w_eq F 1329 d_L_894 (by decide) e (kk τ2 hR)
theorem lc_25 {i : Nat} (F : LF X u b L xs) (hi : i + 6 ≤ L) (h : Rel σ) (kk : ∀ ρ, Rel ρ → VL X u Q 1329 (LQ u b (nI i)) [] ρ) : VL X u Q 899 (LQ u b (nI i)) [] σ := by
  obtain ⟨P, c1, k1⟩ := o_brings X.2.1 F.1.2.2.2.2.2.2.2.1 h (xs (nI i + 1).toNatClampNeg)
  refine w_aload F d_L_899 rfl 1 rfl ?_
  refine w_arg F 1 d_L_900 d_L_901 d_L_902 d_L_903 d_L_904 (by decide) (w_in (k := 1) 1 (by decide) F.2.2.2.2 (by omega)) ?_
  refine w_Vi F c1 mo_T_brings st_L_118 rc_0 (by decide) rfl (Nat.le_of_ble_eq_true rfl) d_L_905 (fun r1 τ1 p1 => ?_)
  obtain ⟨P2, c2, k2⟩ := k1 r1 τ1 p1
  refine w_aload F d_L_908 rfl 2 rfl ?_
  refine w_arg F 1 d_L_909 d_L_910 d_L_911 d_L_912 d_L_913 (by decide) (w_in (k := 1) 1 (by decide) F.2.2.2.2 (by omega)) ?_
  refine w_Vi F c2 mo_M_brings st_L_121 rc_63 (by decide) rfl (Nat.le_of_ble_eq_true rfl) d_L_914 (fun r2 τ2 p2 => ?_)
  obtain ⟨e, hR⟩ := k2 r2 τ2 p2
  exact w_eq F 1329 d_L_917 (by decide) e (kk τ2 hR)
theorem lc_26 {i : Nat} (F : LF X u b L xs) (hi : i + 6 ≤ L) (h : Rel σ) (kk : ∀ ρ, Rel ρ → VL X u Q 1329 (LQ u b (nI i)) [] ρ) : VL X u Q 922 (LQ u b (nI i)) [] σ := by
  obtain ⟨P, c1, k1⟩ := o_fits X.2.1 F.1.2.2.2.2.2.2.2.1 h (xs (nI i + 1).toNatClampNeg)
  refine w_aload F d_L_922 rfl 1 rfl ?_
  refine w_arg F 1 d_L_923 d_L_924 d_L_925 d_L_926 d_L_927 (by decide) (w_in (k := 1) 1 (by decide) F.2.2.2.2 (by omega)) ?_
  refine w_Vi F c1 mo_T_fits st_L_122 rc_0 (by decide) rfl (Nat.le_of_ble_eq_true rfl) d_L_928 (fun r1 τ1 p1 => ?_)
  obtain ⟨P2, c2, k2⟩ := k1 r1 τ1 p1
  refine w_aload F d_L_931 rfl 2 rfl ?_
  refine w_arg F 1 d_L_932 d_L_933 d_L_934 d_L_935 d_L_936 (by decide) (w_in (k := 1) 1 (by decide) F.2.2.2.2 (by omega)) ?_
  refine w_Vi F c2 mo_M_fits st_L_125 rc_63 (by decide) rfl (Nat.le_of_ble_eq_true rfl) d_L_937 (fun r2 τ2 p2 => ?_)
  obtain ⟨e, hR⟩ := k2 r2 τ2 p2
  exact w_eq F 1329 d_L_940 (by decide) e (kk τ2 hR)
theorem lc_27 {i : Nat} (F : LF X u b L xs) (hi : i + 6 ≤ L) (h : Rel σ) (kk : ∀ ρ, Rel ρ → VL X u Q 1329 (LQ u b (nI i)) [] ρ) : VL X u Q 945 (LQ u b (nI i)) [] σ := by
  obtain ⟨P, c1, k1⟩ := o_sure X.2.1 F.1.2.2.2.2.2.2.2.1 h (xs (nI i + 1).toNatClampNeg)
  refine w_aload F d_L_945 rfl 1 rfl ?_
  refine w_arg F 1 d_L_946 d_L_947 d_L_948 d_L_949 d_L_950 (by decide) (w_in (k := 1) 1 (by decide) F.2.2.2.2 (by omega)) ?_
  refine w_Vi F c1 mo_T_sure st_L_126 rc_0 (by decide) rfl (Nat.le_of_ble_eq_true rfl) d_L_951 (fun r1 τ1 p1 => ?_)
  obtain ⟨P2, c2, k2⟩ := k1 r1 τ1 p1
  refine w_aload F d_L_954 rfl 2 rfl ?_
  refine w_arg F 1 d_L_955 d_L_956 d_L_957 d_L_958 d_L_959 (by decide) (w_in (k := 1) 1 (by decide) F.2.2.2.2 (by omega)) ?_
  refine w_Vi F c2 mo_M_sure st_L_129 rc_63 (by decide) rfl (Nat.le_of_ble_eq_true rfl) d_L_960 (fun r2 τ2 p2 => ?_)
  obtain ⟨e, hR⟩ := k2 r2 τ2 p2
  exact w_eq F 1329 d_L_963 (by decide) e (kk τ2 hR)
theorem lc_28 {i : Nat} (F : LF X u b L xs) (hi : i + 6 ≤ L) (h : Rel σ) (kk : ∀ ρ, Rel ρ → VL X u Q 1329 (LQ u b (nI i)) [] ρ) : VL X u Q 968 (LQ u b (nI i)) [] σ := by
  obtain ⟨P, c1, k1⟩ := o_ask X.2.1 F.1.2.2.2.2.2.2.2.1 h (xs (nI i + 1).toNatClampNeg)
  refine w_aload F d_L_968 rfl 1 rfl ?_
  refine w_arg F 1 d_L_969 d_L_970 d_L_971 d_L_972 d_L_973 (by decide) (w_in (k := 1) 1 (by decide) F.2.2.2.2 (by omega)) ?_
  refine w_Vi F c1 mo_T_ask st_L_130 rc_0 (by decide) rfl (Nat.le_of_ble_eq_true rfl) d_L_974 (fun r1 τ1 p1 => ?_)
  obtain ⟨P2, c2, k2⟩ := k1 r1 τ1 p1
  refine w_aload F d_L_977 rfl 2 rfl ?_
  refine w_arg F 1 d_L_978 d_L_979 d_L_980 d_L_981 d_L_982 (by decide) (w_in (k := 1) 1 (by decide) F.2.2.2.2 (by omega)) ?_
  refine w_Vi F c2 mo_M_ask st_L_133 rc_63 (by decide) rfl (Nat.le_of_ble_eq_true rfl) d_L_983 (fun r2 τ2 p2 => ?_)
  obtain ⟨e, hR⟩ := k2 r2 τ2 p2
  exact w_eq F 1329 d_L_986 (by decide) e (kk τ2 hR)
theorem lc_29 {i : Nat} (F : LF X u b L xs) (hi : i + 6 ≤ L) (h : Rel σ) (kk : ∀ ρ, Rel ρ → VL X u Q 1329 (LQ u b (nI i)) [] ρ) : VL X u Q 991 (LQ u b (nI i)) [] σ := by
  obtain ⟨P, c1, k1⟩ := o_bold X.2.1 F.1.2.2.2.2.2.2.2.1 h (xs (nI i + 1).toNatClampNeg) (xs (nI i + 2).toNatClampNeg)
  refine w_aload F d_L_991 rfl 1 rfl ?_
  refine w_arg F 1 d_L_992 d_L_993 d_L_994 d_L_995 d_L_996 (by decide) (w_in (k := 1) 1 (by decide) F.2.2.2.2 (by omega)) ?_
  refine w_arg F 2 d_L_997 d_L_998 d_L_999 d_L_1000 d_L_1001 (by decide) (w_in (k := 2) 2 (by decide) F.2.2.2.2 (by omega)) ?_
  refine w_Vi F c1 mo_T_bold st_L_134 rc_0 (by decide) rfl (Nat.le_of_ble_eq_true rfl) d_L_1002 (fun r1 τ1 p1 => ?_)
  obtain ⟨P2, c2, k2⟩ := k1 r1 τ1 p1
  refine w_aload F d_L_1005 rfl 2 rfl ?_
  refine w_arg F 1 d_L_1006 d_L_1007 d_L_1008 d_L_1009 d_L_1010 (by decide) (w_in (k := 1) 1 (by decide) F.2.2.2.2 (by omega)) ?_
  refine w_arg F 2 d_L_1011 d_L_1012 d_L_1013 d_L_1014 d_L_1015 (by decide) (w_in (k := 2) 2 (by decide) F.2.2.2.2 (by omega)) ?_
  refine w_Vi F c2 mo_M_bold st_L_137 rc_63 (by decide) rfl (Nat.le_of_ble_eq_true rfl) d_L_1016 (fun r2 τ2 p2 => ?_)
  obtain ⟨e, hR⟩ := k2 r2 τ2 p2
  exact w_eq F 1329 d_L_1019 (by decide) e (kk τ2 hR)
theorem lc_30 {i : Nat} (F : LF X u b L xs) (hi : i + 6 ≤ L) (h : Rel σ) (kk : ∀ ρ, Rel ρ → VL X u Q 1329 (LQ u b (nI i)) [] ρ) : VL X u Q 1024 (LQ u b (nI i)) [] σ := by
  obtain ⟨P, c1, k1⟩ := o_kinds X.2.1 F.1.2.2.2.2.2.2.2.1 h (xs (nI i + 1).toNatClampNeg) (xs (nI i + 2).toNatClampNeg)
  refine w_aload F d_L_1024 rfl 1 rfl ?_
  refine w_arg F 1 d_L_1025 d_L_1026 d_L_1027 d_L_1028 d_L_1029 (by decide) (w_in (k := 1) 1 (by decide) F.2.2.2.2 (by omega)) ?_
  refine w_arg F 2 d_L_1030 d_L_1031 d_L_1032 d_L_1033 d_L_1034 (by decide) (w_in (k := 2) 2 (by decide) F.2.2.2.2 (by omega)) ?_
  refine w_Vi F c1 mo_T_kinds st_L_138 rc_0 (by decide) rfl (Nat.le_of_ble_eq_true rfl) d_L_1035 (fun r1 τ1 p1 => ?_)
  obtain ⟨P2, c2, k2⟩ := k1 r1 τ1 p1
  refine w_aload F d_L_1038 rfl 2 rfl ?_
  refine w_arg F 1 d_L_1039 d_L_1040 d_L_1041 d_L_1042 d_L_1043 (by decide) (w_in (k := 1) 1 (by decide) F.2.2.2.2 (by omega)) ?_
  refine w_arg F 2 d_L_1044 d_L_1045 d_L_1046 d_L_1047 d_L_1048 (by decide) (w_in (k := 2) 2 (by decide) F.2.2.2.2 (by omega)) ?_
  refine w_Vi F c2 mo_M_kinds st_L_141 rc_63 (by decide) rfl (Nat.le_of_ble_eq_true rfl) d_L_1049 (fun r2 τ2 p2 => ?_)
  obtain ⟨e, hR⟩ := k2 r2 τ2 p2
  exact w_eq F 1329 d_L_1052 (by decide) e (kk τ2 hR)
theorem lc_31 {i : Nat} (F : LF X u b L xs) (hi : i + 6 ≤ L) (h : Rel σ) (kk : ∀ ρ, Rel ρ → VL X u Q 1329 (LQ u b (nI i)) [] ρ) : VL X u Q 1057 (LQ u b (nI i)) [] σ := by
  obtain ⟨P, c1, k1⟩ := o_test X.2.1 F.1.2.2.2.2.2.2.2.1 h (xs (nI i + 1).toNatClampNeg) (xs (nI i + 2).toNatClampNeg)
  refine w_aload F d_L_1057 rfl 1 rfl ?_
  refine w_arg F 1 d_L_1058 d_L_1059 d_L_1060 d_L_1061 d_L_1062 (by decide) (w_in (k := 1) 1 (by decide) F.2.2.2.2 (by omega)) ?_
  refine w_arg F 2 d_L_1063 d_L_1064 d_L_1065 d_L_1066 d_L_1067 (by decide) (w_in (k := 2) 2 (by decide) F.2.2.2.2 (by omega)) ?_
  refine w_Vi F c1 mo_T_test st_L_142 rc_0 (by decide) rfl (Nat.le_of_ble_eq_true rfl) d_L_1068 (fun r1 τ1 p1 => ?_)
  obtain ⟨P2, c2, k2⟩ := k1 r1 τ1 p1
  refine w_aload F d_L_1071 rfl 2 rfl ?_
  refine w_arg F 1 d_L_1072 d_L_1073 d_L_1074 d_L_1075 d_L_1076 (by decide) (w_in (k := 1) 1 (by decide) F.2.2.2.2 (by omega)) ?_
  refine w_arg F 2 d_L_1077 d_L_1078 d_L_1079 d_L_1080 d_L_1081 (by decide) (w_in (k := 2) 2 (by decide) F.2.2.2.2 (by omega)) ?_
  refine w_Vi F c2 mo_M_test st_L_145 rc_63 (by decide) rfl (Nat.le_of_ble_eq_true rfl) d_L_1082 (fun r2 τ2 p2 => ?_)
  obtain ⟨e, hR⟩ := k2 r2 τ2 p2
  exact w_eq F 1329 d_L_1085 (by decide) e (kk τ2 hR)
theorem lc_32 {i : Nat} (F : LF X u b L xs) (hi : i + 6 ≤ L) (h : Rel σ) (kk : ∀ ρ, Rel ρ → VL X u Q 1329 (LQ u b (nI i)) [] ρ) : VL X u Q 1090 (LQ u b (nI i)) [] σ := by
  obtain ⟨P, c1, k1⟩ := o_duel X.2.1 F.1.2.2.2.2.2.2.2.1 h (xs (nI i + 1).toNatClampNeg)
  refine w_aload F d_L_1090 rfl 1 rfl ?_
  refine w_arg F 1 d_L_1091 d_L_1092 d_L_1093 d_L_1094 d_L_1095 (by decide) (w_in (k := 1) 1 (by decide) F.2.2.2.2 (by omega)) ?_
  refine w_Vi F c1 mo_T_duel st_L_146 rc_0 (by decide) rfl (Nat.le_of_ble_eq_true rfl) d_L_1096 (fun r1 τ1 p1 => ?_)
  obtain ⟨P2, c2, k2⟩ := k1 r1 τ1 p1
  refine w_aload F d_L_1099 rfl 2 rfl ?_
  refine w_arg F 1 d_L_1100 d_L_1101 d_L_1102 d_L_1103 d_L_1104 (by decide) (w_in (k := 1) 1 (by decide) F.2.2.2.2 (by omega)) ?_
  refine w_Vi F c2 mo_M_duel st_L_149 rc_63 (by decide) rfl (Nat.le_of_ble_eq_true rfl) d_L_1105 (fun r2 τ2 p2 => ?_)
  obtain ⟨e, hR⟩ := k2 r2 τ2 p2
  exact w_eq F 1329 d_L_1108 (by decide) e (kk τ2 hR)
theorem lc_33 {i : Nat} (F : LF X u b L xs) (hi : i + 6 ≤ L) (h : Rel σ) (kk : ∀ ρ, Rel ρ → VL X u Q 1329 (LQ u b (nI i)) [] ρ) : VL X u Q 1113 (LQ u b (nI i)) [] σ := by
  obtain ⟨P, c1, k1⟩ := o_sum X.2.1 F.1.2.2.2.2.2.2.2.1 h (xs (nI i + 1).toNatClampNeg)
  refine w_aload F d_L_1113 rfl 1 rfl ?_
  refine w_arg F 1 d_L_1114 d_L_1115 d_L_1116 d_L_1117 d_L_1118 (by decide) (w_in (k := 1) 1 (by decide) F.2.2.2.2 (by omega)) ?_
  refine w_Vi F c1 mo_T_sum st_L_150 rc_0 (by decide) rfl (Nat.le_of_ble_eq_true rfl) d_L_1119 (fun r1 τ1 p1 => ?_)
  obtain ⟨P2, c2, k2⟩ := k1 r1 τ1 p1
  refine w_aload F d_L_1122 rfl 2 rfl ?_
  refine w_arg F 1 d_L_1123 d_L_1124 d_L_1125 d_L_1126 d_L_1127 (by decide) (w_in (k := 1) 1 (by decide) F.2.2.2.2 (by omega)) ?_
  refine w_Vi F c2 mo_M_sum st_L_153 rc_63 (by decide) rfl (Nat.le_of_ble_eq_true rfl) d_L_1128 (fun r2 τ2 p2 => ?_)
  obtain ⟨e, hR⟩ := k2 r2 τ2 p2
  exact w_eq F 1329 d_L_1131 (by decide) e (kk τ2 hR)
theorem lc_34 {i : Nat} (F : LF X u b L xs) (hi : i + 6 ≤ L) (h : Rel σ) (kk : ∀ ρ, Rel ρ → VL X u Q 1329 (LQ u b (nI i)) [] ρ) : VL X u Q 1136 (LQ u b (nI i)) [] σ := by
  obtain ⟨P, c1, k1⟩ := o_odds X.2.1 F.1.2.2.2.2.2.2.2.1 h (xs (nI i + 1).toNatClampNeg)
  refine w_aload F d_L_1136 rfl 1 rfl ?_
  refine w_arg F 1 d_L_1137 d_L_1138 d_L_1139 d_L_1140 d_L_1141 (by decide) (w_in (k := 1) 1 (by decide) F.2.2.2.2 (by omega)) ?_
  refine w_Vi F c1 mo_T_odds st_L_154 rc_0 (by decide) rfl (Nat.le_of_ble_eq_true rfl) d_L_1142 (fun r1 τ1 p1 => ?_)
  obtain ⟨P2, c2, k2⟩ := k1 r1 τ1 p1
  refine w_aload F d_L_1145 rfl 2 rfl ?_
  refine w_arg F 1 d_L_1146 d_L_1147 d_L_1148 d_L_1149 d_L_1150 (by decide) (w_in (k := 1) 1 (by decide) F.2.2.2.2 (by omega)) ?_
  refine w_Vi F c2 mo_M_odds st_L_157 rc_63 (by decide) rfl (Nat.le_of_ble_eq_true rfl) d_L_1151 (fun r2 τ2 p2 => ?_)
  obtain ⟨e, hR⟩ := k2 r2 τ2 p2
  exact w_eq F 1329 d_L_1154 (by decide) e (kk τ2 hR)
theorem lc_35 {i : Nat} (F : LF X u b L xs) (hi : i + 6 ≤ L) (h : Rel σ) (kk : ∀ ρ, Rel ρ → VL X u Q 1329 (LQ u b (nI i)) [] ρ) : VL X u Q 1159 (LQ u b (nI i)) [] σ := by
  obtain ⟨P, c1, k1⟩ := o_mid X.2.1 F.1.2.2.2.2.2.2.2.1 h (xs (nI i + 1).toNatClampNeg)
  refine w_aload F d_L_1159 rfl 1 rfl ?_
  refine w_arg F 1 d_L_1160 d_L_1161 d_L_1162 d_L_1163 d_L_1164 (by decide) (w_in (k := 1) 1 (by decide) F.2.2.2.2 (by omega)) ?_
  refine w_Vi F c1 mo_T_mid st_L_158 rc_0 (by decide) rfl (Nat.le_of_ble_eq_true rfl) d_L_1165 (fun r1 τ1 p1 => ?_)
  obtain ⟨P2, c2, k2⟩ := k1 r1 τ1 p1
  refine w_aload F d_L_1168 rfl 2 rfl ?_
  refine w_arg F 1 d_L_1169 d_L_1170 d_L_1171 d_L_1172 d_L_1173 (by decide) (w_in (k := 1) 1 (by decide) F.2.2.2.2 (by omega)) ?_
  refine w_Vi F c2 mo_M_mid st_L_161 rc_63 (by decide) rfl (Nat.le_of_ble_eq_true rfl) d_L_1174 (fun r2 τ2 p2 => ?_)
  obtain ⟨e, hR⟩ := k2 r2 τ2 p2
  exact w_eq F 1329 d_L_1177 (by decide) e (kk τ2 hR)
theorem lc_36 {i : Nat} (F : LF X u b L xs) (hi : i + 6 ≤ L) (h : Rel σ) (kk : ∀ ρ, Rel ρ → VL X u Q 1329 (LQ u b (nI i)) [] ρ) : VL X u Q 1182 (LQ u b (nI i)) [] σ := by
  obtain ⟨P, c1, k1⟩ := o_lots X.2.1 F.1.2.2.2.2.2.2.2.1 h (xs (nI i + 1).toNatClampNeg) (xs (nI i + 2).toNatClampNeg)
  refine w_aload F d_L_1182 rfl 1 rfl ?_
  refine w_arg F 1 d_L_1183 d_L_1184 d_L_1185 d_L_1186 d_L_1187 (by decide) (w_in (k := 1) 1 (by decide) F.2.2.2.2 (by omega)) ?_
  refine w_arg F 2 d_L_1188 d_L_1189 d_L_1190 d_L_1191 d_L_1192 (by decide) (w_in (k := 2) 2 (by decide) F.2.2.2.2 (by omega)) ?_
  refine w_Vi F c1 mo_T_lots st_L_162 rc_0 (by decide) rfl (Nat.le_of_ble_eq_true rfl) d_L_1193 (fun r1 τ1 p1 => ?_)
  obtain ⟨P2, c2, k2⟩ := k1 r1 τ1 p1
  refine w_aload F d_L_1196 rfl 2 rfl ?_
  refine w_arg F 1 d_L_1197 d_L_1198 d_L_1199 d_L_1200 d_L_1201 (by decide) (w_in (k := 1) 1 (by decide) F.2.2.2.2 (by omega)) ?_
  refine w_arg F 2 d_L_1202 d_L_1203 d_L_1204 d_L_1205 d_L_1206 (by decide) (w_in (k := 2) 2 (by decide) F.2.2.2.2 (by omega)) ?_
  refine w_Vi F c2 mo_M_lots st_L_165 rc_63 (by decide) rfl (Nat.le_of_ble_eq_true rfl) d_L_1207 (fun r2 τ2 p2 => ?_)
  obtain ⟨e, hR⟩ := k2 r2 τ2 p2
  exact w_eq F 1329 d_L_1210 (by decide) e (kk τ2 hR)
theorem lc_37 {i : Nat} (F : LF X u b L xs) (hi : i + 6 ≤ L) (h : Rel σ) (kk : ∀ ρ, Rel ρ → VL X u Q 1329 (LQ u b (nI i)) [] ρ) : VL X u Q 1215 (LQ u b (nI i)) [] σ := by
  obtain ⟨P, c1, k1⟩ := o_asked X.2.1 F.1.2.2.2.2.2.2.2.1 h
  refine w_aload F d_L_1215 rfl 1 rfl ?_
  refine w_Vi F c1 mo_T_asked st_L_166 rc_0 (by decide) rfl (Nat.le_of_ble_eq_true rfl) d_L_1216 (fun r1 τ1 p1 => ?_)
  obtain ⟨P2, c2, k2⟩ := k1 r1 τ1 p1
  refine w_aload F d_L_1219 rfl 2 rfl ?_
  refine w_Vi F c2 mo_M_asked st_L_169 rc_63 (by decide) rfl (Nat.le_of_ble_eq_true rfl) d_L_1220 (fun r2 τ2 p2 => ?_)
  obtain ⟨e, hR⟩ := k2 r2 τ2 p2
  exact w_eq F 1329 d_L_1223 (by decide) e (kk τ2 hR)
theorem lc_38 {i : Nat} (F : LF X u b L xs) (hi : i + 6 ≤ L) (h : Rel σ) (kk : ∀ ρ, Rel ρ → VL X u Q 1329 (LQ u b (nI i)) [] ρ) : VL X u Q 1228 (LQ u b (nI i)) [] σ := by
  obtain ⟨P, c1, k1⟩ := o_upper X.2.1 F.1.2.2.2.2.2.2.2.1 h
  refine w_aload F d_L_1228 rfl 1 rfl ?_
  refine w_Vl F c1 mo_T_upper st_L_170 rc_0 (by decide) rfl (Nat.le_of_ble_eq_true rfl) d_L_1229 (fun r1 τ1 p1 => ?_)
  obtain ⟨P2, c2, k2⟩ := k1 r1 τ1 p1
  refine w_aload F d_L_1232 rfl 2 rfl ?_
  refine w_Vl F c2 mo_M_upper st_L_174 rc_63 (by decide) rfl (Nat.le_of_ble_eq_true rfl) d_L_1233 (fun r2 τ2 p2 => ?_)
  obtain ⟨e, hR⟩ := k2 r2 τ2 p2
  exact w_leq F 1329 d_L_1236 d_L_1237 (by decide) e (kk τ2 hR)
theorem lc_39 {i : Nat} (F : LF X u b L xs) (hi : i + 6 ≤ L) (h : Rel σ) (kk : ∀ ρ, Rel ρ → VL X u Q 1329 (LQ u b (nI i)) [] ρ) : VL X u Q 1242 (LQ u b (nI i)) [] σ := by
  obtain ⟨P, c1, k1⟩ := o_lower X.2.1 F.1.2.2.2.2.2.2.2.1 h
  refine w_aload F d_L_1242 rfl 1 rfl ?_
  refine w_Vl F c1 mo_T_lower st_L_175 rc_0 (by decide) rfl (Nat.le_of_ble_eq_true rfl) d_L_1243 (fun r1 τ1 p1 => ?_)
  obtain ⟨P2, c2, k2⟩ := k1 r1 τ1 p1
  refine w_aload F d_L_1246 rfl 2 rfl ?_
  refine w_Vl F c2 mo_M_lower st_L_178 rc_63 (by decide) rfl (Nat.le_of_ble_eq_true rfl) d_L_1247 (fun r2 τ2 p2 => ?_)
  obtain ⟨e, hR⟩ := k2 r2 τ2 p2
  exact w_leq F 1329 d_L_1250 d_L_1251 (by decide) e (kk τ2 hR)
theorem lc_40 {i : Nat} (F : LF X u b L xs) (hi : i + 6 ≤ L) (h : Rel σ) (kk : ∀ ρ, Rel ρ → VL X u Q 1329 (LQ u b (nI i)) [] ρ) : VL X u Q 1256 (LQ u b (nI i)) [] σ := by
  obtain ⟨P, c1, k1⟩ := o_count X.2.1 F.1.2.2.2.2.2.2.2.1 h (xs (nI i + 1).toNatClampNeg)
  refine w_aload F d_L_1256 rfl 1 rfl ?_
  refine w_arg F 1 d_L_1257 d_L_1258 d_L_1259 d_L_1260 d_L_1261 (by decide) (w_in (k := 1) 1 (by decide) F.2.2.2.2 (by omega)) ?_
  refine w_Vi F c1 mo_T_count st_L_179 rc_0 (by decide) rfl (Nat.le_of_ble_eq_true rfl) d_L_1262 (fun r1 τ1 p1 => ?_)
  obtain ⟨P2, c2, k2⟩ := k1 r1 τ1 p1
  refine w_aload F d_L_1265 rfl 2 rfl ?_
  refine w_arg F 1 d_L_1266 d_L_1267 d_L_1268 d_L_1269 d_L_1270 (by decide) (w_in (k := 1) 1 (by decide) F.2.2.2.2 (by omega)) ?_
  refine w_Vi F c2 mo_M_count st_L_182 rc_63 (by decide) rfl (Nat.le_of_ble_eq_true rfl) d_L_1271 (fun r2 τ2 p2 => ?_)
  obtain ⟨e, hR⟩ := k2 r2 τ2 p2
  exact w_eq F 1329 d_L_1274 (by decide) e (kk τ2 hR)
theorem lc_41 {i : Nat} (F : LF X u b L xs) (hi : i + 6 ≤ L) (h : Rel σ) (kk : ∀ ρ, Rel ρ → VL X u Q 1329 (LQ u b (nI i)) [] ρ) : VL X u Q 1279 (LQ u b (nI i)) [] σ := by
  obtain ⟨P, c1, k1⟩ := o_finding X.2.1 F.1.2.2.2.2.2.2.2.1 h
  refine w_aload F d_L_1279 rfl 1 rfl ?_
  refine w_Vi F c1 mo_T_finding st_L_183 rc_0 (by decide) rfl (Nat.le_of_ble_eq_true rfl) d_L_1280 (fun r1 τ1 p1 => ?_)
  obtain ⟨P2, c2, k2⟩ := k1 r1 τ1 p1
  refine w_aload F d_L_1283 rfl 2 rfl ?_
  refine w_Vi F c2 mo_M_finding st_L_186 rc_63 (by decide) rfl (Nat.le_of_ble_eq_true rfl) d_L_1284 (fun r2 τ2 p2 => ?_)
  obtain ⟨e, hR⟩ := k2 r2 τ2 p2
  exact w_eq F 1329 d_L_1287 (by decide) e (kk τ2 hR)
theorem lc_42 {i : Nat} (F : LF X u b L xs) (hi : i + 6 ≤ L) (h : Rel σ) (kk : ∀ ρ, Rel ρ → VL X u Q 1329 (LQ u b (nI i)) [] ρ) : VL X u Q 1292 (LQ u b (nI i)) [] σ := by
  obtain ⟨P, c1, k1⟩ := o_findings X.2.1 F.1.2.2.2.2.2.2.2.1 h (xs (nI i + 1).toNatClampNeg)
  refine w_aload F d_L_1292 rfl 1 rfl ?_
  refine w_arg F 1 d_L_1293 d_L_1294 d_L_1295 d_L_1296 d_L_1297 (by decide) (w_in (k := 1) 1 (by decide) F.2.2.2.2 (by omega)) ?_
  refine w_Vi F c1 mo_T_findings st_L_187 rc_0 (by decide) rfl (Nat.le_of_ble_eq_true rfl) d_L_1298 (fun r1 τ1 p1 => ?_)
  obtain ⟨P2, c2, k2⟩ := k1 r1 τ1 p1
  refine w_aload F d_L_1301 rfl 2 rfl ?_
  refine w_arg F 1 d_L_1302 d_L_1303 d_L_1304 d_L_1305 d_L_1306 (by decide) (w_in (k := 1) 1 (by decide) F.2.2.2.2 (by omega)) ?_
  refine w_Vi F c2 mo_M_findings st_L_190 rc_63 (by decide) rfl (Nat.le_of_ble_eq_true rfl) d_L_1307 (fun r2 τ2 p2 => ?_)
  obtain ⟨e, hR⟩ := k2 r2 τ2 p2
  exact w_eq F 1329 d_L_1310 (by decide) e (kk τ2 hR)
theorem lc_43 {i : Nat} (F : LF X u b L xs) (hi : i + 6 ≤ L) (h : Rel σ) (kk : ∀ ρ, Rel ρ → VL X u Q 1329 (LQ u b (nI i)) [] ρ) : VL X u Q 1315 (LQ u b (nI i)) [] σ := by
  obtain ⟨P, c1, k1⟩ := o_digest X.2.1 F.1.2.2.2.2.2.2.2.1 h
  refine w_aload F d_L_1315 rfl 1 rfl ?_
  refine w_Vl F c1 mo_T_digest st_L_191 rc_0 (by decide) rfl (Nat.le_of_ble_eq_true rfl) d_L_1316 (fun r1 τ1 p1 => ?_)
  obtain ⟨P2, c2, k2⟩ := k1 r1 τ1 p1
  refine w_aload F d_L_1319 rfl 2 rfl ?_
  refine w_Vl F c2 mo_M_digest st_L_194 rc_63 (by decide) rfl (Nat.le_of_ble_eq_true rfl) d_L_1320 (fun r2 τ2 p2 => ?_)
  obtain ⟨e, hR⟩ := k2 r2 τ2 p2
  exact w_leq F 1329 d_L_1323 d_L_1324 (by decide) e (kk τ2 hR)
end
