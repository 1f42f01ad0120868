theorem st_Re_9 : siteSU "TakerBook$Returned" 9 ⟨"TakerBook$Thief", "isOf", "(I)Z"⟩ := ⟨List.mem_of_getElem? (i := 524) (by decide +kernel), List.mem_of_getElem? (i := 509) (by decide +kernel), List.mem_of_getElem? (i := 150) (by decide +kernel), List.mem_of_getElem? (i := 507) (by decide +kernel), by decide⟩
theorem st_Cl_9 : siteSU "TakerBook$Clerk" 9 ⟨"TakerBook$Thief", "isOf", "(I)Z"⟩ := ⟨List.mem_of_getElem? (i := 513) (by decide +kernel), List.mem_of_getElem? (i := 509) (by decide +kernel), List.mem_of_getElem? (i := 157) (by decide +kernel), List.mem_of_getElem? (i := 507) (by decide +kernel), by decide⟩
theorem st_Ga_9 : siteSU "TakerBook$Gang" 9 ⟨"TakerBook$Thief", "isOf", "(I)Z"⟩ := ⟨List.mem_of_getElem? (i := 517) (by decide +kernel), List.mem_of_getElem? (i := 509) (by decide +kernel), List.mem_of_getElem? (i := 164) (by decide +kernel), List.mem_of_getElem? (i := 507) (by decide +kernel), by decide⟩
theorem st_La_9 : siteSU "TakerBook$Lace" 9 ⟨"TakerBook$Returned", "isOf", "(I)Z"⟩ := ⟨List.mem_of_getElem? (i := 521) (by decide +kernel), List.mem_of_getElem? (i := 1487) (by decide +kernel), List.mem_of_getElem? (i := 171) (by decide +kernel), List.mem_of_getElem? (i := 522) (by decide +kernel), by decide⟩
theorem st_Yo_9 : siteSU "TakerBook$Young" 9 ⟨"TakerBook$Gang", "isOf", "(I)Z"⟩ := ⟨List.mem_of_getElem? (i := 529) (by decide +kernel), List.mem_of_getElem? (i := 1488) (by decide +kernel), List.mem_of_getElem? (i := 178) (by decide +kernel), List.mem_of_getElem? (i := 515) (by decide +kernel), by decide⟩
theorem st_Yo_13 : siteSU "TakerBook$Young" 13 ⟨"TakerBook$Gang", "loot", "(II)I"⟩ := ⟨List.mem_of_getElem? (i := 578) (by decide +kernel), List.mem_of_getElem? (i := 1489) (by decide +kernel), List.mem_of_getElem? (i := 178) (by decide +kernel), List.mem_of_getElem? (i := 569) (by decide +kernel), by decide⟩
theorem st_Cl_13 : siteSU "TakerBook$Clerk" 13 ⟨"TakerBook$Thief", "talks", "(IIII)Z"⟩ := ⟨List.mem_of_getElem? (i := 591) (by decide +kernel), List.mem_of_getElem? (i := 587) (by decide +kernel), List.mem_of_getElem? (i := 157) (by decide +kernel), List.mem_of_getElem? (i := 585) (by decide +kernel), by decide⟩
theorem st_Ga_13 : siteSU "TakerBook$Gang" 13 ⟨"TakerBook$Thief", "talks", "(IIII)Z"⟩ := ⟨List.mem_of_getElem? (i := 595) (by decide +kernel), List.mem_of_getElem? (i := 587) (by decide +kernel), List.mem_of_getElem? (i := 164) (by decide +kernel), List.mem_of_getElem? (i := 585) (by decide +kernel), by decide⟩
theorem st_Yo_19 : siteSU "TakerBook$Young" 19 ⟨"TakerBook$Gang", "talks", "(IIII)Z"⟩ := ⟨List.mem_of_getElem? (i := 605) (by decide +kernel), List.mem_of_getElem? (i := 1490) (by decide +kernel), List.mem_of_getElem? (i := 178) (by decide +kernel), List.mem_of_getElem? (i := 593) (by decide +kernel), by decide⟩
theorem st_Cl_17 : siteSU "TakerBook$Clerk" 17 ⟨"TakerBook$Thief", "price", "(II)I"⟩ := ⟨List.mem_of_getElem? (i := 621) (by decide +kernel), List.mem_of_getElem? (i := 617) (by decide +kernel), List.mem_of_getElem? (i := 157) (by decide +kernel), List.mem_of_getElem? (i := 615) (by decide +kernel), by decide⟩
theorem st_T_134_Th : siteU "TakerBook" 134 ⟨"TakerBook$Thief", "isOf", "(I)Z"⟩ ⟨"TakerBook$Thief", "isOf", "(I)Z"⟩ "TakerBook$Thief" := ⟨List.mem_of_getElem? (i := 640) (by decide +kernel), List.mem_of_getElem? (i := 509) (by decide +kernel), List.mem_of_getElem? (i := 507) (by decide +kernel), ⟨prog_11_method_2_code, 2, (Option.some Jvm.ClassFile.FieldType.boolean), List.mem_of_getElem? (i := 530) (by decide +kernel)⟩, List.mem_of_getElem? (i := 508) (by decide +kernel), List.mem_of_getElem? (i := 507) (by decide +kernel), rfl⟩
theorem G21 : Gam[21]? = some (.inr (.inr (6, []))) := rfl
theorem rc_21 : recv 21 "TakerBook$Thief" := ⟨6, _, (R_Th, F_Th, 0), G21, rfl, rfl⟩
theorem st_T_134_Re : siteU "TakerBook" 134 ⟨"TakerBook$Thief", "isOf", "(I)Z"⟩ ⟨"TakerBook$Returned", "isOf", "(I)Z"⟩ "TakerBook$Returned" := ⟨List.mem_of_getElem? (i := 640) (by decide +kernel), List.mem_of_getElem? (i := 509) (by decide +kernel), List.mem_of_getElem? (i := 507) (by decide +kernel), ⟨prog_11_method_2_code, 2, (Option.some Jvm.ClassFile.FieldType.boolean), List.mem_of_getElem? (i := 530) (by decide +kernel)⟩, List.mem_of_getElem? (i := 525) (by decide +kernel), List.mem_of_getElem? (i := 522) (by decide +kernel), rfl⟩
theorem G22 : Gam[22]? = some (.inr (.inr (7, []))) := rfl
theorem rc_22 : recv 22 "TakerBook$Returned" := ⟨7, _, (R_Re, F_Re, 0), G22, rfl, rfl⟩
theorem st_T_134_Cl : siteU "TakerBook" 134 ⟨"TakerBook$Thief", "isOf", "(I)Z"⟩ ⟨"TakerBook$Clerk", "isOf", "(I)Z"⟩ "TakerBook$Clerk" := ⟨List.mem_of_getElem? (i := 640) (by decide +kernel), List.mem_of_getElem? (i := 509) (by decide +kernel), List.mem_of_getElem? (i := 507) (by decide +kernel), ⟨prog_11_method_2_code, 2, (Option.some Jvm.ClassFile.FieldType.boolean), List.mem_of_getElem? (i := 530) (by decide +kernel)⟩, List.mem_of_getElem? (i := 510) (by decide +kernel), List.mem_of_getElem? (i := 511) (by decide +kernel), rfl⟩
theorem G23 : Gam[23]? = some (.inr (.inr (8, []))) := rfl
theorem rc_23 : recv 23 "TakerBook$Clerk" := ⟨8, _, (R_Cl, F_Cl, 0), G23, rfl, rfl⟩
theorem st_T_134_Ga : siteU "TakerBook" 134 ⟨"TakerBook$Thief", "isOf", "(I)Z"⟩ ⟨"TakerBook$Gang", "isOf", "(I)Z"⟩ "TakerBook$Gang" := ⟨List.mem_of_getElem? (i := 640) (by decide +kernel), List.mem_of_getElem? (i := 509) (by decide +kernel), List.mem_of_getElem? (i := 507) (by decide +kernel), ⟨prog_11_method_2_code, 2, (Option.some Jvm.ClassFile.FieldType.boolean), List.mem_of_getElem? (i := 530) (by decide +kernel)⟩, List.mem_of_getElem? (i := 514) (by decide +kernel), List.mem_of_getElem? (i := 515) (by decide +kernel), rfl⟩
theorem G24 : Gam[24]? = some (.inr (.inr (9, []))) := rfl
theorem rc_24 : recv 24 "TakerBook$Gang" := ⟨9, _, (R_Ga, F_Ga, 0), G24, rfl, rfl⟩
theorem st_T_134_La : siteU "TakerBook" 134 ⟨"TakerBook$Thief", "isOf", "(I)Z"⟩ ⟨"TakerBook$Lace", "isOf", "(I)Z"⟩ "TakerBook$Lace" := ⟨List.mem_of_getElem? (i := 640) (by decide +kernel), List.mem_of_getElem? (i := 509) (by decide +kernel), List.mem_of_getElem? (i := 507) (by decide +kernel), ⟨prog_11_method_2_code, 2, (Option.some Jvm.ClassFile.FieldType.boolean), List.mem_of_getElem? (i := 530) (by decide +kernel)⟩, List.mem_of_getElem? (i := 518) (by decide +kernel), List.mem_of_getElem? (i := 519) (by decide +kernel), rfl⟩
theorem G25 : Gam[25]? = some (.inr (.inr (10, []))) := rfl
theorem rc_25 : recv 25 "TakerBook$Lace" := ⟨10, _, (R_La, F_La, 0), G25, rfl, rfl⟩
theorem st_T_134_Yo : siteU "TakerBook" 134 ⟨"TakerBook$Thief", "isOf", "(I)Z"⟩ ⟨"TakerBook$Young", "isOf", "(I)Z"⟩ "TakerBook$Young" := ⟨List.mem_of_getElem? (i := 640) (by decide +kernel), List.mem_of_getElem? (i := 509) (by decide +kernel), List.mem_of_getElem? (i := 507) (by decide +kernel), ⟨prog_11_method_2_code, 2, (Option.some Jvm.ClassFile.FieldType.boolean), List.mem_of_getElem? (i := 530) (by decide +kernel)⟩, List.mem_of_getElem? (i := 526) (by decide +kernel), List.mem_of_getElem? (i := 527) (by decide +kernel), rfl⟩
theorem G26 : Gam[26]? = some (.inr (.inr (11, []))) := rfl
theorem rc_26 : recv 26 "TakerBook$Young" := ⟨11, _, (R_Yo, F_Yo, 0), G26, rfl, rfl⟩
theorem st_T_366_Th : siteU "TakerBook" 366 ⟨"TakerBook$Thief", "talks", "(IIII)Z"⟩ ⟨"TakerBook$Thief", "talks", "(IIII)Z"⟩ "TakerBook$Thief" := ⟨List.mem_of_getElem? (i := 856) (by decide +kernel), List.mem_of_getElem? (i := 587) (by decide +kernel), List.mem_of_getElem? (i := 585) (by decide +kernel), ⟨prog_11_method_4_code, 5, (Option.some Jvm.ClassFile.FieldType.boolean), List.mem_of_getElem? (i := 606) (by decide +kernel)⟩, List.mem_of_getElem? (i := 586) (by decide +kernel), List.mem_of_getElem? (i := 585) (by decide +kernel), rfl⟩
theorem st_T_366_Re : siteU "TakerBook" 366 ⟨"TakerBook$Thief", "talks", "(IIII)Z"⟩ ⟨"TakerBook$Returned", "talks", "(IIII)Z"⟩ "TakerBook$Returned" := ⟨List.mem_of_getElem? (i := 856) (by decide +kernel), List.mem_of_getElem? (i := 587) (by decide +kernel), List.mem_of_getElem? (i := 585) (by decide +kernel), ⟨prog_11_method_4_code, 5, (Option.some Jvm.ClassFile.FieldType.boolean), List.mem_of_getElem? (i := 606) (by decide +kernel)⟩, List.mem_of_getElem? (i := 599) (by decide +kernel), List.mem_of_getElem? (i := 600) (by decide +kernel), rfl⟩
theorem st_T_366_Cl : siteU "TakerBook" 366 ⟨"TakerBook$Thief", "talks", "(IIII)Z"⟩ ⟨"TakerBook$Clerk", "talks", "(IIII)Z"⟩ "TakerBook$Clerk" := ⟨List.mem_of_getElem? (i := 856) (by decide +kernel), List.mem_of_getElem? (i := 587) (by decide +kernel), List.mem_of_getElem? (i := 585) (by decide +kernel), ⟨prog_11_method_4_code, 5, (Option.some Jvm.ClassFile.FieldType.boolean), List.mem_of_getElem? (i := 606) (by decide +kernel)⟩, List.mem_of_getElem? (i := 588) (by decide +kernel), List.mem_of_getElem? (i := 589) (by decide +kernel), rfl⟩
theorem st_T_366_Ga : siteU "TakerBook" 366 ⟨"TakerBook$Thief", "talks", "(IIII)Z"⟩ ⟨"TakerBook$Gang", "talks", "(IIII)Z"⟩ "TakerBook$Gang" := ⟨List.mem_of_getElem? (i := 856) (by decide +kernel), List.mem_of_getElem? (i := 587) (by decide +kernel), List.mem_of_getElem? (i := 585) (by decide +kernel), ⟨prog_11_method_4_code, 5, (Option.some Jvm.ClassFile.FieldType.boolean), List.mem_of_getElem? (i := 606) (by decide +kernel)⟩, List.mem_of_getElem? (i := 592) (by decide +kernel), List.mem_of_getElem? (i := 593) (by decide +kernel), rfl⟩
theorem st_T_366_La : siteU "TakerBook" 366 ⟨"TakerBook$Thief", "talks", "(IIII)Z"⟩ ⟨"TakerBook$Lace", "talks", "(IIII)Z"⟩ "TakerBook$Lace" := ⟨List.mem_of_getElem? (i := 856) (by decide +kernel), List.mem_of_getElem? (i := 587) (by decide +kernel), List.mem_of_getElem? (i := 585) (by decide +kernel), ⟨prog_11_method_4_code, 5, (Option.some Jvm.ClassFile.FieldType.boolean), List.mem_of_getElem? (i := 606) (by decide +kernel)⟩, List.mem_of_getElem? (i := 596) (by decide +kernel), List.mem_of_getElem? (i := 597) (by decide +kernel), rfl⟩
theorem st_T_366_Yo : siteU "TakerBook" 366 ⟨"TakerBook$Thief", "talks", "(IIII)Z"⟩ ⟨"TakerBook$Young", "talks", "(IIII)Z"⟩ "TakerBook$Young" := ⟨List.mem_of_getElem? (i := 856) (by decide +kernel), List.mem_of_getElem? (i := 587) (by decide +kernel), List.mem_of_getElem? (i := 585) (by decide +kernel), ⟨prog_11_method_4_code, 5, (Option.some Jvm.ClassFile.FieldType.boolean), List.mem_of_getElem? (i := 606) (by decide +kernel)⟩, List.mem_of_getElem? (i := 602) (by decide +kernel), List.mem_of_getElem? (i := 603) (by decide +kernel), rfl⟩
theorem st_B_88_Th : siteU "TakerBook$Band" 88 ⟨"TakerBook$Thief", "isOf", "(I)Z"⟩ ⟨"TakerBook$Thief", "isOf", "(I)Z"⟩ "TakerBook$Thief" := ⟨List.mem_of_getElem? (i := 506) (by decide +kernel), List.mem_of_getElem? (i := 509) (by decide +kernel), List.mem_of_getElem? (i := 507) (by decide +kernel), ⟨prog_11_method_2_code, 2, (Option.some Jvm.ClassFile.FieldType.boolean), List.mem_of_getElem? (i := 530) (by decide +kernel)⟩, List.mem_of_getElem? (i := 508) (by decide +kernel), List.mem_of_getElem? (i := 507) (by decide +kernel), rfl⟩
theorem st_B_88_Re : siteU "TakerBook$Band" 88 ⟨"TakerBook$Thief", "isOf", "(I)Z"⟩ ⟨"TakerBook$Returned", "isOf", "(I)Z"⟩ "TakerBook$Returned" := ⟨List.mem_of_getElem? (i := 506) (by decide +kernel), List.mem_of_getElem? (i := 509) (by decide +kernel), List.mem_of_getElem? (i := 507) (by decide +kernel), ⟨prog_11_method_2_code, 2, (Option.some Jvm.ClassFile.FieldType.boolean), List.mem_of_getElem? (i := 530) (by decide +kernel)⟩, List.mem_of_getElem? (i := 525) (by decide +kernel), List.mem_of_getElem? (i := 522) (by decide +kernel), rfl⟩
theorem st_B_88_Cl : siteU "TakerBook$Band" 88 ⟨"TakerBook$Thief", "isOf", "(I)Z"⟩ ⟨"TakerBook$Clerk", "isOf", "(I)Z"⟩ "TakerBook$Clerk" := ⟨List.mem_of_getElem? (i := 506) (by decide +kernel), List.mem_of_getElem? (i := 509) (by decide +kernel), List.mem_of_getElem? (i := 507) (by decide +kernel), ⟨prog_11_method_2_code, 2, (Option.some Jvm.ClassFile.FieldType.boolean), List.mem_of_getElem? (i := 530) (by decide +kernel)⟩, List.mem_of_getElem? (i := 510) (by decide +kernel), List.mem_of_getElem? (i := 511) (by decide +kernel), rfl⟩
theorem st_B_88_Ga : siteU "TakerBook$Band" 88 ⟨"TakerBook$Thief", "isOf", "(I)Z"⟩ ⟨"TakerBook$Gang", "isOf", "(I)Z"⟩ "TakerBook$Gang" := ⟨List.mem_of_getElem? (i := 506) (by decide +kernel), List.mem_of_getElem? (i := 509) (by decide +kernel), List.mem_of_getElem? (i := 507) (by decide +kernel), ⟨prog_11_method_2_code, 2, (Option.some Jvm.ClassFile.FieldType.boolean), List.mem_of_getElem? (i := 530) (by decide +kernel)⟩, List.mem_of_getElem? (i := 514) (by decide +kernel), List.mem_of_getElem? (i := 515) (by decide +kernel), rfl⟩
theorem st_B_88_La : siteU "TakerBook$Band" 88 ⟨"TakerBook$Thief", "isOf", "(I)Z"⟩ ⟨"TakerBook$Lace", "isOf", "(I)Z"⟩ "TakerBook$Lace" := ⟨List.mem_of_getElem? (i := 506) (by decide +kernel), List.mem_of_getElem? (i := 509) (by decide +kernel), List.mem_of_getElem? (i := 507) (by decide +kernel), ⟨prog_11_method_2_code, 2, (Option.some Jvm.ClassFile.FieldType.boolean), List.mem_of_getElem? (i := 530) (by decide +kernel)⟩, List.mem_of_getElem? (i := 518) (by decide +kernel), List.mem_of_getElem? (i := 519) (by decide +kernel), rfl⟩
theorem st_B_88_Yo : siteU "TakerBook$Band" 88 ⟨"TakerBook$Thief", "isOf", "(I)Z"⟩ ⟨"TakerBook$Young", "isOf", "(I)Z"⟩ "TakerBook$Young" := ⟨List.mem_of_getElem? (i := 506) (by decide +kernel), List.mem_of_getElem? (i := 509) (by decide +kernel), List.mem_of_getElem? (i := 507) (by decide +kernel), ⟨prog_11_method_2_code, 2, (Option.some Jvm.ClassFile.FieldType.boolean), List.mem_of_getElem? (i := 530) (by decide +kernel)⟩, List.mem_of_getElem? (i := 526) (by decide +kernel), List.mem_of_getElem? (i := 527) (by decide +kernel), rfl⟩
theorem st_B_125_Th : siteU "TakerBook$Band" 125 ⟨"TakerBook$Thief", "loot", "(II)I"⟩ ⟨"TakerBook$Thief", "loot", "(II)I"⟩ "TakerBook$Thief" := ⟨List.mem_of_getElem? (i := 561) (by decide +kernel), List.mem_of_getElem? (i := 564) (by decide +kernel), List.mem_of_getElem? (i := 562) (by decide +kernel), ⟨prog_11_method_3_code, 3, (Option.some Jvm.ClassFile.FieldType.int), List.mem_of_getElem? (i := 579) (by decide +kernel)⟩, List.mem_of_getElem? (i := 563) (by decide +kernel), List.mem_of_getElem? (i := 562) (by decide +kernel), rfl⟩
theorem st_B_125_Re : siteU "TakerBook$Band" 125 ⟨"TakerBook$Thief", "loot", "(II)I"⟩ ⟨"TakerBook$Returned", "loot", "(II)I"⟩ "TakerBook$Returned" := ⟨List.mem_of_getElem? (i := 561) (by decide +kernel), List.mem_of_getElem? (i := 564) (by decide +kernel), List.mem_of_getElem? (i := 562) (by decide +kernel), ⟨prog_11_method_3_code, 3, (Option.some Jvm.ClassFile.FieldType.int), List.mem_of_getElem? (i := 579) (by decide +kernel)⟩, List.mem_of_getElem? (i := 574) (by decide +kernel), List.mem_of_getElem? (i := 572) (by decide +kernel), rfl⟩
theorem st_B_125_Cl : siteU "TakerBook$Band" 125 ⟨"TakerBook$Thief", "loot", "(II)I"⟩ ⟨"TakerBook$Clerk", "loot", "(II)I"⟩ "TakerBook$Clerk" := ⟨List.mem_of_getElem? (i := 561) (by decide +kernel), List.mem_of_getElem? (i := 564) (by decide +kernel), List.mem_of_getElem? (i := 562) (by decide +kernel), ⟨prog_11_method_3_code, 3, (Option.some Jvm.ClassFile.FieldType.int), List.mem_of_getElem? (i := 579) (by decide +kernel)⟩, List.mem_of_getElem? (i := 565) (by decide +kernel), List.mem_of_getElem? (i := 566) (by decide +kernel), rfl⟩
theorem st_B_125_Ga : siteU "TakerBook$Band" 125 ⟨"TakerBook$Thief", "loot", "(II)I"⟩ ⟨"TakerBook$Gang", "loot", "(II)I"⟩ "TakerBook$Gang" := ⟨List.mem_of_getElem? (i := 561) (by decide +kernel), List.mem_of_getElem? (i := 564) (by decide +kernel), List.mem_of_getElem? (i := 562) (by decide +kernel), ⟨prog_11_method_3_code, 3, (Option.some Jvm.ClassFile.FieldType.int), List.mem_of_getElem? (i := 579) (by decide +kernel)⟩, List.mem_of_getElem? (i := 568) (by decide +kernel), List.mem_of_getElem? (i := 569) (by decide +kernel), rfl⟩
theorem st_B_125_La : siteU "TakerBook$Band" 125 ⟨"TakerBook$Thief", "loot", "(II)I"⟩ ⟨"TakerBook$Returned", "loot", "(II)I"⟩ "TakerBook$Lace" := ⟨List.mem_of_getElem? (i := 561) (by decide +kernel), List.mem_of_getElem? (i := 564) (by decide +kernel), List.mem_of_getElem? (i := 562) (by decide +kernel), ⟨prog_11_method_3_code, 3, (Option.some Jvm.ClassFile.FieldType.int), List.mem_of_getElem? (i := 579) (by decide +kernel)⟩, List.mem_of_getElem? (i := 571) (by decide +kernel), List.mem_of_getElem? (i := 572) (by decide +kernel), rfl⟩
theorem st_B_125_Yo : siteU "TakerBook$Band" 125 ⟨"TakerBook$Thief", "loot", "(II)I"⟩ ⟨"TakerBook$Young", "loot", "(II)I"⟩ "TakerBook$Young" := ⟨List.mem_of_getElem? (i := 561) (by decide +kernel), List.mem_of_getElem? (i := 564) (by decide +kernel), List.mem_of_getElem? (i := 562) (by decide +kernel), ⟨prog_11_method_3_code, 3, (Option.some Jvm.ClassFile.FieldType.int), List.mem_of_getElem? (i := 579) (by decide +kernel)⟩, List.mem_of_getElem? (i := 575) (by decide +kernel), List.mem_of_getElem? (i := 576) (by decide +kernel), rfl⟩
theorem st_B_128_Th : siteU "TakerBook$Band" 128 ⟨"TakerBook$Thief", "price", "(II)I"⟩ ⟨"TakerBook$Thief", "price", "(II)I"⟩ "TakerBook$Thief" := ⟨List.mem_of_getElem? (i := 614) (by decide +kernel), List.mem_of_getElem? (i := 617) (by decide +kernel), List.mem_of_getElem? (i := 615) (by decide +kernel), ⟨prog_11_method_5_code, 3, (Option.some Jvm.ClassFile.FieldType.int), List.mem_of_getElem? (i := 634) (by decide +kernel)⟩, List.mem_of_getElem? (i := 616) (by decide +kernel), List.mem_of_getElem? (i := 615) (by decide +kernel), rfl⟩
theorem st_B_128_Re : siteU "TakerBook$Band" 128 ⟨"TakerBook$Thief", "price", "(II)I"⟩ ⟨"TakerBook$Thief", "price", "(II)I"⟩ "TakerBook$Returned" := ⟨List.mem_of_getElem? (i := 614) (by decide +kernel), List.mem_of_getElem? (i := 617) (by decide +kernel), List.mem_of_getElem? (i := 615) (by decide +kernel), ⟨prog_11_method_5_code, 3, (Option.some Jvm.ClassFile.FieldType.int), List.mem_of_getElem? (i := 634) (by decide +kernel)⟩, List.mem_of_getElem? (i := 624) (by decide +kernel), List.mem_of_getElem? (i := 615) (by decide +kernel), rfl⟩
theorem st_B_128_Cl : siteU "TakerBook$Band" 128 ⟨"TakerBook$Thief", "price", "(II)I"⟩ ⟨"TakerBook$Clerk", "price", "(II)I"⟩ "TakerBook$Clerk" := ⟨List.mem_of_getElem? (i := 614) (by decide +kernel), List.mem_of_getElem? (i := 617) (by decide +kernel), List.mem_of_getElem? (i := 615) (by decide +kernel), ⟨prog_11_method_5_code, 3, (Option.some Jvm.ClassFile.FieldType.int), List.mem_of_getElem? (i := 634) (by decide +kernel)⟩, List.mem_of_getElem? (i := 618) (by decide +kernel), List.mem_of_getElem? (i := 619) (by decide +kernel), rfl⟩
theorem st_B_128_Ga : siteU "TakerBook$Band" 128 ⟨"TakerBook$Thief", "price", "(II)I"⟩ ⟨"TakerBook$Thief", "price", "(II)I"⟩ "TakerBook$Gang" := ⟨List.mem_of_getElem? (i := 614) (by decide +kernel), List.mem_of_getElem? (i := 617) (by decide +kernel), List.mem_of_getElem? (i := 615) (by decide +kernel), ⟨prog_11_method_5_code, 3, (Option.some Jvm.ClassFile.FieldType.int), List.mem_of_getElem? (i := 634) (by decide +kernel)⟩, List.mem_of_getElem? (i := 622) (by decide +kernel), List.mem_of_getElem? (i := 615) (by decide +kernel), rfl⟩
theorem st_B_128_La : siteU "TakerBook$Band" 128 ⟨"TakerBook$Thief", "price", "(II)I"⟩ ⟨"TakerBook$Thief", "price", "(II)I"⟩ "TakerBook$Lace" := ⟨List.mem_of_getElem? (i := 614) (by decide +kernel), List.mem_of_getElem? (i := 617) (by decide +kernel), List.mem_of_getElem? (i := 615) (by decide +kernel), ⟨prog_11_method_5_code, 3, (Option.some Jvm.ClassFile.FieldType.int), List.mem_of_getElem? (i := 634) (by decide +kernel)⟩, List.mem_of_getElem? (i := 623) (by decide +kernel), List.mem_of_getElem? (i := 615) (by decide +kernel), rfl⟩
theorem st_B_128_Yo : siteU "TakerBook$Band" 128 ⟨"TakerBook$Thief", "price", "(II)I"⟩ ⟨"TakerBook$Young", "price", "(II)I"⟩ "TakerBook$Young" := ⟨List.mem_of_getElem? (i := 614) (by decide +kernel), List.mem_of_getElem? (i := 617) (by decide +kernel), List.mem_of_getElem? (i := 615) (by decide +kernel), ⟨prog_11_method_5_code, 3, (Option.some Jvm.ClassFile.FieldType.int), List.mem_of_getElem? (i := 634) (by decide +kernel)⟩, List.mem_of_getElem? (i := 625) (by decide +kernel), List.mem_of_getElem? (i := 626) (by decide +kernel), rfl⟩
theorem st_B_131_Th : siteU "TakerBook$Band" 131 ⟨"TakerBook$Thief", "talks", "(IIII)Z"⟩ ⟨"TakerBook$Thief", "talks", "(IIII)Z"⟩ "TakerBook$Thief" := ⟨List.mem_of_getElem? (i := 584) (by decide +kernel), List.mem_of_getElem? (i := 587) (by decide +kernel), List.mem_of_getElem? (i := 585) (by decide +kernel), ⟨prog_11_method_4_code, 5, (Option.some Jvm.ClassFile.FieldType.boolean), List.mem_of_getElem? (i := 606) (by decide +kernel)⟩, List.mem_of_getElem? (i := 586) (by decide +kernel), List.mem_of_getElem? (i := 585) (by decide +kernel), rfl⟩
theorem st_B_131_Re : siteU "TakerBook$Band" 131 ⟨"TakerBook$Thief", "talks", "(IIII)Z"⟩ ⟨"TakerBook$Returned", "talks", "(IIII)Z"⟩ "TakerBook$Returned" := ⟨List.mem_of_getElem? (i := 584) (by decide +kernel), List.mem_of_getElem? (i := 587) (by decide +kernel), List.mem_of_getElem? (i := 585) (by decide +kernel), ⟨prog_11_method_4_code, 5, (Option.some Jvm.ClassFile.FieldType.boolean), List.mem_of_getElem? (i := 606) (by decide +kernel)⟩, List.mem_of_getElem? (i := 599) (by decide +kernel), List.mem_of_getElem? (i := 600) (by decide +kernel), rfl⟩
theorem st_B_131_Cl : siteU "TakerBook$Band" 131 ⟨"TakerBook$Thief", "talks", "(IIII)Z"⟩ ⟨"TakerBook$Clerk", "talks", "(IIII)Z"⟩ "TakerBook$Clerk" := ⟨List.mem_of_getElem? (i := 584) (by decide +kernel), List.mem_of_getElem? (i := 587) (by decide +kernel), List.mem_of_getElem? (i := 585) (by decide +kernel), ⟨prog_11_method_4_code, 5, (Option.some Jvm.ClassFile.FieldType.boolean), List.mem_of_getElem? (i := 606) (by decide +kernel)⟩, List.mem_of_getElem? (i := 588) (by decide +kernel), List.mem_of_getElem? (i := 589) (by decide +kernel), rfl⟩
theorem st_B_131_Ga : siteU "TakerBook$Band" 131 ⟨"TakerBook$Thief", "talks", "(IIII)Z"⟩ ⟨"TakerBook$Gang", "talks", "(IIII)Z"⟩ "TakerBook$Gang" := ⟨List.mem_of_getElem? (i := 584) (by decide +kernel), List.mem_of_getElem? (i := 587) (by decide +kernel), List.mem_of_getElem? (i := 585) (by decide +kernel), ⟨prog_11_method_4_code, 5, (Option.some Jvm.ClassFile.FieldType.boolean), List.mem_of_getElem? (i := 606) (by decide +kernel)⟩, List.mem_of_getElem? (i := 592) (by decide +kernel), List.mem_of_getElem? (i := 593) (by decide +kernel), rfl⟩
theorem st_B_131_La : siteU "TakerBook$Band" 131 ⟨"TakerBook$Thief", "talks", "(IIII)Z"⟩ ⟨"TakerBook$Lace", "talks", "(IIII)Z"⟩ "TakerBook$Lace" := ⟨List.mem_of_getElem? (i := 584) (by decide +kernel), List.mem_of_getElem? (i := 587) (by decide +kernel), List.mem_of_getElem? (i := 585) (by decide +kernel), ⟨prog_11_method_4_code, 5, (Option.some Jvm.ClassFile.FieldType.boolean), List.mem_of_getElem? (i := 606) (by decide +kernel)⟩, List.mem_of_getElem? (i := 596) (by decide +kernel), List.mem_of_getElem? (i := 597) (by decide +kernel), rfl⟩
theorem st_B_131_Yo : siteU "TakerBook$Band" 131 ⟨"TakerBook$Thief", "talks", "(IIII)Z"⟩ ⟨"TakerBook$Young", "talks", "(IIII)Z"⟩ "TakerBook$Young" := ⟨List.mem_of_getElem? (i := 584) (by decide +kernel), List.mem_of_getElem? (i := 587) (by decide +kernel), List.mem_of_getElem? (i := 585) (by decide +kernel), ⟨prog_11_method_4_code, 5, (Option.some Jvm.ClassFile.FieldType.boolean), List.mem_of_getElem? (i := 606) (by decide +kernel)⟩, List.mem_of_getElem? (i := 602) (by decide +kernel), List.mem_of_getElem? (i := 603) (by decide +kernel), rfl⟩
abbrev b_Th_isOf : ByteArray := prog_11_method_2_code
abbrev y_Th_isOf : MethodName := ⟨"TakerBook$Thief", "isOf", "(I)Z"⟩
theorem d_Th_isOf_0 : decode b_Th_isOf 0 = .ok (.iload_n 1, 1) := by decide +kernel
theorem d_Th_isOf_1 : decode b_Th_isOf 1 = .ok (.ifCond .ne 7, 3) := by decide +kernel
theorem d_Th_isOf_4 : decode b_Th_isOf 4 = .ok (.iconst 1, 1) := by decide +kernel
theorem d_Th_isOf_5 : decode b_Th_isOf 5 = .ok (.goto 4, 3) := by decide +kernel
theorem d_Th_isOf_8 : decode b_Th_isOf 8 = .ok (.iconst 0, 1) := by decide +kernel
theorem d_Th_isOf_9 : decode b_Th_isOf 9 = .ok (.ireturn, 1) := by decide +kernel
theorem mo_Th_isOf : mok y_Th_isOf b_Th_isOf 2 (some .boolean) 1 := ⟨List.mem_of_getElem? (i := 530) (by decide +kernel), ⟨by decide +kernel, by decide +kernel, by decide +kernel⟩, List.mem_of_getElem? (i := 77) (by decide +kernel), by decide⟩
set_option maxHeartbeats 4000000 in
theorem c_Th_isOf (l : Launch) (u : Un) (hA : Ap u) (σ : St) (k0 : Nat) (C : String) (hrc : recv k0 C) (w : Int32) : MTi l u y_Th_isOf b_Th_isOf 2 .boolean 0 [.ref (u.2.1 k0), .int w] σ (fun ans σ' => bI (ofB 0 w = true) = ans ∧ σ = σ') := by
  refine MT_of hA rfl (by decide) (Nat.le_of_ble_eq_true rfl) (fun X hl F hr => ?_)
  subst hl
  refine v_to (ls' := [(0, .ref (u.2.1 k0)), (1, .int w)]) rfl ?_
  refine v_iload_n F d_Th_isOf_0 rfl 1 rfl ?_
  refine v_if_ne F 8 d_Th_isOf_1 rfl (fun h1 => ?_) (fun h1 => ?_)
  · skip
    refine v_iconst (v := 0) F d_Th_isOf_8 ki_0 ?_
    refine v_iret F hr rfl d_Th_isOf_9 ?_
    exact ⟨(bI_f (by first | (simp_all [ofB]; done) | grind [ofB])), rfl⟩
  · skip
    refine v_iconst (v := 1) F d_Th_isOf_4 ki_1 ?_
    refine v_goto F 9 d_Th_isOf_5 rfl ?_
    refine v_iret F hr rfl d_Th_isOf_9 ?_
    exact ⟨(bI_t (by first | (simp_all [ofB]; done) | grind [ofB])), rfl⟩
abbrev b_Re_isOf : ByteArray := prog_10_method_2_code
abbrev y_Re_isOf : MethodName := ⟨"TakerBook$Returned", "isOf", "(I)Z"⟩
theorem d_Re_isOf_0 : decode b_Re_isOf 0 = .ok (.iload_n 1, 1) := by decide +kernel
theorem d_Re_isOf_1 : decode b_Re_isOf 1 = .ok (.iconst 1, 1) := by decide +kernel
theorem d_Re_isOf_2 : decode b_Re_isOf 2 = .ok (.if_icmp .eq 11, 3) := by decide +kernel
theorem d_Re_isOf_5 : decode b_Re_isOf 5 = .ok (.aload_n 0, 1) := by decide +kernel
theorem d_Re_isOf_6 : decode b_Re_isOf 6 = .ok (.iload_n 1, 1) := by decide +kernel
theorem d_Re_isOf_7 : decode b_Re_isOf 7 = .ok (.invokespecial 9, 3) := by decide +kernel
theorem d_Re_isOf_10 : decode b_Re_isOf 10 = .ok (.ifCond .eq 7, 3) := by decide +kernel
theorem d_Re_isOf_13 : decode b_Re_isOf 13 = .ok (.iconst 1, 1) := by decide +kernel
theorem d_Re_isOf_14 : decode b_Re_isOf 14 = .ok (.goto 4, 3) := by decide +kernel
theorem d_Re_isOf_17 : decode b_Re_isOf 17 = .ok (.iconst 0, 1) := by decide +kernel
theorem d_Re_isOf_18 : decode b_Re_isOf 18 = .ok (.ireturn, 1) := by decide +kernel
theorem mo_Re_isOf : mok y_Re_isOf b_Re_isOf 2 (some .boolean) 1 := ⟨List.mem_of_getElem? (i := 523) (by decide +kernel), ⟨by decide +kernel, by decide +kernel, by decide +kernel⟩, List.mem_of_getElem? (i := 78) (by decide +kernel), by decide⟩
set_option maxHeartbeats 4000000 in
theorem c_Re_isOf (l : Launch) (u : Un) (hA : Ap u) (σ : St) (k0 : Nat) (C : String) (hrc : recv k0 C) (w : Int32) : MTi l u y_Re_isOf b_Re_isOf 2 .boolean 1 [.ref (u.2.1 k0), .int w] σ (fun ans σ' => bI (ofB 1 w = true) = ans ∧ σ = σ') := by
  refine MT_of hA rfl (by decide) (Nat.le_of_ble_eq_true rfl) (fun X hl F hr => ?_)
  subst hl
  refine v_to (ls' := [(0, .ref (u.2.1 k0)), (1, .int w)]) rfl ?_
  refine v_iload_n F d_Re_isOf_0 rfl 1 rfl ?_
  refine v_iconst (v := 1) F d_Re_isOf_1 ki_1 ?_
  refine v_icmp_eq F 13 d_Re_isOf_2 rfl (fun h2 => ?_) (fun h2 => ?_)
  · skip
    refine v_iconst (v := 1) F d_Re_isOf_13 ki_1 ?_
    refine v_goto F 18 d_Re_isOf_14 rfl ?_
    refine v_iret F hr rfl d_Re_isOf_18 ?_
    exact ⟨(bI_t (by first | (simp_all [ofB]; done) | grind [ofB])), rfl⟩
  · skip
    refine v_aload_n F d_Re_isOf_5 rfl 0 rfl ?_
    refine v_iload_n F d_Re_isOf_6 rfl 1 rfl ?_
    refine v_runi (r_SU F (C := C) (c_Th_isOf X.2.1 u hA σ k0 C hrc w) mo_Th_isOf st_Re_9 hrc (by decide) rfl (Nat.le_of_ble_eq_true rfl) d_Re_isOf_7) (fun r1 σ2 q3 => ?_)
    obtain ⟨rfl, rfl⟩ := q3
    refine v_bt F 17 d_Re_isOf_10 rfl (fun h10 => ?_) (fun h10 => ?_)
    · skip
      refine v_iconst (v := 0) F d_Re_isOf_17 ki_0 ?_
      refine v_iret F hr rfl d_Re_isOf_18 ?_
      exact ⟨(bI_f (by first | (simp_all [ofB]; done) | grind [ofB])), rfl⟩
    · skip
      refine v_iconst (v := 1) F d_Re_isOf_13 ki_1 ?_
      refine v_goto F 18 d_Re_isOf_14 rfl ?_
      refine v_iret F hr rfl d_Re_isOf_18 ?_
      exact ⟨(bI_t (by first | (simp_all [ofB]; done) | grind [ofB])), rfl⟩
abbrev b_Cl_isOf : ByteArray := prog_3_method_2_code
abbrev y_Cl_isOf : MethodName := ⟨"TakerBook$Clerk", "isOf", "(I)Z"⟩
theorem d_Cl_isOf_0 : decode b_Cl_isOf 0 = .ok (.iload_n 1, 1) := by decide +kernel
theorem d_Cl_isOf_1 : decode b_Cl_isOf 1 = .ok (.iconst 2, 1) := by decide +kernel
theorem d_Cl_isOf_2 : decode b_Cl_isOf 2 = .ok (.if_icmp .eq 11, 3) := by decide +kernel
theorem d_Cl_isOf_5 : decode b_Cl_isOf 5 = .ok (.aload_n 0, 1) := by decide +kernel
theorem d_Cl_isOf_6 : decode b_Cl_isOf 6 = .ok (.iload_n 1, 1) := by decide +kernel
theorem d_Cl_isOf_7 : decode b_Cl_isOf 7 = .ok (.invokespecial 9, 3) := by decide +kernel
theorem d_Cl_isOf_10 : decode b_Cl_isOf 10 = .ok (.ifCond .eq 7, 3) := by decide +kernel
theorem d_Cl_isOf_13 : decode b_Cl_isOf 13 = .ok (.iconst 1, 1) := by decide +kernel
theorem d_Cl_isOf_14 : decode b_Cl_isOf 14 = .ok (.goto 4, 3) := by decide +kernel
theorem d_Cl_isOf_17 : decode b_Cl_isOf 17 = .ok (.iconst 0, 1) := by decide +kernel
theorem d_Cl_isOf_18 : decode b_Cl_isOf 18 = .ok (.ireturn, 1) := by decide +kernel
theorem mo_Cl_isOf : mok y_Cl_isOf b_Cl_isOf 2 (some .boolean) 1 := ⟨List.mem_of_getElem? (i := 512) (by decide +kernel), ⟨by decide +kernel, by decide +kernel, by decide +kernel⟩, List.mem_of_getElem? (i := 79) (by decide +kernel), by decide⟩
set_option maxHeartbeats 4000000 in
theorem c_Cl_isOf (l : Launch) (u : Un) (hA : Ap u) (σ : St) (k0 : Nat) (C : String) (hrc : recv k0 C) (w : Int32) : MTi l u y_Cl_isOf b_Cl_isOf 2 .boolean 1 [.ref (u.2.1 k0), .int w] σ (fun ans σ' => bI (ofB 2 w = true) = ans ∧ σ = σ') := by
  refine MT_of hA rfl (by decide) (Nat.le_of_ble_eq_true rfl) (fun X hl F hr => ?_)
  subst hl
  refine v_to (ls' := [(0, .ref (u.2.1 k0)), (1, .int w)]) rfl ?_
  refine v_iload_n F d_Cl_isOf_0 rfl 1 rfl ?_
  refine v_iconst (v := 2) F d_Cl_isOf_1 ki_2 ?_
  refine v_icmp_eq F 13 d_Cl_isOf_2 rfl (fun h2 => ?_) (fun h2 => ?_)
  · skip
    refine v_iconst (v := 1) F d_Cl_isOf_13 ki_1 ?_
    refine v_goto F 18 d_Cl_isOf_14 rfl ?_
    refine v_iret F hr rfl d_Cl_isOf_18 ?_
    exact ⟨(bI_t (by first | (simp_all [ofB]; done) | grind [ofB])), rfl⟩
  · skip
    refine v_aload_n F d_Cl_isOf_5 rfl 0 rfl ?_
    refine v_iload_n F d_Cl_isOf_6 rfl 1 rfl ?_
    refine v_runi (r_SU F (C := C) (c_Th_isOf X.2.1 u hA σ k0 C hrc w) mo_Th_isOf st_Cl_9 hrc (by decide) rfl (Nat.le_of_ble_eq_true rfl) d_Cl_isOf_7) (fun r1 σ2 q3 => ?_)
    obtain ⟨rfl, rfl⟩ := q3
    refine v_bt F 17 d_Cl_isOf_10 rfl (fun h10 => ?_) (fun h10 => ?_)
    · skip
      refine v_iconst (v := 0) F d_Cl_isOf_17 ki_0 ?_
      refine v_iret F hr rfl d_Cl_isOf_18 ?_
      exact ⟨(bI_f (by first | (simp_all [ofB]; done) | grind [ofB])), rfl⟩
    · skip
      refine v_iconst (v := 1) F d_Cl_isOf_13 ki_1 ?_
      refine v_goto F 18 d_Cl_isOf_14 rfl ?_
      refine v_iret F hr rfl d_Cl_isOf_18 ?_
      exact ⟨(bI_t (by first | (simp_all [ofB]; done) | grind [ofB])), rfl⟩
abbrev b_Ga_isOf : ByteArray := prog_5_method_2_code
abbrev y_Ga_isOf : MethodName := ⟨"TakerBook$Gang", "isOf", "(I)Z"⟩
theorem d_Ga_isOf_0 : decode b_Ga_isOf 0 = .ok (.iload_n 1, 1) := by decide +kernel
theorem d_Ga_isOf_1 : decode b_Ga_isOf 1 = .ok (.iconst 3, 1) := by decide +kernel
theorem d_Ga_isOf_2 : decode b_Ga_isOf 2 = .ok (.if_icmp .eq 11, 3) := by decide +kernel
theorem d_Ga_isOf_5 : decode b_Ga_isOf 5 = .ok (.aload_n 0, 1) := by decide +kernel
theorem d_Ga_isOf_6 : decode b_Ga_isOf 6 = .ok (.iload_n 1, 1) := by decide +kernel
theorem d_Ga_isOf_7 : decode b_Ga_isOf 7 = .ok (.invokespecial 9, 3) := by decide +kernel
theorem d_Ga_isOf_10 : decode b_Ga_isOf 10 = .ok (.ifCond .eq 7, 3) := by decide +kernel
theorem d_Ga_isOf_13 : decode b_Ga_isOf 13 = .ok (.iconst 1, 1) := by decide +kernel
theorem d_Ga_isOf_14 : decode b_Ga_isOf 14 = .ok (.goto 4, 3) := by decide +kernel
theorem d_Ga_isOf_17 : decode b_Ga_isOf 17 = .ok (.iconst 0, 1) := by decide +kernel
theorem d_Ga_isOf_18 : decode b_Ga_isOf 18 = .ok (.ireturn, 1) := by decide +kernel
theorem mo_Ga_isOf : mok y_Ga_isOf b_Ga_isOf 2 (some .boolean) 1 := ⟨List.mem_of_getElem? (i := 516) (by decide +kernel), ⟨by decide +kernel, by decide +kernel, by decide +kernel⟩, List.mem_of_getElem? (i := 80) (by decide +kernel), by decide⟩
set_option maxHeartbeats 4000000 in
theorem c_Ga_isOf (l : Launch) (u : Un) (hA : Ap u) (σ : St) (k0 : Nat) (C : String) (hrc : recv k0 C) (w : Int32) : MTi l u y_Ga_isOf b_Ga_isOf 2 .boolean 1 [.ref (u.2.1 k0), .int w] σ (fun ans σ' => bI (ofB 3 w = true) = ans ∧ σ = σ') := by
  refine MT_of hA rfl (by decide) (Nat.le_of_ble_eq_true rfl) (fun X hl F hr => ?_)
  subst hl
  refine v_to (ls' := [(0, .ref (u.2.1 k0)), (1, .int w)]) rfl ?_
  refine v_iload_n F d_Ga_isOf_0 rfl 1 rfl ?_
  refine v_iconst (v := 3) F d_Ga_isOf_1 ki_3 ?_
  refine v_icmp_eq F 13 d_Ga_isOf_2 rfl (fun h2 => ?_) (fun h2 => ?_)
  · skip
    refine v_iconst (v := 1) F d_Ga_isOf_13 ki_1 ?_
    refine v_goto F 18 d_Ga_isOf_14 rfl ?_
    refine v_iret F hr rfl d_Ga_isOf_18 ?_
    exact ⟨(bI_t (by first | (simp_all [ofB]; done) | grind [ofB])), rfl⟩
  · skip
    refine v_aload_n F d_Ga_isOf_5 rfl 0 rfl ?_
    refine v_iload_n F d_Ga_isOf_6 rfl 1 rfl ?_
    refine v_runi (r_SU F (C := C) (c_Th_isOf X.2.1 u hA σ k0 C hrc w) mo_Th_isOf st_Ga_9 hrc (by decide) rfl (Nat.le_of_ble_eq_true rfl) d_Ga_isOf_7) (fun r1 σ2 q3 => ?_)
    obtain ⟨rfl, rfl⟩ := q3
    refine v_bt F 17 d_Ga_isOf_10 rfl (fun h10 => ?_) (fun h10 => ?_)
    · skip
      refine v_iconst (v := 0) F d_Ga_isOf_17 ki_0 ?_
      refine v_iret F hr rfl d_Ga_isOf_18 ?_
      exact ⟨(bI_f (by first | (simp_all [ofB]; done) | grind [ofB])), rfl⟩
    · skip
      refine v_iconst (v := 1) F d_Ga_isOf_13 ki_1 ?_
      refine v_goto F 18 d_Ga_isOf_14 rfl ?_
      refine v_iret F hr rfl d_Ga_isOf_18 ?_
      exact ⟨(bI_t (by first | (simp_all [ofB]; done) | grind [ofB])), rfl⟩
abbrev b_La_isOf : ByteArray := prog_6_method_2_code
abbrev y_La_isOf : MethodName := ⟨"TakerBook$Lace", "isOf", "(I)Z"⟩
theorem d_La_isOf_0 : decode b_La_isOf 0 = .ok (.iload_n 1, 1) := by decide +kernel
theorem d_La_isOf_1 : decode b_La_isOf 1 = .ok (.iconst 4, 1) := by decide +kernel
theorem d_La_isOf_2 : decode b_La_isOf 2 = .ok (.if_icmp .eq 11, 3) := by decide +kernel
theorem d_La_isOf_5 : decode b_La_isOf 5 = .ok (.aload_n 0, 1) := by decide +kernel
theorem d_La_isOf_6 : decode b_La_isOf 6 = .ok (.iload_n 1, 1) := by decide +kernel
theorem d_La_isOf_7 : decode b_La_isOf 7 = .ok (.invokespecial 9, 3) := by decide +kernel
theorem d_La_isOf_10 : decode b_La_isOf 10 = .ok (.ifCond .eq 7, 3) := by decide +kernel
theorem d_La_isOf_13 : decode b_La_isOf 13 = .ok (.iconst 1, 1) := by decide +kernel
theorem d_La_isOf_14 : decode b_La_isOf 14 = .ok (.goto 4, 3) := by decide +kernel
theorem d_La_isOf_17 : decode b_La_isOf 17 = .ok (.iconst 0, 1) := by decide +kernel
theorem d_La_isOf_18 : decode b_La_isOf 18 = .ok (.ireturn, 1) := by decide +kernel
theorem mo_La_isOf : mok y_La_isOf b_La_isOf 2 (some .boolean) 1 := ⟨List.mem_of_getElem? (i := 520) (by decide +kernel), ⟨by decide +kernel, by decide +kernel, by decide +kernel⟩, List.mem_of_getElem? (i := 81) (by decide +kernel), by decide⟩
set_option maxHeartbeats 4000000 in
theorem c_La_isOf (l : Launch) (u : Un) (hA : Ap u) (σ : St) (k0 : Nat) (C : String) (hrc : recv k0 C) (w : Int32) : MTi l u y_La_isOf b_La_isOf 2 .boolean 2 [.ref (u.2.1 k0), .int w] σ (fun ans σ' => bI (ofB 4 w = true) = ans ∧ σ = σ') := by
  refine MT_of hA rfl (by decide) (Nat.le_of_ble_eq_true rfl) (fun X hl F hr => ?_)
  subst hl
  refine v_to (ls' := [(0, .ref (u.2.1 k0)), (1, .int w)]) rfl ?_
  refine v_iload_n F d_La_isOf_0 rfl 1 rfl ?_
  refine v_iconst (v := 4) F d_La_isOf_1 ki_4 ?_
  refine v_icmp_eq F 13 d_La_isOf_2 rfl (fun h2 => ?_) (fun h2 => ?_)
  · skip
    refine v_iconst (v := 1) F d_La_isOf_13 ki_1 ?_
    refine v_goto F 18 d_La_isOf_14 rfl ?_
    refine v_iret F hr rfl d_La_isOf_18 ?_
    exact ⟨(bI_t (by first | (simp_all [ofB]; done) | grind [ofB])), rfl⟩
  · skip
    refine v_aload_n F d_La_isOf_5 rfl 0 rfl ?_
    refine v_iload_n F d_La_isOf_6 rfl 1 rfl ?_
    refine v_runi (r_SU F (C := C) (c_Re_isOf X.2.1 u hA σ k0 C hrc w) mo_Re_isOf st_La_9 hrc (by decide) rfl (Nat.le_of_ble_eq_true rfl) d_La_isOf_7) (fun r1 σ2 q3 => ?_)
    obtain ⟨rfl, rfl⟩ := q3
    refine v_bt F 17 d_La_isOf_10 rfl (fun h10 => ?_) (fun h10 => ?_)
    · skip
      refine v_iconst (v := 0) F d_La_isOf_17 ki_0 ?_
      refine v_iret F hr rfl d_La_isOf_18 ?_
      exact ⟨(bI_f (by first | (simp_all [ofB]; done) | grind [ofB])), rfl⟩
    · skip
      refine v_iconst (v := 1) F d_La_isOf_13 ki_1 ?_
      refine v_goto F 18 d_La_isOf_14 rfl ?_
      refine v_iret F hr rfl d_La_isOf_18 ?_
      exact ⟨(bI_t (by first | (simp_all [ofB]; done) | grind [ofB])), rfl⟩
abbrev b_Yo_isOf : ByteArray := prog_12_method_2_code
abbrev y_Yo_isOf : MethodName := ⟨"TakerBook$Young", "isOf", "(I)Z"⟩
theorem d_Yo_isOf_0 : decode b_Yo_isOf 0 = .ok (.iload_n 1, 1) := by decide +kernel
theorem d_Yo_isOf_1 : decode b_Yo_isOf 1 = .ok (.iconst 5, 1) := by decide +kernel
theorem d_Yo_isOf_2 : decode b_Yo_isOf 2 = .ok (.if_icmp .eq 11, 3) := by decide +kernel
theorem d_Yo_isOf_5 : decode b_Yo_isOf 5 = .ok (.aload_n 0, 1) := by decide +kernel
theorem d_Yo_isOf_6 : decode b_Yo_isOf 6 = .ok (.iload_n 1, 1) := by decide +kernel
theorem d_Yo_isOf_7 : decode b_Yo_isOf 7 = .ok (.invokespecial 9, 3) := by decide +kernel
theorem d_Yo_isOf_10 : decode b_Yo_isOf 10 = .ok (.ifCond .eq 7, 3) := by decide +kernel
theorem d_Yo_isOf_13 : decode b_Yo_isOf 13 = .ok (.iconst 1, 1) := by decide +kernel
theorem d_Yo_isOf_14 : decode b_Yo_isOf 14 = .ok (.goto 4, 3) := by decide +kernel
theorem d_Yo_isOf_17 : decode b_Yo_isOf 17 = .ok (.iconst 0, 1) := by decide +kernel
theorem d_Yo_isOf_18 : decode b_Yo_isOf 18 = .ok (.ireturn, 1) := by decide +kernel
theorem mo_Yo_isOf : mok y_Yo_isOf b_Yo_isOf 2 (some .boolean) 1 := ⟨List.mem_of_getElem? (i := 528) (by decide +kernel), ⟨by decide +kernel, by decide +kernel, by decide +kernel⟩, List.mem_of_getElem? (i := 82) (by decide +kernel), by decide⟩
set_option maxHeartbeats 4000000 in
theorem c_Yo_isOf (l : Launch) (u : Un) (hA : Ap u) (σ : St) (k0 : Nat) (C : String) (hrc : recv k0 C) (w : Int32) : MTi l u y_Yo_isOf b_Yo_isOf 2 .boolean 2 [.ref (u.2.1 k0), .int w] σ (fun ans σ' => bI (ofB 5 w = true) = ans ∧ σ = σ') := by
  refine MT_of hA rfl (by decide) (Nat.le_of_ble_eq_true rfl) (fun X hl F hr => ?_)
  subst hl
  refine v_to (ls' := [(0, .ref (u.2.1 k0)), (1, .int w)]) rfl ?_
  refine v_iload_n F d_Yo_isOf_0 rfl 1 rfl ?_
  refine v_iconst (v := 5) F d_Yo_isOf_1 ki_5 ?_
  refine v_icmp_eq F 13 d_Yo_isOf_2 rfl (fun h2 => ?_) (fun h2 => ?_)
  · skip
    refine v_iconst (v := 1) F d_Yo_isOf_13 ki_1 ?_
    refine v_goto F 18 d_Yo_isOf_14 rfl ?_
    refine v_iret F hr rfl d_Yo_isOf_18 ?_
    exact ⟨(bI_t (by first | (simp_all [ofB]; done) | grind [ofB])), rfl⟩
  · skip
    refine v_aload_n F d_Yo_isOf_5 rfl 0 rfl ?_
    refine v_iload_n F d_Yo_isOf_6 rfl 1 rfl ?_
    refine v_runi (r_SU F (C := C) (c_Ga_isOf X.2.1 u hA σ k0 C hrc w) mo_Ga_isOf st_Yo_9 hrc (by decide) rfl (Nat.le_of_ble_eq_true rfl) d_Yo_isOf_7) (fun r1 σ2 q3 => ?_)
    obtain ⟨rfl, rfl⟩ := q3
    refine v_bt F 17 d_Yo_isOf_10 rfl (fun h10 => ?_) (fun h10 => ?_)
    · skip
      refine v_iconst (v := 0) F d_Yo_isOf_17 ki_0 ?_
      refine v_iret F hr rfl d_Yo_isOf_18 ?_
      exact ⟨(bI_f (by first | (simp_all [ofB]; done) | grind [ofB])), rfl⟩
    · skip
      refine v_iconst (v := 1) F d_Yo_isOf_13 ki_1 ?_
      refine v_goto F 18 d_Yo_isOf_14 rfl ?_
      refine v_iret F hr rfl d_Yo_isOf_18 ?_
      exact ⟨(bI_t (by first | (simp_all [ofB]; done) | grind [ofB])), rfl⟩
abbrev b_Th_loot : ByteArray := prog_11_method_3_code
abbrev y_Th_loot : MethodName := ⟨"TakerBook$Thief", "loot", "(II)I"⟩
theorem d_Th_loot_0 : decode b_Th_loot 0 = .ok (.iload_n 1, 1) := by decide +kernel
theorem d_Th_loot_1 : decode b_Th_loot 1 = .ok (.ireturn, 1) := by decide +kernel
theorem mo_Th_loot : mok y_Th_loot b_Th_loot 3 (some .int) 2 := ⟨List.mem_of_getElem? (i := 579) (by decide +kernel), ⟨by decide +kernel, by decide +kernel, by decide +kernel⟩, List.mem_of_getElem? (i := 77) (by decide +kernel), by decide⟩
set_option maxHeartbeats 4000000 in
theorem c_Th_loot (l : Launch) (u : Un) (hA : Ap u) (σ : St) (k0 : Nat) (C : String) (hrc : recv k0 C) (a b : Int32) : MTi l u y_Th_loot b_Th_loot 3 .int 0 [.ref (u.2.1 k0), .int a, .int b] σ (fun ans σ' => lootS 0 a b = ans ∧ σ = σ') := by
  refine MT_of hA rfl (by decide) (Nat.le_of_ble_eq_true rfl) (fun X hl F hr => ?_)
  subst hl
  refine v_to (ls' := [(0, .ref (u.2.1 k0)), (1, .int a), (2, .int b)]) rfl ?_
  refine v_iload_n F d_Th_loot_0 rfl 1 rfl ?_
  refine v_iret F hr rfl d_Th_loot_1 ?_
  exact ⟨rfl, rfl⟩
abbrev b_Re_loot : ByteArray := prog_10_method_3_code
abbrev y_Re_loot : MethodName := ⟨"TakerBook$Returned", "loot", "(II)I"⟩
theorem d_Re_loot_0 : decode b_Re_loot 0 = .ok (.iload_n 1, 1) := by decide +kernel
theorem d_Re_loot_1 : decode b_Re_loot 1 = .ok (.iconst 1, 1) := by decide +kernel
theorem d_Re_loot_2 : decode b_Re_loot 2 = .ok (.iadd, 1) := by decide +kernel
theorem d_Re_loot_3 : decode b_Re_loot 3 = .ok (.ireturn, 1) := by decide +kernel
theorem mo_Re_loot : mok y_Re_loot b_Re_loot 3 (some .int) 2 := ⟨List.mem_of_getElem? (i := 573) (by decide +kernel), ⟨by decide +kernel, by decide +kernel, by decide +kernel⟩, List.mem_of_getElem? (i := 78) (by decide +kernel), by decide⟩
set_option maxHeartbeats 4000000 in
theorem c_Re_loot (l : Launch) (u : Un) (hA : Ap u) (σ : St) (k0 : Nat) (C : String) (hrc : recv k0 C) (a b : Int32) : MTi l u y_Re_loot b_Re_loot 3 .int 0 [.ref (u.2.1 k0), .int a, .int b] σ (fun ans σ' => lootS 1 a b = ans ∧ σ = σ') := by
  refine MT_of hA rfl (by decide) (Nat.le_of_ble_eq_true rfl) (fun X hl F hr => ?_)
  subst hl
  refine v_to (ls' := [(0, .ref (u.2.1 k0)), (1, .int a), (2, .int b)]) rfl ?_
  refine v_iload_n F d_Re_loot_0 rfl 1 rfl ?_
  refine v_iconst (v := 1) F d_Re_loot_1 ki_1 ?_
  refine v_iadd F d_Re_loot_2 ?_
  refine v_iret F hr rfl d_Re_loot_3 ?_
  exact ⟨rfl, rfl⟩
abbrev b_Cl_loot : ByteArray := prog_3_method_3_code
abbrev y_Cl_loot : MethodName := ⟨"TakerBook$Clerk", "loot", "(II)I"⟩
theorem d_Cl_loot_0 : decode b_Cl_loot 0 = .ok (.iload_n 1, 1) := by decide +kernel
theorem d_Cl_loot_1 : decode b_Cl_loot 1 = .ok (.iconst 2, 1) := by decide +kernel
theorem d_Cl_loot_2 : decode b_Cl_loot 2 = .ok (.idiv, 1) := by decide +kernel
theorem d_Cl_loot_3 : decode b_Cl_loot 3 = .ok (.ireturn, 1) := by decide +kernel
theorem mo_Cl_loot : mok y_Cl_loot b_Cl_loot 3 (some .int) 2 := ⟨List.mem_of_getElem? (i := 567) (by decide +kernel), ⟨by decide +kernel, by decide +kernel, by decide +kernel⟩, List.mem_of_getElem? (i := 79) (by decide +kernel), by decide⟩
set_option maxHeartbeats 4000000 in
theorem c_Cl_loot (l : Launch) (u : Un) (hA : Ap u) (σ : St) (k0 : Nat) (C : String) (hrc : recv k0 C) (a b : Int32) : MTi l u y_Cl_loot b_Cl_loot 3 .int 0 [.ref (u.2.1 k0), .int a, .int b] σ (fun ans σ' => lootS 2 a b = ans ∧ σ = σ') := by
  refine MT_of hA rfl (by decide) (Nat.le_of_ble_eq_true rfl) (fun X hl F hr => ?_)
  subst hl
  refine v_to (ls' := [(0, .ref (u.2.1 k0)), (1, .int a), (2, .int b)]) rfl ?_
  refine v_iload_n F d_Cl_loot_0 rfl 1 rfl ?_
  refine v_iconst (v := 2) F d_Cl_loot_1 ki_2 ?_
  refine v_idiv F d_Cl_loot_2 (by decide) ?_
  refine v_iret F hr rfl d_Cl_loot_3 ?_
  exact ⟨rfl, rfl⟩
abbrev b_Ga_loot : ByteArray := prog_5_method_3_code
abbrev y_Ga_loot : MethodName := ⟨"TakerBook$Gang", "loot", "(II)I"⟩
theorem d_Ga_loot_0 : decode b_Ga_loot 0 = .ok (.iload_n 1, 1) := by decide +kernel
theorem d_Ga_loot_1 : decode b_Ga_loot 1 = .ok (.iload_n 2, 1) := by decide +kernel
theorem d_Ga_loot_2 : decode b_Ga_loot 2 = .ok (.iadd, 1) := by decide +kernel
theorem d_Ga_loot_3 : decode b_Ga_loot 3 = .ok (.ireturn, 1) := by decide +kernel
theorem mo_Ga_loot : mok y_Ga_loot b_Ga_loot 3 (some .int) 2 := ⟨List.mem_of_getElem? (i := 570) (by decide +kernel), ⟨by decide +kernel, by decide +kernel, by decide +kernel⟩, List.mem_of_getElem? (i := 80) (by decide +kernel), by decide⟩
set_option maxHeartbeats 4000000 in
theorem c_Ga_loot (l : Launch) (u : Un) (hA : Ap u) (σ : St) (k0 : Nat) (C : String) (hrc : recv k0 C) (a b : Int32) : MTi l u y_Ga_loot b_Ga_loot 3 .int 0 [.ref (u.2.1 k0), .int a, .int b] σ (fun ans σ' => lootS 3 a b = ans ∧ σ = σ') := by
  refine MT_of hA rfl (by decide) (Nat.le_of_ble_eq_true rfl) (fun X hl F hr => ?_)
  subst hl
  refine v_to (ls' := [(0, .ref (u.2.1 k0)), (1, .int a), (2, .int b)]) rfl ?_
  refine v_iload_n F d_Ga_loot_0 rfl 1 rfl ?_
  refine v_iload_n F d_Ga_loot_1 rfl 2 rfl ?_
  refine v_iadd F d_Ga_loot_2 ?_
  refine v_iret F hr rfl d_Ga_loot_3 ?_
  exact ⟨rfl, rfl⟩
abbrev b_Yo_loot : ByteArray := prog_12_method_3_code
abbrev y_Yo_loot : MethodName := ⟨"TakerBook$Young", "loot", "(II)I"⟩
theorem d_Yo_loot_0 : decode b_Yo_loot 0 = .ok (.aload_n 0, 1) := by decide +kernel
theorem d_Yo_loot_1 : decode b_Yo_loot 1 = .ok (.iload_n 1, 1) := by decide +kernel
theorem d_Yo_loot_2 : decode b_Yo_loot 2 = .ok (.iload_n 2, 1) := by decide +kernel
theorem d_Yo_loot_3 : decode b_Yo_loot 3 = .ok (.invokespecial 13, 3) := by decide +kernel
theorem d_Yo_loot_6 : decode b_Yo_loot 6 = .ok (.iconst 2, 1) := by decide +kernel
theorem d_Yo_loot_7 : decode b_Yo_loot 7 = .ok (.idiv, 1) := by decide +kernel
theorem d_Yo_loot_8 : decode b_Yo_loot 8 = .ok (.ireturn, 1) := by decide +kernel
theorem mo_Yo_loot : mok y_Yo_loot b_Yo_loot 3 (some .int) 2 := ⟨List.mem_of_getElem? (i := 577) (by decide +kernel), ⟨by decide +kernel, by decide +kernel, by decide +kernel⟩, List.mem_of_getElem? (i := 82) (by decide +kernel), by decide⟩
set_option maxHeartbeats 4000000 in
theorem c_Yo_loot (l : Launch) (u : Un) (hA : Ap u) (σ : St) (k0 : Nat) (C : String) (hrc : recv k0 C) (a b : Int32) : MTi l u y_Yo_loot b_Yo_loot 3 .int 1 [.ref (u.2.1 k0), .int a, .int b] σ (fun ans σ' => lootS 5 a b = ans ∧ σ = σ') := by
  refine MT_of hA rfl (by decide) (Nat.le_of_ble_eq_true rfl) (fun X hl F hr => ?_)
  subst hl
  refine v_to (ls' := [(0, .ref (u.2.1 k0)), (1, .int a), (2, .int b)]) rfl ?_
  refine v_aload_n F d_Yo_loot_0 rfl 0 rfl ?_
  refine v_iload_n F d_Yo_loot_1 rfl 1 rfl ?_
  refine v_iload_n F d_Yo_loot_2 rfl 2 rfl ?_
  refine v_runi (r_SU F (C := C) (c_Ga_loot X.2.1 u hA σ k0 C hrc a b) mo_Ga_loot st_Yo_13 hrc (by decide) rfl (Nat.le_of_ble_eq_true rfl) d_Yo_loot_3) (fun r1 σ2 q3 => ?_)
  obtain ⟨rfl, rfl⟩ := q3
  refine v_iconst (v := 2) F d_Yo_loot_6 ki_2 ?_
  refine v_idiv F d_Yo_loot_7 (by decide) ?_
  refine v_iret F hr rfl d_Yo_loot_8 ?_
  exact ⟨rfl, rfl⟩
abbrev b_Th_talks : ByteArray := prog_11_method_4_code
abbrev y_Th_talks : MethodName := ⟨"TakerBook$Thief", "talks", "(IIII)Z"⟩
theorem d_Th_talks_0 : decode b_Th_talks 0 = .ok (.iload_n 1, 1) := by decide +kernel
theorem d_Th_talks_1 : decode b_Th_talks 1 = .ok (.iload_n 2, 1) := by decide +kernel
theorem d_Th_talks_2 : decode b_Th_talks 2 = .ok (.iconst 2, 1) := by decide +kernel
theorem d_Th_talks_3 : decode b_Th_talks 3 = .ok (.iload_n 3, 1) := by decide +kernel
theorem d_Th_talks_4 : decode b_Th_talks 4 = .ok (.imul, 1) := by decide +kernel
theorem d_Th_talks_5 : decode b_Th_talks 5 = .ok (.iadd, 1) := by decide +kernel
theorem d_Th_talks_6 : decode b_Th_talks 6 = .ok (.if_icmp .le 7, 3) := by decide +kernel
theorem d_Th_talks_9 : decode b_Th_talks 9 = .ok (.iconst 1, 1) := by decide +kernel
theorem d_Th_talks_10 : decode b_Th_talks 10 = .ok (.goto 4, 3) := by decide +kernel
theorem d_Th_talks_13 : decode b_Th_talks 13 = .ok (.iconst 0, 1) := by decide +kernel
theorem d_Th_talks_14 : decode b_Th_talks 14 = .ok (.ireturn, 1) := by decide +kernel
theorem mo_Th_talks : mok y_Th_talks b_Th_talks 5 (some .boolean) 4 := ⟨List.mem_of_getElem? (i := 606) (by decide +kernel), ⟨by decide +kernel, by decide +kernel, by decide +kernel⟩, List.mem_of_getElem? (i := 77) (by decide +kernel), by decide⟩
set_option maxHeartbeats 4000000 in
theorem c_Th_talks (l : Launch) (u : Un) (hA : Ap u) (σ : St) (k0 : Nat) (C : String) (hrc : recv k0 C) (b f c o : Int32) : MTi l u y_Th_talks b_Th_talks 5 .boolean 0 [.ref (u.2.1 k0), .int b, .int f, .int c, .int o] σ (fun ans σ' => bI (talkB 0 b f c o = true) = ans ∧ σ = σ') := by
  refine MT_of hA rfl (by decide) (Nat.le_of_ble_eq_true rfl) (fun X hl F hr => ?_)
  subst hl
  refine v_to (ls' := [(0, .ref (u.2.1 k0)), (1, .int b), (2, .int f), (3, .int c), (4, .int o)]) rfl ?_
  refine v_iload_n F d_Th_talks_0 rfl 1 rfl ?_
  refine v_iload_n F d_Th_talks_1 rfl 2 rfl ?_
  refine v_iconst (v := 2) F d_Th_talks_2 ki_2 ?_
  refine v_iload_n F d_Th_talks_3 rfl 3 rfl ?_
  refine v_imul F d_Th_talks_4 ?_
  refine v_iadd F d_Th_talks_5 ?_
  refine v_icmp_le F 13 d_Th_talks_6 rfl (fun h6 => ?_) (fun h6 => ?_)
  · skip
    refine v_iconst (v := 0) F d_Th_talks_13 ki_0 ?_
    refine v_iret F hr rfl d_Th_talks_14 ?_
    exact ⟨(bI_f (by first | (simp_all [talkB]; done) | grind [talkB])), rfl⟩
  · skip
    refine v_iconst (v := 1) F d_Th_talks_9 ki_1 ?_
    refine v_goto F 14 d_Th_talks_10 rfl ?_
    refine v_iret F hr rfl d_Th_talks_14 ?_
    exact ⟨(bI_t (by first | (simp_all [talkB]; done) | grind [talkB])), rfl⟩
abbrev b_Re_talks : ByteArray := prog_10_method_4_code
abbrev y_Re_talks : MethodName := ⟨"TakerBook$Returned", "talks", "(IIII)Z"⟩
theorem d_Re_talks_0 : decode b_Re_talks 0 = .ok (.iconst 0, 1) := by decide +kernel
theorem d_Re_talks_1 : decode b_Re_talks 1 = .ok (.ireturn, 1) := by decide +kernel
theorem mo_Re_talks : mok y_Re_talks b_Re_talks 5 (some .boolean) 4 := ⟨List.mem_of_getElem? (i := 601) (by decide +kernel), ⟨by decide +kernel, by decide +kernel, by decide +kernel⟩, List.mem_of_getElem? (i := 78) (by decide +kernel), by decide⟩
set_option maxHeartbeats 4000000 in
theorem c_Re_talks (l : Launch) (u : Un) (hA : Ap u) (σ : St) (k0 : Nat) (C : String) (hrc : recv k0 C) (b f c o : Int32) : MTi l u y_Re_talks b_Re_talks 5 .boolean 0 [.ref (u.2.1 k0), .int b, .int f, .int c, .int o] σ (fun ans σ' => bI (talkB 1 b f c o = true) = ans ∧ σ = σ') := by
  refine MT_of hA rfl (by decide) (Nat.le_of_ble_eq_true rfl) (fun X hl F hr => ?_)
  subst hl
  refine v_to (ls' := [(0, .ref (u.2.1 k0)), (1, .int b), (2, .int f), (3, .int c), (4, .int o)]) rfl ?_
  refine v_iconst (v := 0) F d_Re_talks_0 ki_0 ?_
  refine v_iret F hr rfl d_Re_talks_1 ?_
  exact ⟨(bI_f (by first | (simp_all [talkB]; done) | grind [talkB])), rfl⟩
abbrev b_Cl_talks : ByteArray := prog_3_method_4_code
abbrev y_Cl_talks : MethodName := ⟨"TakerBook$Clerk", "talks", "(IIII)Z"⟩
theorem d_Cl_talks_0 : decode b_Cl_talks 0 = .ok (.iload_n 3, 1) := by decide +kernel
theorem d_Cl_talks_1 : decode b_Cl_talks 1 = .ok (.ifCond .ne 19, 3) := by decide +kernel
theorem d_Cl_talks_4 : decode b_Cl_talks 4 = .ok (.aload_n 0, 1) := by decide +kernel
theorem d_Cl_talks_5 : decode b_Cl_talks 5 = .ok (.iload_n 1, 1) := by decide +kernel
theorem d_Cl_talks_6 : decode b_Cl_talks 6 = .ok (.iload_n 2, 1) := by decide +kernel
theorem d_Cl_talks_7 : decode b_Cl_talks 7 = .ok (.iload_n 3, 1) := by decide +kernel
theorem d_Cl_talks_8 : decode b_Cl_talks 8 = .ok (.iload 4, 2) := by decide +kernel
theorem d_Cl_talks_10 : decode b_Cl_talks 10 = .ok (.invokespecial 13, 3) := by decide +kernel
theorem d_Cl_talks_13 : decode b_Cl_talks 13 = .ok (.ifCond .eq 7, 3) := by decide +kernel
theorem d_Cl_talks_16 : decode b_Cl_talks 16 = .ok (.iconst 1, 1) := by decide +kernel
theorem d_Cl_talks_17 : decode b_Cl_talks 17 = .ok (.goto 4, 3) := by decide +kernel
theorem d_Cl_talks_20 : decode b_Cl_talks 20 = .ok (.iconst 0, 1) := by decide +kernel
theorem d_Cl_talks_21 : decode b_Cl_talks 21 = .ok (.ireturn, 1) := by decide +kernel
theorem mo_Cl_talks : mok y_Cl_talks b_Cl_talks 5 (some .boolean) 4 := ⟨List.mem_of_getElem? (i := 590) (by decide +kernel), ⟨by decide +kernel, by decide +kernel, by decide +kernel⟩, List.mem_of_getElem? (i := 79) (by decide +kernel), by decide⟩
set_option maxHeartbeats 4000000 in
theorem c_Cl_talks (l : Launch) (u : Un) (hA : Ap u) (σ : St) (k0 : Nat) (C : String) (hrc : recv k0 C) (b f c o : Int32) : MTi l u y_Cl_talks b_Cl_talks 5 .boolean 1 [.ref (u.2.1 k0), .int b, .int f, .int c, .int o] σ (fun ans σ' => bI (talkB 2 b f c o = true) = ans ∧ σ = σ') := by
  refine MT_of hA rfl (by decide) (Nat.le_of_ble_eq_true rfl) (fun X hl F hr => ?_)
  subst hl
  refine v_to (ls' := [(0, .ref (u.2.1 k0)), (1, .int b), (2, .int f), (3, .int c), (4, .int o)]) rfl ?_
  refine v_iload_n F d_Cl_talks_0 rfl 3 rfl ?_
  refine v_if_ne F 20 d_Cl_talks_1 rfl (fun h1 => ?_) (fun h1 => ?_)
  · skip
    refine v_iconst (v := 0) F d_Cl_talks_20 ki_0 ?_
    refine v_iret F hr rfl d_Cl_talks_21 ?_
    exact ⟨(bI_f (by first | (simp_all [talkB]; done) | grind [talkB])), rfl⟩
  · skip
    refine v_aload_n F d_Cl_talks_4 rfl 0 rfl ?_
    refine v_iload_n F d_Cl_talks_5 rfl 1 rfl ?_
    refine v_iload_n F d_Cl_talks_6 rfl 2 rfl ?_
    refine v_iload_n F d_Cl_talks_7 rfl 3 rfl ?_
    refine v_iload F d_Cl_talks_8 4 rfl ?_
    refine v_runi (r_SU F (C := C) (c_Th_talks X.2.1 u hA σ k0 C hrc b f c o) mo_Th_talks st_Cl_13 hrc (by decide) rfl (Nat.le_of_ble_eq_true rfl) d_Cl_talks_10) (fun r1 σ2 q3 => ?_)
    obtain ⟨rfl, rfl⟩ := q3
    refine v_bt F 20 d_Cl_talks_13 rfl (fun h13 => ?_) (fun h13 => ?_)
    · skip
      refine v_iconst (v := 0) F d_Cl_talks_20 ki_0 ?_
      refine v_iret F hr rfl d_Cl_talks_21 ?_
      exact ⟨(bI_f (by first | (simp_all [talkB]; done) | grind [talkB])), rfl⟩
    · skip
      refine v_iconst (v := 1) F d_Cl_talks_16 ki_1 ?_
      refine v_goto F 21 d_Cl_talks_17 rfl ?_
      refine v_iret F hr rfl d_Cl_talks_21 ?_
      exact ⟨(bI_t (by first | (simp_all [talkB]; done) | grind [talkB])), rfl⟩
abbrev b_Ga_talks : ByteArray := prog_5_method_4_code
abbrev y_Ga_talks : MethodName := ⟨"TakerBook$Gang", "talks", "(IIII)Z"⟩
theorem d_Ga_talks_0 : decode b_Ga_talks 0 = .ok (.iload 4, 2) := by decide +kernel
theorem d_Ga_talks_2 : decode b_Ga_talks 2 = .ok (.iconst 1, 1) := by decide +kernel
theorem d_Ga_talks_3 : decode b_Ga_talks 3 = .ok (.if_icmp .gt 19, 3) := by decide +kernel
theorem d_Ga_talks_6 : decode b_Ga_talks 6 = .ok (.aload_n 0, 1) := by decide +kernel
theorem d_Ga_talks_7 : decode b_Ga_talks 7 = .ok (.iload_n 1, 1) := by decide +kernel
theorem d_Ga_talks_8 : decode b_Ga_talks 8 = .ok (.iload_n 2, 1) := by decide +kernel
theorem d_Ga_talks_9 : decode b_Ga_talks 9 = .ok (.iload_n 3, 1) := by decide +kernel
theorem d_Ga_talks_10 : decode b_Ga_talks 10 = .ok (.iload 4, 2) := by decide +kernel
theorem d_Ga_talks_12 : decode b_Ga_talks 12 = .ok (.invokespecial 13, 3) := by decide +kernel
theorem d_Ga_talks_15 : decode b_Ga_talks 15 = .ok (.ifCond .eq 7, 3) := by decide +kernel
theorem d_Ga_talks_18 : decode b_Ga_talks 18 = .ok (.iconst 1, 1) := by decide +kernel
theorem d_Ga_talks_19 : decode b_Ga_talks 19 = .ok (.goto 4, 3) := by decide +kernel
theorem d_Ga_talks_22 : decode b_Ga_talks 22 = .ok (.iconst 0, 1) := by decide +kernel
theorem d_Ga_talks_23 : decode b_Ga_talks 23 = .ok (.ireturn, 1) := by decide +kernel
theorem mo_Ga_talks : mok y_Ga_talks b_Ga_talks 5 (some .boolean) 4 := ⟨List.mem_of_getElem? (i := 594) (by decide +kernel), ⟨by decide +kernel, by decide +kernel, by decide +kernel⟩, List.mem_of_getElem? (i := 80) (by decide +kernel), by decide⟩
set_option maxHeartbeats 4000000 in
theorem c_Ga_talks (l : Launch) (u : Un) (hA : Ap u) (σ : St) (k0 : Nat) (C : String) (hrc : recv k0 C) (b f c o : Int32) : MTi l u y_Ga_talks b_Ga_talks 5 .boolean 1 [.ref (u.2.1 k0), .int b, .int f, .int c, .int o] σ (fun ans σ' => bI (talkB 3 b f c o = true) = ans ∧ σ = σ') := by
  refine MT_of hA rfl (by decide) (Nat.le_of_ble_eq_true rfl) (fun X hl F hr => ?_)
  subst hl
  refine v_to (ls' := [(0, .ref (u.2.1 k0)), (1, .int b), (2, .int f), (3, .int c), (4, .int o)]) rfl ?_
  refine v_iload F d_Ga_talks_0 4 rfl ?_
  refine v_iconst (v := 1) F d_Ga_talks_2 ki_1 ?_
  refine v_icmp_gt F 22 d_Ga_talks_3 rfl (fun h3 => ?_) (fun h3 => ?_)
  · skip
    refine v_iconst (v := 0) F d_Ga_talks_22 ki_0 ?_
    refine v_iret F hr rfl d_Ga_talks_23 ?_
    exact ⟨(bI_f (by first | (simp_all [talkB]; done) | grind [talkB])), rfl⟩
  · skip
    refine v_aload_n F d_Ga_talks_6 rfl 0 rfl ?_
    refine v_iload_n F d_Ga_talks_7 rfl 1 rfl ?_
    refine v_iload_n F d_Ga_talks_8 rfl 2 rfl ?_
    refine v_iload_n F d_Ga_talks_9 rfl 3 rfl ?_
    refine v_iload F d_Ga_talks_10 4 rfl ?_
    refine v_runi (r_SU F (C := C) (c_Th_talks X.2.1 u hA σ k0 C hrc b f c o) mo_Th_talks st_Ga_13 hrc (by decide) rfl (Nat.le_of_ble_eq_true rfl) d_Ga_talks_12) (fun r1 σ2 q3 => ?_)
    obtain ⟨rfl, rfl⟩ := q3
    refine v_bt F 22 d_Ga_talks_15 rfl (fun h15 => ?_) (fun h15 => ?_)
    · skip
      refine v_iconst (v := 0) F d_Ga_talks_22 ki_0 ?_
      refine v_iret F hr rfl d_Ga_talks_23 ?_
      exact ⟨(bI_f (by first | (simp_all [talkB]; done) | grind [talkB])), rfl⟩
    · skip
      refine v_iconst (v := 1) F d_Ga_talks_18 ki_1 ?_
      refine v_goto F 23 d_Ga_talks_19 rfl ?_
      refine v_iret F hr rfl d_Ga_talks_23 ?_
      exact ⟨(bI_t (by first | (simp_all [talkB]; done) | grind [talkB])), rfl⟩
abbrev b_La_talks : ByteArray := prog_6_method_3_code
abbrev y_La_talks : MethodName := ⟨"TakerBook$Lace", "talks", "(IIII)Z"⟩
theorem d_La_talks_0 : decode b_La_talks 0 = .ok (.iload_n 3, 1) := by decide +kernel
theorem d_La_talks_1 : decode b_La_talks 1 = .ok (.iconst 2, 1) := by decide +kernel
theorem d_La_talks_2 : decode b_La_talks 2 = .ok (.if_icmp .ne 7, 3) := by decide +kernel
theorem d_La_talks_5 : decode b_La_talks 5 = .ok (.iconst 1, 1) := by decide +kernel
theorem d_La_talks_6 : decode b_La_talks 6 = .ok (.goto 4, 3) := by decide +kernel
theorem d_La_talks_9 : decode b_La_talks 9 = .ok (.iconst 0, 1) := by decide +kernel
theorem d_La_talks_10 : decode b_La_talks 10 = .ok (.ireturn, 1) := by decide +kernel
theorem mo_La_talks : mok y_La_talks b_La_talks 5 (some .boolean) 4 := ⟨List.mem_of_getElem? (i := 598) (by decide +kernel), ⟨by decide +kernel, by decide +kernel, by decide +kernel⟩, List.mem_of_getElem? (i := 81) (by decide +kernel), by decide⟩
set_option maxHeartbeats 4000000 in
theorem c_La_talks (l : Launch) (u : Un) (hA : Ap u) (σ : St) (k0 : Nat) (C : String) (hrc : recv k0 C) (b f c o : Int32) : MTi l u y_La_talks b_La_talks 5 .boolean 0 [.ref (u.2.1 k0), .int b, .int f, .int c, .int o] σ (fun ans σ' => bI (talkB 4 b f c o = true) = ans ∧ σ = σ') := by
  refine MT_of hA rfl (by decide) (Nat.le_of_ble_eq_true rfl) (fun X hl F hr => ?_)
  subst hl
  refine v_to (ls' := [(0, .ref (u.2.1 k0)), (1, .int b), (2, .int f), (3, .int c), (4, .int o)]) rfl ?_
  refine v_iload_n F d_La_talks_0 rfl 3 rfl ?_
  refine v_iconst (v := 2) F d_La_talks_1 ki_2 ?_
  refine v_icmp_ne F 9 d_La_talks_2 rfl (fun h2 => ?_) (fun h2 => ?_)
  · skip
    refine v_iconst (v := 0) F d_La_talks_9 ki_0 ?_
    refine v_iret F hr rfl d_La_talks_10 ?_
    exact ⟨(bI_f (by first | (simp_all [talkB]; done) | grind [talkB])), rfl⟩
  · skip
    refine v_iconst (v := 1) F d_La_talks_5 ki_1 ?_
    refine v_goto F 10 d_La_talks_6 rfl ?_
    refine v_iret F hr rfl d_La_talks_10 ?_
    exact ⟨(bI_t (by first | (simp_all [talkB]; done) | grind [talkB])), rfl⟩
abbrev b_Yo_talks : ByteArray := prog_12_method_4_code
abbrev y_Yo_talks : MethodName := ⟨"TakerBook$Young", "talks", "(IIII)Z"⟩
theorem d_Yo_talks_0 : decode b_Yo_talks 0 = .ok (.aload_n 0, 1) := by decide +kernel
theorem d_Yo_talks_1 : decode b_Yo_talks 1 = .ok (.iload_n 1, 1) := by decide +kernel
theorem d_Yo_talks_2 : decode b_Yo_talks 2 = .ok (.iconst 2, 1) := by decide +kernel
theorem d_Yo_talks_3 : decode b_Yo_talks 3 = .ok (.iadd, 1) := by decide +kernel
theorem d_Yo_talks_4 : decode b_Yo_talks 4 = .ok (.iload_n 2, 1) := by decide +kernel
theorem d_Yo_talks_5 : decode b_Yo_talks 5 = .ok (.iload_n 3, 1) := by decide +kernel
theorem d_Yo_talks_6 : decode b_Yo_talks 6 = .ok (.iload 4, 2) := by decide +kernel
theorem d_Yo_talks_8 : decode b_Yo_talks 8 = .ok (.invokespecial 19, 3) := by decide +kernel
theorem d_Yo_talks_11 : decode b_Yo_talks 11 = .ok (.ireturn, 1) := by decide +kernel
theorem mo_Yo_talks : mok y_Yo_talks b_Yo_talks 5 (some .boolean) 4 := ⟨List.mem_of_getElem? (i := 604) (by decide +kernel), ⟨by decide +kernel, by decide +kernel, by decide +kernel⟩, List.mem_of_getElem? (i := 82) (by decide +kernel), by decide⟩
set_option maxHeartbeats 4000000 in
theorem c_Yo_talks (l : Launch) (u : Un) (hA : Ap u) (σ : St) (k0 : Nat) (C : String) (hrc : recv k0 C) (b f c o : Int32) : MTi l u y_Yo_talks b_Yo_talks 5 .boolean 2 [.ref (u.2.1 k0), .int b, .int f, .int c, .int o] σ (fun ans σ' => bI (talkB 5 b f c o = true) = ans ∧ σ = σ') := by
  refine MT_of hA rfl (by decide) (Nat.le_of_ble_eq_true rfl) (fun X hl F hr => ?_)
  subst hl
  refine v_to (ls' := [(0, .ref (u.2.1 k0)), (1, .int b), (2, .int f), (3, .int c), (4, .int o)]) rfl ?_
  refine v_aload_n F d_Yo_talks_0 rfl 0 rfl ?_
  refine v_iload_n F d_Yo_talks_1 rfl 1 rfl ?_
  refine v_iconst (v := 2) F d_Yo_talks_2 ki_2 ?_
  refine v_iadd F d_Yo_talks_3 ?_
  refine v_iload_n F d_Yo_talks_4 rfl 2 rfl ?_
  refine v_iload_n F d_Yo_talks_5 rfl 3 rfl ?_
  refine v_iload F d_Yo_talks_6 4 rfl ?_
  refine v_runi (r_SU F (C := C) (c_Ga_talks X.2.1 u hA σ k0 C hrc (b + 2) f c o) mo_Ga_talks st_Yo_19 hrc (by decide) rfl (Nat.le_of_ble_eq_true rfl) d_Yo_talks_8) (fun r1 σ2 q3 => ?_)
  obtain ⟨rfl, rfl⟩ := q3
  refine v_iret F hr bI_nar d_Yo_talks_11 ?_
  exact ⟨by first | rfl | (simp_all [talkB]; done) | grind [talkB], rfl⟩
abbrev b_Th_price : ByteArray := prog_11_method_5_code
abbrev y_Th_price : MethodName := ⟨"TakerBook$Thief", "price", "(II)I"⟩
theorem d_Th_price_0 : decode b_Th_price 0 = .ok (.iload_n 1, 1) := by decide +kernel
theorem d_Th_price_1 : decode b_Th_price 1 = .ok (.iload_n 2, 1) := by decide +kernel
theorem d_Th_price_2 : decode b_Th_price 2 = .ok (.iadd, 1) := by decide +kernel
theorem d_Th_price_3 : decode b_Th_price 3 = .ok (.ireturn, 1) := by decide +kernel
theorem mo_Th_price : mok y_Th_price b_Th_price 3 (some .int) 2 := ⟨List.mem_of_getElem? (i := 634) (by decide +kernel), ⟨by decide +kernel, by decide +kernel, by decide +kernel⟩, List.mem_of_getElem? (i := 77) (by decide +kernel), by decide⟩
set_option maxHeartbeats 4000000 in
theorem c_Th_price (l : Launch) (u : Un) (hA : Ap u) (σ : St) (k0 : Nat) (C : String) (hrc : recv k0 C) (a b : Int32) : MTi l u y_Th_price b_Th_price 3 .int 0 [.ref (u.2.1 k0), .int a, .int b] σ (fun ans σ' => priceS 0 a b = ans ∧ σ = σ') := by
  refine MT_of hA rfl (by decide) (Nat.le_of_ble_eq_true rfl) (fun X hl F hr => ?_)
  subst hl
  refine v_to (ls' := [(0, .ref (u.2.1 k0)), (1, .int a), (2, .int b)]) rfl ?_
  refine v_iload_n F d_Th_price_0 rfl 1 rfl ?_
  refine v_iload_n F d_Th_price_1 rfl 2 rfl ?_
  refine v_iadd F d_Th_price_2 ?_
  refine v_iret F hr rfl d_Th_price_3 ?_
  exact ⟨rfl, rfl⟩
abbrev b_Cl_price : ByteArray := prog_3_method_5_code
abbrev y_Cl_price : MethodName := ⟨"TakerBook$Clerk", "price", "(II)I"⟩
theorem d_Cl_price_0 : decode b_Cl_price 0 = .ok (.aload_n 0, 1) := by decide +kernel
theorem d_Cl_price_1 : decode b_Cl_price 1 = .ok (.iload_n 1, 1) := by decide +kernel
theorem d_Cl_price_2 : decode b_Cl_price 2 = .ok (.iload_n 2, 1) := by decide +kernel
theorem d_Cl_price_3 : decode b_Cl_price 3 = .ok (.invokespecial 17, 3) := by decide +kernel
theorem d_Cl_price_6 : decode b_Cl_price 6 = .ok (.iconst 2, 1) := by decide +kernel
theorem d_Cl_price_7 : decode b_Cl_price 7 = .ok (.idiv, 1) := by decide +kernel
theorem d_Cl_price_8 : decode b_Cl_price 8 = .ok (.ireturn, 1) := by decide +kernel
theorem mo_Cl_price : mok y_Cl_price b_Cl_price 3 (some .int) 2 := ⟨List.mem_of_getElem? (i := 620) (by decide +kernel), ⟨by decide +kernel, by decide +kernel, by decide +kernel⟩, List.mem_of_getElem? (i := 79) (by decide +kernel), by decide⟩
set_option maxHeartbeats 4000000 in
theorem c_Cl_price (l : Launch) (u : Un) (hA : Ap u) (σ : St) (k0 : Nat) (C : String) (hrc : recv k0 C) (a b : Int32) : MTi l u y_Cl_price b_Cl_price 3 .int 1 [.ref (u.2.1 k0), .int a, .int b] σ (fun ans σ' => priceS 2 a b = ans ∧ σ = σ') := by
  refine MT_of hA rfl (by decide) (Nat.le_of_ble_eq_true rfl) (fun X hl F hr => ?_)
  subst hl
  refine v_to (ls' := [(0, .ref (u.2.1 k0)), (1, .int a), (2, .int b)]) rfl ?_
  refine v_aload_n F d_Cl_price_0 rfl 0 rfl ?_
  refine v_iload_n F d_Cl_price_1 rfl 1 rfl ?_
  refine v_iload_n F d_Cl_price_2 rfl 2 rfl ?_
  refine v_runi (r_SU F (C := C) (c_Th_price X.2.1 u hA σ k0 C hrc a b) mo_Th_price st_Cl_17 hrc (by decide) rfl (Nat.le_of_ble_eq_true rfl) d_Cl_price_3) (fun r1 σ2 q3 => ?_)
  obtain ⟨rfl, rfl⟩ := q3
  refine v_iconst (v := 2) F d_Cl_price_6 ki_2 ?_
  refine v_idiv F d_Cl_price_7 (by decide) ?_
  refine v_iret F hr rfl d_Cl_price_8 ?_
  exact ⟨rfl, rfl⟩
abbrev b_Yo_price : ByteArray := prog_12_method_5_code
abbrev y_Yo_price : MethodName := ⟨"TakerBook$Young", "price", "(II)I"⟩
theorem d_Yo_price_0 : decode b_Yo_price 0 = .ok (.iconst 0, 1) := by decide +kernel
theorem d_Yo_price_1 : decode b_Yo_price 1 = .ok (.aload_n 0, 1) := by decide +kernel
theorem d_Yo_price_2 : decode b_Yo_price 2 = .ok (.iload_n 1, 1) := by decide +kernel
theorem d_Yo_price_3 : decode b_Yo_price 3 = .ok (.iload_n 2, 1) := by decide +kernel
theorem d_Yo_price_4 : decode b_Yo_price 4 = .ok (.invokespecial 23, 3) := by decide +kernel
theorem d_Yo_price_7 : decode b_Yo_price 7 = .ok (.iconst 1, 1) := by decide +kernel
theorem d_Yo_price_8 : decode b_Yo_price 8 = .ok (.isub, 1) := by decide +kernel
theorem d_Yo_price_9 : decode b_Yo_price 9 = .ok (.invokestatic 26, 3) := by decide +kernel
theorem d_Yo_price_12 : decode b_Yo_price 12 = .ok (.ireturn, 1) := by decide +kernel
theorem mo_Yo_price : mok y_Yo_price b_Yo_price 3 (some .int) 2 := ⟨List.mem_of_getElem? (i := 627) (by decide +kernel), ⟨by decide +kernel, by decide +kernel, by decide +kernel⟩, List.mem_of_getElem? (i := 82) (by decide +kernel), by decide⟩
set_option maxHeartbeats 4000000 in
theorem c_Yo_price (l : Launch) (u : Un) (hA : Ap u) (σ : St) (k0 : Nat) (C : String) (hrc : recv k0 C) (a b : Int32): MTi l u y_Yo_price b_Yo_price 3 .int 2 [.ref (u.2.1 k0), .int a, .int b] σ (fun ans σ' => priceS 5 a b = ans ∧ σ = σ') := by
  refine MT_of hA rfl (by decide) (Nat.le_of_ble_eq_true rfl) (fun X hl F hr => ?_)
  subst hl
  refine v_to (ls' := [(0, .ref (u.2.1 k0)), (1, .int a), (2, .int b)]) rfl ?_
  refine v_iconst (v := 0) F d_Yo_price_0 ki_0 ?_
  refine v_aload_n F d_Yo_price_1 rfl 0 rfl ?_
  refine v_iload_n F d_Yo_price_2 rfl 1 rfl ?_
  refine v_iload_n F d_Yo_price_3 rfl 2 rfl ?_
  refine v_runi (r_SU2 F (x := ⟨"TakerBook$Gang", "price", "(II)I"⟩) (C := C) (c_Th_price X.2.1 u hA σ k0 C hrc a b) mo_Th_price (List.mem_of_getElem? (i := 628) (by decide +kernel)) (List.mem_of_getElem? (i := 629) (by decide +kernel)) (List.mem_of_getElem? (i := 178) (by decide +kernel)) (List.mem_of_getElem? (i := 164) (by decide +kernel)) (List.mem_of_getElem? (i := 615) (by decide +kernel)) rfl (by decide) hrc (by decide) rfl (Nat.le_of_ble_eq_true rfl) d_Yo_price_4) (fun r σ' h => ?_)
  obtain ⟨rfl, rfl⟩ := h
  refine v_iconst (v := 1) F d_Yo_price_7 ki_1 ?_
  refine v_isub F d_Yo_price_8 ?_
  refine v_mmax F (List.mem_of_getElem? (i := 631) (by decide +kernel)) (Nat.le_of_ble_eq_true rfl) (by decide) d_Yo_price_9 ?_
  refine v_iret F hr rfl d_Yo_price_12 ?_
  exact ⟨rfl, rfl⟩
theorem vs_T_134 {X : FX} {u : Un} (hA : Ap u) {cc : ByteArray} {d nL : Nat} {Q : State → Prop} {pc : Nat} {ls : List (Nat × Value)} {st : List Value} {σ : St} (F : Fr X u "TakerBook" cc nL) {k : Nat} (hk : k < 6) {w : Int32} (hd : 4 ≤ d) (hw : (st.map fun v => v.category).sum ≤ 8) (hdg : decode cc pc = .ok (.invokevirtual 134, 3)) (kk : V X u d nL Q (pc + 3) ls (.int (bI (ofB k w = true)) :: st) σ) : V X u d nL Q pc ls (.int w :: .ref (u.2.1 (21 + k)) :: st) σ := by
  rcases k with _ | _ | _ | _ | _ | _ | k
  · exact v_runi (r_U F (x := ⟨"TakerBook$Thief", "isOf", "(I)Z"⟩) (C := "TakerBook$Thief") (c_Th_isOf X.2.1 u hA σ 21 "TakerBook$Thief" rc_21 w) mo_Th_isOf st_T_134_Th ⟨by decide, by decide⟩ rc_21 (by omega) rfl hw hdg) (fun r σ' h => by obtain ⟨e, rfl⟩ := h; rw [← e]; exact kk)
  · exact v_runi (r_U F (x := ⟨"TakerBook$Thief", "isOf", "(I)Z"⟩) (C := "TakerBook$Returned") (c_Re_isOf X.2.1 u hA σ 22 "TakerBook$Returned" rc_22 w) mo_Re_isOf st_T_134_Re ⟨by decide, by decide⟩ rc_22 (by omega) rfl hw hdg) (fun r σ' h => by obtain ⟨e, rfl⟩ := h; rw [← e]; exact kk)
  · exact v_runi (r_U F (x := ⟨"TakerBook$Thief", "isOf", "(I)Z"⟩) (C := "TakerBook$Clerk") (c_Cl_isOf X.2.1 u hA σ 23 "TakerBook$Clerk" rc_23 w) mo_Cl_isOf st_T_134_Cl ⟨by decide, by decide⟩ rc_23 (by omega) rfl hw hdg) (fun r σ' h => by obtain ⟨e, rfl⟩ := h; rw [← e]; exact kk)
  · exact v_runi (r_U F (x := ⟨"TakerBook$Thief", "isOf", "(I)Z"⟩) (C := "TakerBook$Gang") (c_Ga_isOf X.2.1 u hA σ 24 "TakerBook$Gang" rc_24 w) mo_Ga_isOf st_T_134_Ga ⟨by decide, by decide⟩ rc_24 (by omega) rfl hw hdg) (fun r σ' h => by obtain ⟨e, rfl⟩ := h; rw [← e]; exact kk)
  · exact v_runi (r_U F (x := ⟨"TakerBook$Thief", "isOf", "(I)Z"⟩) (C := "TakerBook$Lace") (c_La_isOf X.2.1 u hA σ 25 "TakerBook$Lace" rc_25 w) mo_La_isOf st_T_134_La ⟨by decide, by decide⟩ rc_25 (by omega) rfl hw hdg) (fun r σ' h => by obtain ⟨e, rfl⟩ := h; rw [← e]; exact kk)
  · exact v_runi (r_U F (x := ⟨"TakerBook$Thief", "isOf", "(I)Z"⟩) (C := "TakerBook$Young") (c_Yo_isOf X.2.1 u hA σ 26 "TakerBook$Young" rc_26 w) mo_Yo_isOf st_T_134_Yo ⟨by decide, by decide⟩ rc_26 (by omega) rfl hw hdg) (fun r σ' h => by obtain ⟨e, rfl⟩ := h; rw [← e]; exact kk)
  · exfalso
    omega
theorem vs_T_366 {X : FX} {u : Un} (hA : Ap u) {cc : ByteArray} {d nL : Nat} {Q : State → Prop} {pc : Nat} {ls : List (Nat × Value)} {st : List Value} {σ : St} (F : Fr X u "TakerBook" cc nL) {k : Nat} (hk : k < 6) {b f c o : Int32} (hd : 4 ≤ d) (hw : (st.map fun v => v.category).sum ≤ 8) (hdg : decode cc pc = .ok (.invokevirtual 366, 3)) (kk : V X u d nL Q (pc + 3) ls (.int (bI (talkB k b f c o = true)) :: st) σ) : V X u d nL Q pc ls (.int o :: .int c :: .int f :: .int b :: .ref (u.2.1 (21 + k)) :: st) σ := by
  rcases k with _ | _ | _ | _ | _ | _ | k
  · exact v_runi (r_U F (x := ⟨"TakerBook$Thief", "talks", "(IIII)Z"⟩) (C := "TakerBook$Thief") (c_Th_talks X.2.1 u hA σ 21 "TakerBook$Thief" rc_21 b f c o) mo_Th_talks st_T_366_Th ⟨by decide, by decide⟩ rc_21 (by omega) rfl hw hdg) (fun r σ' h => by obtain ⟨e, rfl⟩ := h; rw [← e]; exact kk)
  · exact v_runi (r_U F (x := ⟨"TakerBook$Thief", "talks", "(IIII)Z"⟩) (C := "TakerBook$Returned") (c_Re_talks X.2.1 u hA σ 22 "TakerBook$Returned" rc_22 b f c o) mo_Re_talks st_T_366_Re ⟨by decide, by decide⟩ rc_22 (by omega) rfl hw hdg) (fun r σ' h => by obtain ⟨e, rfl⟩ := h; rw [← e]; exact kk)
  · exact v_runi (r_U F (x := ⟨"TakerBook$Thief", "talks", "(IIII)Z"⟩) (C := "TakerBook$Clerk") (c_Cl_talks X.2.1 u hA σ 23 "TakerBook$Clerk" rc_23 b f c o) mo_Cl_talks st_T_366_Cl ⟨by decide, by decide⟩ rc_23 (by omega) rfl hw hdg) (fun r σ' h => by obtain ⟨e, rfl⟩ := h; rw [← e]; exact kk)
  · exact v_runi (r_U F (x := ⟨"TakerBook$Thief", "talks", "(IIII)Z"⟩) (C := "TakerBook$Gang") (c_Ga_talks X.2.1 u hA σ 24 "TakerBook$Gang" rc_24 b f c o) mo_Ga_talks st_T_366_Ga ⟨by decide, by decide⟩ rc_24 (by omega) rfl hw hdg) (fun r σ' h => by obtain ⟨e, rfl⟩ := h; rw [← e]; exact kk)
  · exact v_runi (r_U F (x := ⟨"TakerBook$Thief", "talks", "(IIII)Z"⟩) (C := "TakerBook$Lace") (c_La_talks X.2.1 u hA σ 25 "TakerBook$Lace" rc_25 b f c o) mo_La_talks st_T_366_La ⟨by decide, by decide⟩ rc_25 (by omega) rfl hw hdg) (fun r σ' h => by obtain ⟨e, rfl⟩ := h; rw [← e]; exact kk)
  · exact v_runi (r_U F (x := ⟨"TakerBook$Thief", "talks", "(IIII)Z"⟩) (C := "TakerBook$Young") (c_Yo_talks X.2.1 u hA σ 26 "TakerBook$Young" rc_26 b f c o) mo_Yo_talks st_T_366_Yo ⟨by decide, by decide⟩ rc_26 (by omega) rfl hw hdg) (fun r σ' h => by obtain ⟨e, rfl⟩ := h; rw [← e]; exact kk)
  · exfalso
    omega
theorem vs_B_88 {X : FX} {u : Un} (hA : Ap u) {cc : ByteArray} {d nL : Nat} {Q : State → Prop} {pc : Nat} {ls : List (Nat × Value)} {st : List Value} {σ : St} (F : Fr X u "TakerBook$Band" cc nL) {k : Nat} (hk : k < 6) {w : Int32} (hd : 4 ≤ d) (hw : (st.map fun v => v.category).sum ≤ 8) (hdg : decode cc pc = .ok (.invokevirtual 88, 3)) (kk : V X u d nL Q (pc + 3) ls (.int (bI (ofB k w = true)) :: st) σ) : V X u d nL Q pc ls (.int w :: .ref (u.2.1 (21 + k)) :: st) σ := by
  rcases k with _ | _ | _ | _ | _ | _ | k
  · exact v_runi (r_U F (x := ⟨"TakerBook$Thief", "isOf", "(I)Z"⟩) (C := "TakerBook$Thief") (c_Th_isOf X.2.1 u hA σ 21 "TakerBook$Thief" rc_21 w) mo_Th_isOf st_B_88_Th ⟨by decide, by decide⟩ rc_21 (by omega) rfl hw hdg) (fun r σ' h => by obtain ⟨e, rfl⟩ := h; rw [← e]; exact kk)
  · exact v_runi (r_U F (x := ⟨"TakerBook$Thief", "isOf", "(I)Z"⟩) (C := "TakerBook$Returned") (c_Re_isOf X.2.1 u hA σ 22 "TakerBook$Returned" rc_22 w) mo_Re_isOf st_B_88_Re ⟨by decide, by decide⟩ rc_22 (by omega) rfl hw hdg) (fun r σ' h => by obtain ⟨e, rfl⟩ := h; rw [← e]; exact kk)
  · exact v_runi (r_U F (x := ⟨"TakerBook$Thief", "isOf", "(I)Z"⟩) (C := "TakerBook$Clerk") (c_Cl_isOf X.2.1 u hA σ 23 "TakerBook$Clerk" rc_23 w) mo_Cl_isOf st_B_88_Cl ⟨by decide, by decide⟩ rc_23 (by omega) rfl hw hdg) (fun r σ' h => by obtain ⟨e, rfl⟩ := h; rw [← e]; exact kk)
  · exact v_runi (r_U F (x := ⟨"TakerBook$Thief", "isOf", "(I)Z"⟩) (C := "TakerBook$Gang") (c_Ga_isOf X.2.1 u hA σ 24 "TakerBook$Gang" rc_24 w) mo_Ga_isOf st_B_88_Ga ⟨by decide, by decide⟩ rc_24 (by omega) rfl hw hdg) (fun r σ' h => by obtain ⟨e, rfl⟩ := h; rw [← e]; exact kk)
  · exact v_runi (r_U F (x := ⟨"TakerBook$Thief", "isOf", "(I)Z"⟩) (C := "TakerBook$Lace") (c_La_isOf X.2.1 u hA σ 25 "TakerBook$Lace" rc_25 w) mo_La_isOf st_B_88_La ⟨by decide, by decide⟩ rc_25 (by omega) rfl hw hdg) (fun r σ' h => by obtain ⟨e, rfl⟩ := h; rw [← e]; exact kk)
  · exact v_runi (r_U F (x := ⟨"TakerBook$Thief", "isOf", "(I)Z"⟩) (C := "TakerBook$Young") (c_Yo_isOf X.2.1 u hA σ 26 "TakerBook$Young" rc_26 w) mo_Yo_isOf st_B_88_Yo ⟨by decide, by decide⟩ rc_26 (by omega) rfl hw hdg) (fun r σ' h => by obtain ⟨e, rfl⟩ := h; rw [← e]; exact kk)
  · exfalso
    omega
theorem vs_B_125 {X : FX} {u : Un} (hA : Ap u) {cc : ByteArray} {d nL : Nat} {Q : State → Prop} {pc : Nat} {ls : List (Nat × Value)} {st : List Value} {σ : St} (F : Fr X u "TakerBook$Band" cc nL) {k : Nat} (hk : k < 6) {a b : Int32} (hd : 4 ≤ d) (hw : (st.map fun v => v.category).sum ≤ 8) (hdg : decode cc pc = .ok (.invokevirtual 125, 3)) (kk : V X u d nL Q (pc + 3) ls (.int (lootS k a b) :: st) σ) : V X u d nL Q pc ls (.int b :: .int a :: .ref (u.2.1 (21 + k)) :: st) σ := by
  rcases k with _ | _ | _ | _ | _ | _ | k
  · exact v_runi (r_U F (x := ⟨"TakerBook$Thief", "loot", "(II)I"⟩) (C := "TakerBook$Thief") (c_Th_loot X.2.1 u hA σ 21 "TakerBook$Thief" rc_21 a b) mo_Th_loot st_B_125_Th ⟨by decide, by decide⟩ rc_21 (by omega) rfl hw hdg) (fun r σ' h => by obtain ⟨e, rfl⟩ := h; rw [← e]; exact kk)
  · exact v_runi (r_U F (x := ⟨"TakerBook$Thief", "loot", "(II)I"⟩) (C := "TakerBook$Returned") (c_Re_loot X.2.1 u hA σ 22 "TakerBook$Returned" rc_22 a b) mo_Re_loot st_B_125_Re ⟨by decide, by decide⟩ rc_22 (by omega) rfl hw hdg) (fun r σ' h => by obtain ⟨e, rfl⟩ := h; rw [← e]; exact kk)
  · exact v_runi (r_U F (x := ⟨"TakerBook$Thief", "loot", "(II)I"⟩) (C := "TakerBook$Clerk") (c_Cl_loot X.2.1 u hA σ 23 "TakerBook$Clerk" rc_23 a b) mo_Cl_loot st_B_125_Cl ⟨by decide, by decide⟩ rc_23 (by omega) rfl hw hdg) (fun r σ' h => by obtain ⟨e, rfl⟩ := h; rw [← e]; exact kk)
  · exact v_runi (r_U F (x := ⟨"TakerBook$Thief", "loot", "(II)I"⟩) (C := "TakerBook$Gang") (c_Ga_loot X.2.1 u hA σ 24 "TakerBook$Gang" rc_24 a b) mo_Ga_loot st_B_125_Ga ⟨by decide, by decide⟩ rc_24 (by omega) rfl hw hdg) (fun r σ' h => by obtain ⟨e, rfl⟩ := h; rw [← e]; exact kk)
  · exact v_runi (r_U F (x := ⟨"TakerBook$Thief", "loot", "(II)I"⟩) (C := "TakerBook$Lace") (c_Re_loot X.2.1 u hA σ 25 "TakerBook$Lace" rc_25 a b) mo_Re_loot st_B_125_La ⟨by decide, by decide⟩ rc_25 (by omega) rfl hw hdg) (fun r σ' h => by obtain ⟨e, rfl⟩ := h; rw [← e]; exact kk)
  · exact v_runi (r_U F (x := ⟨"TakerBook$Thief", "loot", "(II)I"⟩) (C := "TakerBook$Young") (c_Yo_loot X.2.1 u hA σ 26 "TakerBook$Young" rc_26 a b) mo_Yo_loot st_B_125_Yo ⟨by decide, by decide⟩ rc_26 (by omega) rfl hw hdg) (fun r σ' h => by obtain ⟨e, rfl⟩ := h; rw [← e]; exact kk)
  · exfalso
    omega
theorem vs_B_128 {X : FX} {u : Un} (hA : Ap u) {cc : ByteArray} {d nL : Nat} {Q : State → Prop} {pc : Nat} {ls : List (Nat × Value)} {st : List Value} {σ : St} (F : Fr X u "TakerBook$Band" cc nL) {k : Nat} (hk : k < 6) {a b : Int32} (hd : 4 ≤ d) (hw : (st.map fun v => v.category).sum ≤ 8) (hdg : decode cc pc = .ok (.invokevirtual 128, 3)) (kk : V X u d nL Q (pc + 3) ls (.int (priceS k a b) :: st) σ) : V X u d nL Q pc ls (.int b :: .int a :: .ref (u.2.1 (21 + k)) :: st) σ := by
  rcases k with _ | _ | _ | _ | _ | _ | k
  · exact v_runi (r_U F (x := ⟨"TakerBook$Thief", "price", "(II)I"⟩) (C := "TakerBook$Thief") (c_Th_price X.2.1 u hA σ 21 "TakerBook$Thief" rc_21 a b) mo_Th_price st_B_128_Th ⟨by decide, by decide⟩ rc_21 (by omega) rfl hw hdg) (fun r σ' h => by obtain ⟨e, rfl⟩ := h; rw [← e]; exact kk)
  · exact v_runi (r_U F (x := ⟨"TakerBook$Thief", "price", "(II)I"⟩) (C := "TakerBook$Returned") (c_Th_price X.2.1 u hA σ 22 "TakerBook$Returned" rc_22 a b) mo_Th_price st_B_128_Re ⟨by decide, by decide⟩ rc_22 (by omega) rfl hw hdg) (fun r σ' h => by obtain ⟨e, rfl⟩ := h; rw [← e]; exact kk)
  · exact v_runi (r_U F (x := ⟨"TakerBook$Thief", "price", "(II)I"⟩) (C := "TakerBook$Clerk") (c_Cl_price X.2.1 u hA σ 23 "TakerBook$Clerk" rc_23 a b) mo_Cl_price st_B_128_Cl ⟨by decide, by decide⟩ rc_23 (by omega) rfl hw hdg) (fun r σ' h => by obtain ⟨e, rfl⟩ := h; rw [← e]; exact kk)
  · exact v_runi (r_U F (x := ⟨"TakerBook$Thief", "price", "(II)I"⟩) (C := "TakerBook$Gang") (c_Th_price X.2.1 u hA σ 24 "TakerBook$Gang" rc_24 a b) mo_Th_price st_B_128_Ga ⟨by decide, by decide⟩ rc_24 (by omega) rfl hw hdg) (fun r σ' h => by obtain ⟨e, rfl⟩ := h; rw [← e]; exact kk)
  · exact v_runi (r_U F (x := ⟨"TakerBook$Thief", "price", "(II)I"⟩) (C := "TakerBook$Lace") (c_Th_price X.2.1 u hA σ 25 "TakerBook$Lace" rc_25 a b) mo_Th_price st_B_128_La ⟨by decide, by decide⟩ rc_25 (by omega) rfl hw hdg) (fun r σ' h => by obtain ⟨e, rfl⟩ := h; rw [← e]; exact kk)
  · exact v_runi (r_U F (x := ⟨"TakerBook$Thief", "price", "(II)I"⟩) (C := "TakerBook$Young") (c_Yo_price X.2.1 u hA σ 26 "TakerBook$Young" rc_26 a b) mo_Yo_price st_B_128_Yo ⟨by decide, by decide⟩ rc_26 (by omega) rfl hw hdg) (fun r σ' h => by obtain ⟨e, rfl⟩ := h; rw [← e]; exact kk)
  · exfalso
    omega
theorem vs_B_131 {X : FX} {u : Un} (hA : Ap u) {cc : ByteArray} {d nL : Nat} {Q : State → Prop} {pc : Nat} {ls : List (Nat × Value)} {st : List Value} {σ : St} (F : Fr X u "TakerBook$Band" cc nL) {k : Nat} (hk : k < 6) {b f c o : Int32} (hd : 4 ≤ d) (hw : (st.map fun v => v.category).sum ≤ 8) (hdg : decode cc pc = .ok (.invokevirtual 131, 3)) (kk : V X u d nL Q (pc + 3) ls (.int (bI (talkB k b f c o = true)) :: st) σ) : V X u d nL Q pc ls (.int o :: .int c :: .int f :: .int b :: .ref (u.2.1 (21 + k)) :: st) σ := by
  rcases k with _ | _ | _ | _ | _ | _ | k
  · exact v_runi (r_U F (x := ⟨"TakerBook$Thief", "talks", "(IIII)Z"⟩) (C := "TakerBook$Thief") (c_Th_talks X.2.1 u hA σ 21 "TakerBook$Thief" rc_21 b f c o) mo_Th_talks st_B_131_Th ⟨by decide, by decide⟩ rc_21 (by omega) rfl hw hdg) (fun r σ' h => by obtain ⟨e, rfl⟩ := h; rw [← e]; exact kk)
  · exact v_runi (r_U F (x := ⟨"TakerBook$Thief", "talks", "(IIII)Z"⟩) (C := "TakerBook$Returned") (c_Re_talks X.2.1 u hA σ 22 "TakerBook$Returned" rc_22 b f c o) mo_Re_talks st_B_131_Re ⟨by decide, by decide⟩ rc_22 (by omega) rfl hw hdg) (fun r σ' h => by obtain ⟨e, rfl⟩ := h; rw [← e]; exact kk)
  · exact v_runi (r_U F (x := ⟨"TakerBook$Thief", "talks", "(IIII)Z"⟩) (C := "TakerBook$Clerk") (c_Cl_talks X.2.1 u hA σ 23 "TakerBook$Clerk" rc_23 b f c o) mo_Cl_talks st_B_131_Cl ⟨by decide, by decide⟩ rc_23 (by omega) rfl hw hdg) (fun r σ' h => by obtain ⟨e, rfl⟩ := h; rw [← e]; exact kk)
  · exact v_runi (r_U F (x := ⟨"TakerBook$Thief", "talks", "(IIII)Z"⟩) (C := "TakerBook$Gang") (c_Ga_talks X.2.1 u hA σ 24 "TakerBook$Gang" rc_24 b f c o) mo_Ga_talks st_B_131_Ga ⟨by decide, by decide⟩ rc_24 (by omega) rfl hw hdg) (fun r σ' h => by obtain ⟨e, rfl⟩ := h; rw [← e]; exact kk)
  · exact v_runi (r_U F (x := ⟨"TakerBook$Thief", "talks", "(IIII)Z"⟩) (C := "TakerBook$Lace") (c_La_talks X.2.1 u hA σ 25 "TakerBook$Lace" rc_25 b f c o) mo_La_talks st_B_131_La ⟨by decide, by decide⟩ rc_25 (by omega) rfl hw hdg) (fun r σ' h => by obtain ⟨e, rfl⟩ := h; rw [← e]; exact kk)
  · exact v_runi (r_U F (x := ⟨"TakerBook$Thief", "talks", "(IIII)Z"⟩) (C := "TakerBook$Young") (c_Yo_talks X.2.1 u hA σ 26 "TakerBook$Young" rc_26 b f c o) mo_Yo_talks st_B_131_Yo ⟨by decide, by decide⟩ rc_26 (by omega) rfl hw hdg) (fun r σ' h => by obtain ⟨e, rfl⟩ := h; rw [← e]; exact kk)
  · exfalso
    omega
