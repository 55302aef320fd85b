/-! PART 26: the methods that the constructor of the class reaches. -/
def tm_0 : pe_Mt := (⟨"LinkedTongue", "<init>", "()V"⟩, prog_1_method_1_code, 2, (Option.none : Option Jvm.ClassFile.FieldType), [], 37, [
    (0, [.inl (.aload_n 0), .inr (.inr (.inr (.inr (.inr (.inr (.inr (.inr (.inr (.inr (.inr (.inr (.inr (.inr (.inl (1, [38, 39, 40]))))))))))))))), .inl (.aload_n 0), .inl (.sipush (256)), .inl (.newarray .byte), .inr (.inr (.inr (.inr (.inl (7, 10, 0, 2, none, 809))))), .inl (.aload_n 0), .inr (.inr (.inr (.inr (.inr (.inr (.inr (.inr (.inr (.inr (.inr (.inr (.inl (13, 9, [41, 42, 2]))))))))))))), .inl .dup, .inl (.sipush (1024)), .inr (.inr (.inr (.inr (.inr (.inr (.inr (.inr (.inr (.inr (.inr (.inr (.inr (.inr (.inr (.inl (.inl (false, 15, 0))))))))))))))))), .inr (.inr (.inr (.inr (.inr (.inr (.inr (.inl (17, 1, 2, [44, 45, 2])))))))), .inr (.inr (.inr (.inr (.inl (20, 10, 2, 2, none, 811))))), .inl (.aload_n 0), .inr (.inr (.inr (.inr (.inr (.inr (.inr (.inr (.inr (.inr (.inr (.inr (.inl (24, 6, [220, 221, 10]))))))))))))), .inl .dup, .inr (.inr (.inr (.inr (.inr (.inr (.inr (.inl (26, 2, 0, [222, 223, 10])))))))), .inr (.inr (.inr (.inr (.inl (27, 10, 3, 2, none, 812))))), .inl (.aload_n 0), .inr (.inr (.inr (.inr (.inr (.inr (.inr (.inr (.inr (.inr (.inr (.inr (.inl (31, 0, [263, 264, 11]))))))))))))), .inl .dup, .inr (.inr (.inr (.inr (.inr (.inr (.inr (.inl (33, 3, 0, [265, 266, 11])))))))), .inr (.inr (.inr (.inr (.inl (34, 10, 4, 2, none, 813))))), .inl (.aload_n 0), .inr (.inr (.inr (.inr (.inr (.inr (.inr (.inr (.inr (.inr (.inr (.inr (.inl (38, 4, [350, 351, 12]))))))))))))), .inl .dup, .inl (.aload_n 0), .inr (.inl (27, 10, 3, none, 812)), .inr (.inr (.inr (.inr (.inr (.inr (.inr (.inl (40, 4, 1, [352, 353, 12])))))))), .inr (.inr (.inr (.inr (.inl (43, 10, 5, 2, none, 814))))), .inl (.aload_n 0), .inr (.inr (.inr (.inr (.inr (.inr (.inr (.inr (.inr (.inr (.inr (.inr (.inl (47, 1, [372, 373, 13]))))))))))))), .inl .dup, .inl (.aload_n 0), .inr (.inl (27, 10, 3, none, 812)), .inl (.aload_n 0), .inr (.inl (20, 10, 2, none, 811)), .inl (.aload_n 0), .inr (.inl (34, 10, 4, none, 813)), .inr (.inr (.inr (.inr (.inr (.inr (.inr (.inl (49, 5, 3, [374, 375, 13])))))))), .inr (.inr (.inr (.inr (.inl (52, 10, 6, 2, none, 815))))), .inl (.aload_n 0), .inr (.inr (.inr (.inr (.inr (.inr (.inr (.inr (.inr (.inr (.inr (.inr (.inl (56, 2, [434, 435, 14]))))))))))))), .inl .dup, .inl (.aload_n 0), .inr (.inl (20, 10, 2, none, 811)), .inr (.inr (.inr (.inr (.inr (.inr (.inr (.inl (58, 6, 1, [436, 437, 14])))))))), .inr (.inr (.inr (.inr (.inl (61, 10, 7, 2, none, 816))))), .inl (.aload_n 0), .inr (.inr (.inr (.inr (.inr (.inr (.inr (.inr (.inr (.inr (.inr (.inr (.inl (65, 5, [657, 658, 17]))))))))))))), .inl .dup, .inl (.aload_n 0), .inr (.inl (61, 10, 7, none, 816)), .inl (.aload_n 0), .inr (.inl (34, 10, 4, none, 813)), .inr (.inr (.inr (.inr (.inr (.inr (.inr (.inl (67, 7, 2, [659, 660, 17])))))))), .inr (.inr (.inr (.inr (.inl (70, 10, 8, 2, none, 817))))), .inl (.aload_n 0), .inl (.iconst (2)), .inr (.inr (.inr (.inr (.inr (.inr (.inr (.inr (.inr (.inr (.inr (.inr (.inr (.inl (74, 14, [734, 735])))))))))))))), .inr (.inr (.inr (.inr (.inl (76, 10, 9, 2, none, 818))))), .inl (.aload_n 0), .inr (.inr (.inr (.inr (.inr (.inr (.inr (.inr (.inr (.inr (.inr (.inr (.inl (80, 3, [736, 441, 15]))))))))))))), .inl .dup, .inr (.inr (.inr (.inr (.inr (.inr (.inr (.inl (82, 8, 0, [737, 443, 15])))))))), .inr (.inr (.inr (.inr (.inl (83, 10, 10, 2, none, 819))))), .inl (.iconst (0)), .inl (.istore_n 1), .inr (.inr (.inr (.inr (.inr (.inr (.inr (.inr (.inl 1))))))))]),
    (144, [.inl (.iload_n 1), .inl (.iconst (2)), .inr (.inr (.inl ((.if_icmp .ge (34)), 2))), .inl (.aload_n 0), .inr (.inl (76, 10, 9, none, 818)), .inl (.iload_n 1), .inr (.inr (.inr (.inr (.inr (.inr (.inr (.inr (.inr (.inr (.inr (.inr (.inl (74, 8, [734, 738, 18]))))))))))))), .inl .dup, .inl (.aload_n 0), .inr (.inl (61, 10, 7, none, 816)), .inl (.aload_n 0), .inr (.inl (34, 10, 4, none, 813)), .inl (.aload_n 0), .inr (.inl (70, 10, 8, none, 817)), .inr (.inr (.inr (.inr (.inr (.inr (.inr (.inl (87, 9, 3, [739, 740, 18])))))))), .inl .aastore, .inl (.iinc 1 (1)), .inr (.inr (.inl ((.goto (-33)), 1)))]),
    (180, [.inr (.inr (.inr (.inr (.inr (.inr (.inr (.inr (.inr (.inl .return_)))))))))])])
def tm_1 : pe_Mt := (⟨"LinkedTongue$Words", "<init>", "(ILjava/lang/String;)V"⟩, prog_11_method_1_code, 3, (Option.none : Option Jvm.ClassFile.FieldType), [], 46, [
    (0, [.inl (.aload_n 0), .inr (.inr (.inr (.inr (.inr (.inr (.inr (.inr (.inr (.inr (.inr (.inr (.inr (.inr (.inl (3, [47, 39, 40]))))))))))))))), .inl (.aload_n 0), .inl (.sipush (1024)), .inl (.newarray .byte), .inr (.inr (.inr (.inr (.inl (9, 9, 0, 2, none, 148))))), .inl (.aload_n 0), .inl (.bipush (64)), .inl (.newarray .int), .inr (.inr (.inr (.inr (.inl (15, 9, 2, 2, none, 156))))), .inl (.aload_n 0), .inl (.bipush (64)), .inl (.newarray .int), .inr (.inr (.inr (.inr (.inl (19, 9, 3, 2, none, 161))))), .inl (.aload_n 0), .inl (.bipush (64)), .inl (.newarray .int), .inr (.inr (.inr (.inr (.inl (22, 9, 4, 2, none, 166))))), .inl (.aload_n 0), .inl (.bipush (64)), .inl (.newarray .int), .inr (.inr (.inr (.inr (.inl (25, 9, 5, 2, none, 167))))), .inl (.aload_n 0), .inl (.bipush (64)), .inl (.newarray .int), .inr (.inr (.inr (.inr (.inl (28, 9, 6, 2, none, 169))))), .inl (.aload_n 0), .inl (.bipush (64)), .inl (.newarray .int), .inr (.inr (.inr (.inr (.inl (31, 9, 9, 2, none, 172))))), .inl (.aload_n 0), .inl (.bipush (64)), .inl (.newarray .int), .inr (.inr (.inr (.inr (.inl (34, 9, 11, 2, none, 178))))), .inl (.aload_n 0), .inl (.iconst (4)), .inl (.newarray .int), .inr (.inr (.inr (.inr (.inl (37, 9, 13, 2, none, 182))))), .inl (.aload_n 0), .inl (.iload_n 1), .inl (.newarray .int), .inr (.inr (.inr (.inr (.inl (40, 9, 8, 2, none, 171))))), .inl (.aload_n 0), .inl (.aload_n 2), .inr (.inr (.inr (.inr (.inr (.inl (43, 10, 1, 9, [48, 50, 2, 0, 1])))))), .inl (.aload_n 0), .inl (.aload_n 0), .inr (.inl (47, 9, 7, none, 170)), .inr (.inr (.inr (.inr (.inl (51, 9, 14, 0, none, 183))))), .inl (.aload_n 0), .inl (.aload_n 0), .inr (.inl (54, 9, 1, none, 154)), .inr (.inr (.inr (.inr (.inl (57, 9, 15, 0, none, 184))))), .inr (.inr (.inr (.inr (.inr (.inr (.inr (.inr (.inr (.inl .return_)))))))))])])
def tm_2 : pe_Mt := (⟨"LinkedTongue$Reader", "<init>", "()V"⟩, prog_8_method_1_code, 1, (Option.none : Option Jvm.ClassFile.FieldType), [], 224, [
    (0, [.inl (.aload_n 0), .inr (.inr (.inr (.inr (.inr (.inr (.inr (.inr (.inr (.inr (.inr (.inr (.inr (.inr (.inl (3, [225, 39, 40]))))))))))))))), .inl (.aload_n 0), .inl (.bipush (64)), .inl (.newarray .byte), .inr (.inr (.inr (.inr (.inl (9, 6, 0, 2, none, 226))))), .inl (.aload_n 0), .inl (.bipush (64)), .inl (.newarray .int), .inr (.inr (.inr (.inr (.inl (15, 6, 1, 2, none, 227))))), .inl (.aload_n 0), .inl (.bipush (64)), .inl (.newarray .int), .inr (.inr (.inr (.inr (.inl (19, 6, 2, 2, none, 230))))), .inl (.aload_n 0), .inl (.bipush (60)), .inl (.newarray .byte), .inr (.inr (.inr (.inr (.inl (22, 6, 9, 2, none, 241))))), .inr (.inr (.inr (.inr (.inr (.inr (.inr (.inr (.inr (.inl .return_)))))))))])])
def tm_3 : pe_Mt := (⟨"LinkedTongue$Code", "<init>", "()V"⟩, prog_2_method_1_code, 1, (Option.none : Option Jvm.ClassFile.FieldType), [], 267, [
    (0, [.inl (.aload_n 0), .inr (.inr (.inr (.inr (.inr (.inr (.inr (.inr (.inr (.inr (.inr (.inr (.inr (.inr (.inl (3, [268, 39, 40]))))))))))))))), .inl (.aload_n 0), .inl (.bipush (9)), .inl (.sipush (400)), .inr (.inr (.inr (.inr (.inr (.inr (.inr (.inr (.inr (.inr (.inr (.inr (.inr (.inr (.inr (.inl (.inr (.inr (.inr (.inr (.inr ((9, [269, 270, 219])))))))))))))))))))))), .inr (.inr (.inr (.inr (.inl (11, 0, 0, 2, none, 271))))), .inl (.aload_n 0), .inl (.bipush (16)), .inl (.newarray .int), .inr (.inr (.inr (.inr (.inl (16, 0, 2, 2, none, 278))))), .inl (.aload_n 0), .inl (.sipush (256)), .inl (.newarray .int), .inr (.inr (.inr (.inr (.inl (20, 0, 4, 2, none, 284))))), .inl (.aload_n 0), .inl (.sipush (256)), .inl (.newarray .int), .inr (.inr (.inr (.inr (.inl (23, 0, 5, 2, none, 288))))), .inl (.aload_n 0), .inl (.sipush (256)), .inl (.newarray .int), .inr (.inr (.inr (.inr (.inl (26, 0, 6, 2, none, 292))))), .inl (.aload_n 0), .inl (.bipush (12)), .inl (.bipush (64)), .inr (.inr (.inr (.inr (.inr (.inr (.inr (.inr (.inr (.inr (.inr (.inr (.inr (.inr (.inr (.inl (.inr (.inr (.inr (.inr (.inr ((9, [269, 270, 219])))))))))))))))))))))), .inr (.inr (.inr (.inr (.inl (29, 0, 8, 2, none, 300))))), .inl (.aload_n 0), .inl (.bipush (10)), .inl (.bipush (64)), .inr (.inr (.inr (.inr (.inr (.inr (.inr (.inr (.inr (.inr (.inr (.inr (.inr (.inr (.inr (.inl (.inr (.inr (.inr (.inr (.inr ((9, [269, 270, 219])))))))))))))))))))))), .inr (.inr (.inr (.inr (.inl (32, 0, 10, 2, none, 306))))), .inl (.aload_n 0), .inl (.iconst (-1)), .inr (.inr (.inr (.inr (.inl (35, 0, 12, 0, none, 309))))), .inl (.aload_n 0), .inl (.bipush (64)), .inl (.newarray .int), .inr (.inr (.inr (.inr (.inl (39, 0, 13, 2, none, 310))))), .inl (.aload_n 0), .inl (.bipush (64)), .inl (.newarray .int), .inr (.inr (.inr (.inr (.inl (42, 0, 14, 2, none, 311))))), .inl (.aload_n 0), .inl (.sipush (256)), .inl (.newarray .int), .inr (.inr (.inr (.inr (.inl (45, 0, 15, 2, none, 312))))), .inr (.inr (.inr (.inr (.inr (.inr (.inr (.inr (.inr (.inl .return_)))))))))])])
def tm_4 : pe_Mt := (⟨"LinkedTongue$HostReader", "<init>", "(LLinkedTongue$Reader;)V"⟩, prog_6_method_1_code, 2, (Option.none : Option Jvm.ClassFile.FieldType), [], 354, [
    (0, [.inl (.aload_n 0), .inr (.inr (.inr (.inr (.inr (.inr (.inr (.inr (.inr (.inr (.inr (.inr (.inr (.inr (.inl (3, [355, 39, 40]))))))))))))))), .inl (.aload_n 0), .inl (.bipush (60)), .inl (.newarray .int), .inr (.inr (.inr (.inr (.inl (9, 4, 3, 2, none, 359))))), .inl (.aload_n 0), .inl (.aload_n 1), .inr (.inr (.inr (.inr (.inl (15, 4, 0, 2, none, 356))))), .inr (.inr (.inr (.inr (.inr (.inr (.inr (.inr (.inr (.inl .return_)))))))))])])
def tm_5 : pe_Mt := (⟨"LinkedTongue$Compiler", "<init>", "(LLinkedTongue$Reader;LLinkedTongue$Words;LLinkedTongue$Code;)V"⟩, prog_3_method_1_code, 4, (Option.none : Option Jvm.ClassFile.FieldType), [], 376, [
    (0, [.inl (.aload_n 0), .inr (.inr (.inr (.inr (.inr (.inr (.inr (.inr (.inr (.inr (.inr (.inr (.inr (.inr (.inl (3, [377, 39, 40]))))))))))))))), .inl (.aload_n 0), .inl (.sipush (256)), .inl (.newarray .int), .inr (.inr (.inr (.inr (.inl (9, 1, 3, 2, none, 382))))), .inl (.aload_n 0), .inl (.sipush (256)), .inl (.newarray .int), .inr (.inr (.inr (.inr (.inl (15, 1, 4, 2, none, 383))))), .inl (.aload_n 0), .inl (.sipush (256)), .inl (.newarray .int), .inr (.inr (.inr (.inr (.inl (18, 1, 5, 2, none, 384))))), .inl (.aload_n 0), .inl (.sipush (256)), .inl (.newarray .int), .inr (.inr (.inr (.inr (.inl (21, 1, 6, 2, none, 385))))), .inl (.aload_n 0), .inl (.iconst (2)), .inl (.bipush (64)), .inr (.inr (.inr (.inr (.inr (.inr (.inr (.inr (.inr (.inr (.inr (.inr (.inr (.inr (.inr (.inl (.inr (.inr (.inr (.inr (.inr ((24, [378, 270, 219])))))))))))))))))))))), .inr (.inr (.inr (.inr (.inl (26, 1, 12, 2, none, 391))))), .inl (.aload_n 0), .inl (.sipush (1024)), .inl (.newarray .int), .inr (.inr (.inr (.inr (.inl (29, 1, 14, 2, none, 393))))), .inl (.aload_n 0), .inl (.aload_n 1), .inr (.inr (.inr (.inr (.inl (32, 1, 0, 2, none, 379))))), .inl (.aload_n 0), .inl (.aload_n 2), .inr (.inr (.inr (.inr (.inl (36, 1, 1, 2, none, 380))))), .inl (.aload_n 0), .inl (.aload_n 3), .inr (.inr (.inr (.inr (.inl (40, 1, 2, 2, none, 381))))), .inl (.aload_n 0), .inl (.aload_n 3), .inr (.inl (44, 0, 0, none, 272)), .inr (.inr (.inr (.inr (.inl (49, 1, 9, 2, none, 388))))), .inr (.inr (.inr (.inr (.inr (.inr (.inr (.inr (.inr (.inl .return_)))))))))])])
def tm_6 : pe_Mt := (⟨"LinkedTongue$Heap", "<init>", "(LLinkedTongue$Words;)V"⟩, prog_4_method_1_code, 2, (Option.none : Option Jvm.ClassFile.FieldType), [], 438, [
    (0, [.inl (.aload_n 0), .inr (.inr (.inr (.inr (.inr (.inr (.inr (.inr (.inr (.inr (.inr (.inr (.inr (.inr (.inl (3, [439, 39, 40]))))))))))))))), .inl (.aload_n 0), .inr (.inr (.inr (.inr (.inr (.inr (.inr (.inr (.inr (.inr (.inr (.inr (.inl (9, 3, [440, 441, 15]))))))))))))), .inl .dup, .inr (.inr (.inr (.inr (.inr (.inr (.inr (.inl (11, 8, 0, [442, 443, 15])))))))), .inr (.inr (.inr (.inr (.inl (12, 2, 1, 2, none, 574))))), .inl (.aload_n 0), .inl (.bipush (10)), .inl (.bipush (64)), .inr (.inr (.inr (.inr (.inr (.inr (.inr (.inr (.inr (.inr (.inr (.inr (.inr (.inr (.inr (.inl (.inr (.inr (.inr (.inr (.inr ((18, [560, 270, 219])))))))))))))))))))))), .inr (.inr (.inr (.inr (.inl (20, 2, 2, 2, none, 578))))), .inl (.aload_n 0), .inl (.iconst (2)), .inl (.bipush (64)), .inr (.inr (.inr (.inr (.inr (.inr (.inr (.inr (.inr (.inr (.inr (.inr (.inr (.inr (.inr (.inl (.inr (.inr (.inr (.inr (.inr ((18, [560, 270, 219])))))))))))))))))))))), .inr (.inr (.inr (.inr (.inl (23, 2, 4, 2, none, 585))))), .inl (.aload_n 0), .inr (.inr (.inr (.inr (.inr (.inr (.inr (.inr (.inr (.inr (.inr (.inr (.inl (26, 7, [561, 451, 16]))))))))))))), .inl .dup, .inl (.sipush (256)), .inr (.inr (.inr (.inr (.inr (.inr (.inr (.inl (28, 11, 1, [562, 453, 16])))))))), .inr (.inr (.inr (.inr (.inl (31, 2, 6, 2, none, 589))))), .inl (.aload_n 0), .inl (.iconst (5)), .inl (.bipush (64)), .inr (.inr (.inr (.inr (.inr (.inr (.inr (.inr (.inr (.inr (.inr (.inr (.inr (.inr (.inr (.inl (.inr (.inr (.inr (.inr (.inr ((18, [560, 270, 219])))))))))))))))))))))), .inr (.inr (.inr (.inr (.inl (35, 2, 7, 2, none, 593))))), .inl (.aload_n 0), .inl (.sipush (1024)), .inl (.newarray .int), .inr (.inr (.inr (.inr (.inl (38, 2, 9, 2, none, 597))))), .inl (.aload_n 0), .inr (.inr (.inr (.inr (.inr (.inr (.inr (.inr (.inr (.inr (.inr (.inr (.inr (.inr (.inr (.inl (.inr (.inr (.inr (.inr (.inl (42, 1, (some "LinkedTongue"), 563))))))))))))))))))))), .inl .arraylength, .inl (.newarray .int), .inr (.inr (.inr (.inr (.inl (45, 2, 10, 2, none, 598))))), .inl (.aload_n 0), .inl (.sipush (256)), .inl (.newarray .byte), .inr (.inr (.inr (.inr (.inl (48, 2, 12, 2, none, 601))))), .inl (.aload_n 0), .inl (.sipush (256)), .inl (.newarray .int), .inr (.inr (.inr (.inr (.inl (52, 2, 14, 2, none, 605))))), .inl (.aload_n 0), .inr (.inr (.inr (.inr (.inr (.inr (.inr (.inr (.inr (.inr (.inr (.inr (.inl (26, 7, [561, 451, 16]))))))))))))), .inl .dup, .inl (.bipush (64)), .inr (.inr (.inr (.inr (.inr (.inr (.inr (.inl (28, 11, 1, [562, 453, 16])))))))), .inr (.inr (.inr (.inr (.inl (55, 2, 16, 2, none, 610))))), .inl (.aload_n 0), .inl (.bipush (65)), .inl (.newarray .int), .inr (.inr (.inr (.inr (.inl (58, 2, 17, 2, none, 613))))), .inl (.aload_n 0), .inl (.bipush (64)), .inl (.newarray .byte), .inr (.inr (.inr (.inr (.inl (61, 2, 18, 2, none, 614))))), .inl (.aload_n 0), .inl (.aload_n 1), .inr (.inr (.inr (.inr (.inl (64, 2, 0, 2, none, 571))))), .inl (.aload_n 0), .inl (.iconst (-1)), .inl (.iconst (-1)), .inl (.iconst (-1)), .inr (.inr (.inr (.inr (.inr (.inl (68, 12, 3, 2, [564, 566, 14, 3, 1])))))), .inl .pop, .inr (.inr (.inr (.inr (.inr (.inr (.inr (.inr (.inr (.inl .return_)))))))))])])
def tm_7 : pe_Mt := (⟨"LinkedTongue$Linker", "<init>", "(LLinkedTongue$Heap;LLinkedTongue$Code;)V"⟩, prog_7_method_1_code, 3, (Option.none : Option Jvm.ClassFile.FieldType), [], 661, [
    (0, [.inl (.aload_n 0), .inr (.inr (.inr (.inr (.inr (.inr (.inr (.inr (.inr (.inr (.inr (.inr (.inr (.inr (.inl (3, [662, 39, 40]))))))))))))))), .inl (.aload_n 0), .inl (.bipush (64)), .inl (.newarray .byte), .inr (.inr (.inr (.inr (.inl (9, 5, 15, 2, none, 686))))), .inl (.aload_n 0), .inl (.iconst (4)), .inl (.newarray .int), .inr (.inr (.inr (.inr (.inl (15, 5, 18, 2, none, 689))))), .inl (.aload_n 0), .inl (.aload_n 1), .inr (.inr (.inr (.inr (.inl (19, 5, 0, 2, none, 671))))), .inl (.aload_n 0), .inl (.aload_n 2), .inr (.inr (.inr (.inr (.inl (23, 5, 1, 2, none, 672))))), .inl (.aload_n 0), .inl (.aload_n 2), .inr (.inl (27, 0, 8, none, 299)), .inr (.inr (.inr (.inr (.inl (33, 5, 2, 2, none, 673))))), .inl (.aload_n 0), .inl (.aload_n 2), .inr (.inl (34, 0, 10, none, 305)), .inr (.inr (.inr (.inr (.inl (37, 5, 3, 2, none, 674))))), .inl (.aload_n 0), .inl (.aload_n 2), .inr (.inr (.inr (.inr (.inr (.inl (38, 13, 0, 0, [663, 664, 11, 665, 0])))))), .inr (.inr (.inr (.inr (.inl (42, 5, 14, 0, none, 685))))), .inr (.inr (.inr (.inr (.inr (.inr (.inr (.inr (.inr (.inl .return_)))))))))])])
def tm_8 : pe_Mt := (⟨"LinkedTongue$Host", "<init>", "()V"⟩, prog_5_method_1_code, 1, (Option.none : Option Jvm.ClassFile.FieldType), [], 444, [
    (0, [.inl (.aload_n 0), .inr (.inr (.inr (.inr (.inr (.inr (.inr (.inr (.inr (.inr (.inr (.inr (.inr (.inr (.inl (3, [445, 39, 40]))))))))))))))), .inl (.aload_n 0), .inr (.inr (.inr (.inr (.inr (.inr (.inr (.inr (.inr (.inr (.inr (.inr (.inl (9, 9, [446, 42, 2]))))))))))))), .inl .dup, .inl (.bipush (64)), .inr (.inr (.inr (.inr (.inr (.inr (.inr (.inr (.inr (.inr (.inr (.inr (.inr (.inr (.inr (.inl (.inl (false, 11, 2))))))))))))))))), .inr (.inr (.inr (.inr (.inr (.inr (.inr (.inl (13, 1, 2, [448, 45, 2])))))))), .inr (.inr (.inr (.inr (.inl (16, 3, 0, 2, none, 482))))), .inl (.aload_n 0), .inl (.bipush (9)), .inl (.bipush (60)), .inr (.inr (.inr (.inr (.inr (.inr (.inr (.inr (.inr (.inr (.inr (.inr (.inr (.inr (.inr (.inl (.inr (.inr (.inr (.inr (.inr ((22, [449, 270, 219])))))))))))))))))))))), .inr (.inr (.inr (.inr (.inl (24, 3, 1, 2, none, 487))))), .inl (.aload_n 0), .inl (.bipush (17)), .inl (.sipush (400)), .inr (.inr (.inr (.inr (.inr (.inr (.inr (.inr (.inr (.inr (.inr (.inr (.inr (.inr (.inr (.inl (.inr (.inr (.inr (.inr (.inr ((22, [449, 270, 219])))))))))))))))))))))), .inr (.inr (.inr (.inr (.inl (27, 3, 3, 2, none, 495))))), .inl (.aload_n 0), .inl (.sipush (3600)), .inl (.newarray .int), .inr (.inr (.inr (.inr (.inl (30, 3, 5, 2, none, 502))))), .inl (.aload_n 0), .inl (.bipush (60)), .inl (.newarray .long), .inr (.inr (.inr (.inr (.inl (34, 3, 6, 2, none, 503))))), .inl (.aload_n 0), .inr (.inr (.inr (.inr (.inr (.inr (.inr (.inr (.inr (.inr (.inr (.inr (.inl (38, 7, [450, 451, 16]))))))))))))), .inl .dup, .inl (.bipush (16)), .inr (.inr (.inr (.inr (.inr (.inr (.inr (.inl (40, 11, 1, [452, 453, 16])))))))), .inr (.inr (.inr (.inr (.inl (43, 3, 7, 2, none, 504))))), .inl (.aload_n 0), .inl (.bipush (30)), .inl (.newarray .byte), .inr (.inr (.inr (.inr (.inl (47, 3, 8, 2, none, 506))))), .inl (.aload_n 0), .inl (.bipush (64)), .inl (.newarray .int), .inr (.inr (.inr (.inr (.inl (51, 3, 9, 2, none, 507))))), .inl (.aload_n 0), .inl (.bipush (64)), .inl (.newarray .int), .inr (.inr (.inr (.inr (.inl (54, 3, 11, 2, none, 509))))), .inl (.aload_n 0), .inl (.bipush (64)), .inl (.newarray .long), .inr (.inr (.inr (.inr (.inl (57, 3, 12, 2, none, 510))))), .inl (.aload_n 0), .inl (.bipush (64)), .inl (.newarray .int), .inr (.inr (.inr (.inr (.inl (60, 3, 13, 2, none, 511))))), .inl (.aload_n 0), .inl (.bipush (64)), .inl (.newarray .int), .inr (.inr (.inr (.inr (.inl (63, 3, 14, 2, none, 512))))), .inl (.aload_n 0), .inl (.sipush (128)), .inl (.newarray .int), .inr (.inr (.inr (.inr (.inl (66, 3, 15, 2, none, 513))))), .inl (.aload_n 0), .inr (.inr (.inr (.inr (.inr (.inr (.inr (.inr (.inr (.inr (.inr (.inr (.inr (.inr (.inr (.inl (.inr (.inr (.inr (.inr (.inl (69, 1, (some "LinkedTongue"), 480))))))))))))))))))))), .inl (.iconst (5)), .inl .iaload, .inr (.inr (.inr (.inr (.inl (72, 3, 17, 0, none, 517))))), .inr (.inr (.inr (.inr (.inr (.inr (.inr (.inr (.inr (.inl .return_)))))))))])])
def tm_9 : pe_Mt := (⟨"LinkedTongue$Task", "<init>", "(LLinkedTongue$Heap;LLinkedTongue$Code;LLinkedTongue$Linker;)V"⟩, prog_10_method_1_code, 4, (Option.none : Option Jvm.ClassFile.FieldType), [], 741, [
    (0, [.inl (.aload_n 0), .inr (.inr (.inr (.inr (.inr (.inr (.inr (.inr (.inr (.inr (.inr (.inr (.inr (.inr (.inl (3, [742, 39, 40]))))))))))))))), .inl (.aload_n 0), .inr (.inr (.inr (.inr (.inr (.inr (.inr (.inr (.inr (.inr (.inr (.inr (.inl (9, 7, [743, 451, 16]))))))))))))), .inl .dup, .inl (.bipush (64)), .inr (.inr (.inr (.inr (.inr (.inr (.inr (.inl (11, 11, 1, [744, 453, 16])))))))), .inr (.inr (.inr (.inr (.inl (14, 8, 3, 2, none, 748))))), .inl (.aload_n 0), .inl (.sipush (200)), .inl (.newarray .int), .inr (.inr (.inr (.inr (.inl (20, 8, 5, 2, none, 754))))), .inl (.aload_n 0), .inl (.sipush (200)), .inl (.newarray .int), .inr (.inr (.inr (.inr (.inl (24, 8, 6, 2, none, 756))))), .inl (.aload_n 0), .inl (.sipush (200)), .inl (.newarray .int), .inr (.inr (.inr (.inr (.inl (27, 8, 7, 2, none, 759))))), .inl (.aload_n 0), .inl (.sipush (200)), .inl (.newarray .byte), .inr (.inr (.inr (.inr (.inl (30, 8, 8, 2, none, 760))))), .inl (.aload_n 0), .inl (.sipush (200)), .inl (.newarray .long), .inr (.inr (.inr (.inr (.inl (34, 8, 9, 2, none, 761))))), .inl (.aload_n 0), .inl (.sipush (200)), .inl (.newarray .boolean), .inr (.inr (.inr (.inr (.inl (38, 8, 10, 2, none, 762))))), .inl (.aload_n 0), .inl (.bipush (48)), .inl (.newarray .int), .inr (.inr (.inr (.inr (.inl (42, 8, 11, 2, none, 763))))), .inl (.aload_n 0), .inl (.iconst (0)), .inr (.inr (.inr (.inr (.inl (45, 8, 13, 0, none, 765))))), .inl (.aload_n 0), .inl (.aload_n 1), .inr (.inr (.inr (.inr (.inl (49, 8, 0, 2, none, 745))))), .inl (.aload_n 0), .inl (.aload_n 2), .inr (.inr (.inr (.inr (.inl (53, 8, 1, 2, none, 746))))), .inl (.aload_n 0), .inl (.aload_n 3), .inr (.inr (.inr (.inr (.inl (57, 8, 2, 2, none, 747))))), .inr (.inr (.inr (.inr (.inr (.inr (.inr (.inr (.inr (.inl .return_)))))))))])])
def tm_10 : pe_Mt := (⟨"LinkedTongue$Words", "addAll", "(Ljava/lang/String;)V"⟩, prog_11_method_4_code, 6, (Option.none : Option Jvm.ClassFile.FieldType), [], 51, [
    (0, [.inl (.aload_n 1), .inr (.inr (.inr (.inr (.inr (.inr (.inr (.inr (.inr (.inr (.inr (.inr (.inr (.inr (.inr (.inl (.inr (.inr (.inr (.inl (81, [52])))))))))))))))))))), .inl (.istore_n 2), .inl (.iload_n 2), .inl (.newarray .byte), .inl (.astore_n 3), .inl (.iconst (0)), .inl (.istore 4), .inl (.iconst (0)), .inl (.istore 5), .inr (.inr (.inr (.inr (.inr (.inr (.inr (.inr (.inl 1))))))))]),
    (15, [.inl (.iload 5), .inl (.iload_n 2), .inr (.inr (.inl ((.if_icmp .ge (48)), 3))), .inl (.aload_n 3), .inl (.iload 5), .inl (.aload_n 1), .inl (.iload 5), .inr (.inr (.inr (.inr (.inr (.inr (.inr (.inr (.inr (.inr (.inr (.inr (.inr (.inr (.inr (.inl (.inr (.inl (87, [62])))))))))))))))))), .inl .i2b, .inl .bastore, .inl (.aload_n 3), .inl (.iload 5), .inl .baload, .inl (.bipush (32)), .inr (.inr (.inl ((.if_icmp .ne (22)), 2))), .inl (.aload_n 0), .inl (.aload_n 3), .inl (.iload 4), .inl (.iload 5), .inl (.iload 4), .inl .isub, .inr (.inr (.inr (.inr (.inr (.inl (91, 14, 3, 9, [100, 101, 2, 102, 0])))))), .inl .pop, .inl (.iload 5), .inl (.iconst (1)), .inl .iadd, .inl (.istore 4), .inr (.inr (.inr (.inr (.inr (.inr (.inr (.inr (.inl 2))))))))]),
    (60, [.inl (.iinc 5 (1)), .inr (.inr (.inl ((.goto (-48)), 1)))]),
    (66, [.inl (.aload_n 0), .inl (.aload_n 3), .inl (.iload 4), .inl (.iload_n 2), .inl (.iload 4), .inl .isub, .inr (.inr (.inr (.inr (.inr (.inl (91, 14, 3, 9, [100, 101, 2, 102, 0])))))), .inl .pop, .inr (.inr (.inr (.inr (.inr (.inr (.inr (.inr (.inr (.inl .return_)))))))))])])
def tm_11 : pe_Mt := (⟨"LinkedTongue$Row", "<init>", "(I)V"⟩, prog_9_method_1_code, 2, (Option.none : Option Jvm.ClassFile.FieldType), [], 454, [
    (0, [.inl (.aload_n 0), .inr (.inr (.inr (.inr (.inr (.inr (.inr (.inr (.inr (.inr (.inr (.inr (.inr (.inr (.inl (1, [455, 39, 40]))))))))))))))), .inl (.aload_n 0), .inl (.iload_n 1), .inl (.newarray .byte), .inr (.inr (.inr (.inr (.inl (7, 7, 0, 2, none, 456))))), .inl (.aload_n 0), .inl (.iload_n 1), .inl (.newarray .long), .inr (.inr (.inr (.inr (.inl (13, 7, 1, 2, none, 461))))), .inr (.inr (.inr (.inr (.inr (.inr (.inr (.inr (.inr (.inl .return_)))))))))])])
def tm_12 : pe_Mt := (⟨"LinkedTongue$Heap", "addShape", "(III)I"⟩, prog_4_method_14_code, 6, (Option.some Jvm.ClassFile.FieldType.int), [], 567, [
    (0, [.inl (.aload_n 0), .inr (.inl (88, 2, 8, none, 595)), .inl (.istore 4), .inl (.aload_n 0), .inr (.inl (35, 2, 7, none, 593)), .inl (.iconst (0)), .inl .aaload, .inl (.iload 4), .inl (.iload_n 1), .inl .iastore, .inl (.aload_n 0), .inr (.inl (35, 2, 7, none, 593)), .inl (.iconst (2)), .inl .aaload, .inl (.iload 4), .inl (.iload_n 3), .inl .iastore, .inl (.aload_n 0), .inr (.inl (35, 2, 7, none, 593)), .inl (.iconst (3)), .inl .aaload, .inl (.iload 4), .inl (.iload_n 2), .inl .iastore, .inl (.aload_n 0), .inr (.inl (35, 2, 7, none, 593)), .inl (.iconst (1)), .inl .aaload, .inl (.iload 4), .inl (.iload_n 2), .inl (.iconst (-1)), .inr (.inr (.inl ((.if_icmp .ne (7)), 1))), .inl (.iconst (0)), .inr (.inr (.inl ((.goto (13)), 2)))]),
    (53, [.inl (.aload_n 0), .inr (.inl (35, 2, 7, none, 593)), .inl (.iconst (1)), .inl .aaload, .inl (.iload_n 2), .inl .iaload, .inl (.iconst (1)), .inl .iadd, .inr (.inr (.inr (.inr (.inr (.inr (.inr (.inr (.inl 2))))))))]),
    (63, [.inl .iastore, .inl (.iload_n 2), .inl (.iconst (-1)), .inr (.inr (.inl ((.if_icmp .eq (37)), 3))), .inl (.iload_n 2), .inl (.iload_n 3), .inr (.inr (.inr (.inr (.inr (.inr (.inl (148, 15, 2, [568, 569, 14]))))))), .inl (.istore 5), .inl (.aload_n 0), .inr (.inl (35, 2, 7, none, 593)), .inl (.iconst (4)), .inl .aaload, .inl (.iload 4), .inl (.aload_n 0), .inr (.inl (38, 2, 9, none, 597)), .inl (.iload 5), .inl .iaload, .inl .iastore, .inl (.aload_n 0), .inr (.inl (38, 2, 9, none, 597)), .inl (.iload 5), .inl (.iload 4), .inl (.iconst (1)), .inl .iadd, .inl .iastore, .inr (.inr (.inr (.inr (.inr (.inr (.inr (.inr (.inl 3))))))))]),
    (103, [.inl (.aload_n 0), .inl .dup, .inr (.inl (88, 2, 8, none, 595)), .inl (.iconst (1)), .inl .iadd, .inr (.inr (.inr (.inr (.inl (88, 2, 8, 0, none, 595))))), .inl (.iload 4), .inr (.inr (.inr (.inr (.inr (.inr (.inr (.inr (.inr (.inl .ireturn)))))))))])])
def tm_13 : pe_Mt := (⟨"LinkedTongue$Code", "takeEntry", "()I"⟩, prog_2_method_6_code, 2, (Option.some Jvm.ClassFile.FieldType.int), [], 666, [
    (0, [.inl (.aload_n 0), .inr (.inl (35, 0, 12, none, 309)), .inl (.istore_n 1), .inl (.iload_n 1), .inl (.iconst (-1)), .inr (.inr (.inl ((.if_icmp .eq (18)), 1))), .inl (.aload_n 0), .inl (.aload_n 0), .inr (.inl (32, 0, 10, none, 306)), .inl (.bipush (9)), .inl .aaload, .inl (.iload_n 1), .inl .iaload, .inr (.inr (.inr (.inr (.inl (35, 0, 12, 0, none, 309))))), .inl (.iload_n 1), .inr (.inr (.inr (.inr (.inr (.inr (.inr (.inr (.inr (.inl .ireturn)))))))))]),
    (25, [.inl (.aload_n 0), .inr (.inl (32, 0, 10, none, 306)), .inl (.aload_n 0), .inr (.inl (60, 0, 11, none, 308)), .inr (.inr (.inr (.inr (.inr (.inr (.inl (82, 16, 2, [667, 668, 1]))))))), .inl (.aload_n 0), .inl .dup, .inr (.inl (60, 0, 11, none, 308)), .inl (.iconst (1)), .inl .iadd, .inr (.inr (.inr (.inr (.inl (60, 0, 11, 0, none, 308))))), .inl (.aload_n 0), .inr (.inl (60, 0, 11, none, 308)), .inl (.iconst (1)), .inl .isub, .inr (.inr (.inr (.inr (.inr (.inr (.inr (.inr (.inr (.inl .ireturn)))))))))])])
def tm_14 : pe_Mt := (⟨"LinkedTongue$Words", "wordFor", "([BII)I"⟩, prog_11_method_8_code, 6, (Option.some Jvm.ClassFile.FieldType.int), [], 103, [
    (0, [.inl (.aload_n 0), .inl (.aload_n 1), .inl (.iload_n 2), .inl (.iload_n 3), .inr (.inr (.inr (.inr (.inr (.inl (102, 17, 3, 9, [104, 105, 2, 106, 0])))))), .inl (.istore 4), .inl (.iload 4), .inl (.iconst (-1)), .inr (.inr (.inl ((.if_icmp .eq (6)), 1))), .inl (.iload 4), .inr (.inr (.inr (.inr (.inr (.inr (.inr (.inr (.inr (.inl .ireturn)))))))))]),
    (18, [.inl (.aload_n 0), .inr (.inl (47, 9, 7, none, 170)), .inl (.istore 4), .inl (.iload 4), .inl (.aload_n 0), .inr (.inl (15, 9, 2, none, 156)), .inl .arraylength, .inr (.inr (.inl ((.if_icmp .ne (78)), 2))), .inl (.aload_n 0), .inl (.aload_n 0), .inr (.inl (15, 9, 2, none, 156)), .inl (.iload 4), .inl (.iconst (2)), .inl .imul, .inr (.inr (.inr (.inr (.inr (.inr (.inr (.inr (.inr (.inr (.inr (.inr (.inr (.inr (.inr (.inr (.inr ()))))))))))))))))]),
    (109, [.inl (.aload_n 0), .inl (.aload_n 1), .inl (.iload_n 2), .inl (.iload_n 3), .inr (.inr (.inr (.inr (.inr (.inl (95, 18, 3, 9, [108, 110, 2, 1, 1])))))), .inl (.istore 5), .inl (.aload_n 0), .inr (.inl (15, 9, 2, none, 156)), .inl (.iload 4), .inl (.aload_n 0), .inl (.aload_n 1), .inl (.iload_n 2), .inl (.iload_n 3), .inr (.inr (.inr (.inr (.inr (.inl (108, 19, 3, 9, [132, 133, 2, 134, 0])))))), .inl .iastore, .inl (.aload_n 0), .inr (.inl (19, 9, 3, none, 161)), .inl (.iload 4), .inl (.iload_n 3), .inl .iastore, .inl (.aload_n 0), .inr (.inl (22, 9, 4, none, 166)), .inl (.iload 4), .inl (.aload_n 0), .inr (.inl (40, 9, 8, none, 171)), .inl (.iload 5), .inl .iaload, .inl .iastore, .inl (.aload_n 0), .inr (.inl (40, 9, 8, none, 171)), .inl (.iload 5), .inl (.iload 4), .inl (.iconst (1)), .inl .iadd, .inl .iastore, .inl (.aload_n 0), .inr (.inl (25, 9, 5, none, 167)), .inl (.iload 4), .inl (.iconst (-1)), .inl .iastore, .inl (.aload_n 0), .inr (.inl (28, 9, 6, none, 169)), .inl (.iload 4), .inl (.iconst (-1)), .inl .iastore, .inl (.aload_n 0), .inl .dup, .inr (.inl (47, 9, 7, none, 170)), .inl (.iconst (1)), .inl .iadd, .inr (.inr (.inr (.inr (.inl (47, 9, 7, 0, none, 170))))), .inl (.iload 4), .inr (.inr (.inr (.inr (.inr (.inr (.inr (.inr (.inr (.inl .ireturn)))))))))])])
def tm_15 : pe_Mt := (⟨"LinkedTongue$Heap", "shapeHead", "(II)I"⟩, prog_4_method_13_code, 3, (Option.some Jvm.ClassFile.FieldType.int), [], 570, [
    (0, [.inl (.iload_n 0), .inl (.sipush (1021)), .inl .imul, .inl (.iload_n 1), .inl .iadd, .inl (.istore_n 2), .inl (.iload_n 2), .inl (.iload_n 2), .inl (.bipush (10)), .inl .iushr, .inl .ixor, .inl (.sipush (1023)), .inl .iand, .inr (.inr (.inr (.inr (.inr (.inr (.inr (.inr (.inr (.inl .ireturn)))))))))])])
def tm_16 : pe_Mt := (⟨"LinkedTongue", "makeRoom", "([[II)V"⟩, prog_1_method_32_code, 3, (Option.none : Option Jvm.ClassFile.FieldType), [], 669, [
    (0, [.inl (.iload_n 1), .inl (.aload_n 0), .inl (.iconst (0)), .inl .aaload, .inl .arraylength, .inr (.inr (.inl ((.if_icmp .lt (29)), 2))), .inl (.iconst (0)), .inl (.istore_n 2), .inr (.inr (.inr (.inr (.inr (.inr (.inr (.inr (.inl 1))))))))]),
    (10, [.inl (.iload_n 2), .inl (.aload_n 0), .inl .arraylength, .inr (.inr (.inl ((.if_icmp .ge (21)), 2))), .inl (.aload_n 0), .inl (.iload_n 2), .inl (.aload_n 0), .inl (.iload_n 2), .inl .aaload, .inl (.iload_n 1), .inl (.iconst (2)), .inl .imul, .inr (.inr (.inr (.inr (.inr (.inr (.inr (.inr (.inr (.inr (.inr (.inr (.inr (.inr (.inr (.inr (.inr ()))))))))))))))))]),
    (34, [.inr (.inr (.inr (.inr (.inr (.inr (.inr (.inr (.inr (.inl .return_)))))))))])])
def tm_17 : pe_Mt := (⟨"LinkedTongue$Words", "wordAt", "([BII)I"⟩, prog_11_method_7_code, 6, (Option.some Jvm.ClassFile.FieldType.int), [], 107, [
    (0, [.inl (.iload_n 3), .inl (.bipush (60)), .inr (.inr (.inl ((.if_icmp .le (5)), 1))), .inl (.iconst (-1)), .inr (.inr (.inr (.inr (.inr (.inr (.inr (.inr (.inr (.inl .ireturn)))))))))]),
    (8, [.inl (.aload_n 0), .inr (.inl (40, 9, 8, none, 171)), .inl (.aload_n 0), .inl (.aload_n 1), .inl (.iload_n 2), .inl (.iload_n 3), .inr (.inr (.inr (.inr (.inr (.inl (95, 18, 3, 9, [108, 110, 2, 1, 1])))))), .inl .iaload, .inl (.iconst (1)), .inl .isub, .inl (.istore 4), .inl (.iconst (0)), .inl (.istore 5), .inr (.inr (.inr (.inr (.inr (.inr (.inr (.inr (.inl 2))))))))]),
    (27, [.inl (.iload 5), .inl (.aload_n 0), .inr (.inl (47, 9, 7, none, 170)), .inr (.inr (.inl ((.if_icmp .ge (40)), 4))), .inl (.iload 4), .inr (.inr (.inl ((.ifCond .lt (35)), 4))), .inl (.aload_n 0), .inl (.iload 4), .inl (.aload_n 1), .inl (.iload_n 2), .inl (.iload_n 3), .inr (.inr (.inr (.inr (.inr (.inl (98, 20, 4, 9, [112, 114, 2, 2, 1])))))), .inr (.inr (.inl ((.ifCond .eq (6)), 3))), .inl (.iload 4), .inr (.inr (.inr (.inr (.inr (.inr (.inr (.inr (.inr (.inl .ireturn)))))))))]),
    (56, [.inl (.aload_n 0), .inr (.inl (22, 9, 4, none, 166)), .inl (.iload 4), .inl .iaload, .inl (.iconst (1)), .inl .isub, .inl (.istore 4), .inl (.iinc 5 (1)), .inr (.inr (.inl ((.goto (-43)), 2)))]),
    (73, [.inl (.iconst (-1)), .inr (.inr (.inr (.inr (.inr (.inr (.inr (.inr (.inr (.inl .ireturn)))))))))])])
def tm_18 : pe_Mt := (⟨"LinkedTongue$Words", "headOf", "([BII)I"⟩, prog_11_method_5_code, 6, (Option.some Jvm.ClassFile.FieldType.int), [], 111, [
    (0, [.inl (.iload_n 3), .inl (.istore 4), .inl (.iconst (0)), .inl (.istore 5), .inr (.inr (.inr (.inr (.inr (.inr (.inr (.inr (.inl 1))))))))]),
    (6, [.inl (.iload 5), .inl (.iload_n 3), .inr (.inr (.inl ((.if_icmp .ge (23)), 2))), .inl (.iload 4), .inl (.bipush (31)), .inl .imul, .inl (.aload_n 1), .inl (.iload_n 2), .inl (.iload 5), .inl .iadd, .inl .baload, .inl .iadd, .inl (.istore 4), .inl (.iinc 5 (1)), .inr (.inr (.inl ((.goto (-23)), 1)))]),
    (32, [.inl (.iload 4), .inl (.iload 4), .inl (.bipush (11)), .inl .iushr, .inl .ixor, .inl (.aload_n 0), .inr (.inl (40, 9, 8, none, 171)), .inl .arraylength, .inl (.iconst (1)), .inl .isub, .inl .iand, .inr (.inr (.inr (.inr (.inr (.inr (.inr (.inr (.inr (.inl .ireturn)))))))))])])
def tm_19 : pe_Mt := (⟨"LinkedTongue$Words", "append", "([BII)I"⟩, prog_11_method_3_code, 4, (Option.some Jvm.ClassFile.FieldType.int), [], 135, [
    (0, [.inl (.aload_n 0), .inr (.inl (54, 9, 1, none, 154)), .inl (.iload_n 3), .inl .iadd, .inl (.aload_n 0), .inr (.inl (9, 9, 0, none, 148)), .inl .arraylength, .inr (.inr (.inl ((.if_icmp .le (30)), 1))), .inl (.aload_n 0), .inl (.aload_n 0), .inr (.inl (9, 9, 0, none, 148)), .inl (.aload_n 0), .inr (.inl (54, 9, 1, none, 154)), .inl (.iload_n 3), .inl .iadd, .inl (.aload_n 0), .inr (.inl (9, 9, 0, none, 148)), .inl .arraylength, .inl (.iconst (2)), .inl .imul, .inr (.inr (.inr (.inr (.inr (.inr (.inr (.inr (.inr (.inr (.inr (.inr (.inr (.inr (.inr (.inr (.inr ()))))))))))))))))]),
    (41, [.inl (.aload_n 1), .inl (.iload_n 2), .inl (.aload_n 0), .inr (.inl (9, 9, 0, none, 148)), .inl (.aload_n 0), .inr (.inl (54, 9, 1, none, 154)), .inl (.iload_n 3), .inr (.inr (.inr (.inr (.inr (.inr (.inr (.inr (.inr (.inr (.inr (.inr (.inr (.inr (.inr (.inl (.inr (.inr (.inl (75, [147, 131, 130, 9]))))))))))))))))))), .inl (.aload_n 0), .inl .dup, .inr (.inl (54, 9, 1, none, 154)), .inl (.iload_n 3), .inl .iadd, .inr (.inr (.inr (.inr (.inl (54, 9, 1, 0, none, 154))))), .inl (.aload_n 0), .inr (.inl (54, 9, 1, none, 154)), .inl (.iload_n 3), .inl .isub, .inr (.inr (.inr (.inr (.inr (.inr (.inr (.inr (.inr (.inl .ireturn)))))))))])])
def tm_20 : pe_Mt := (⟨"LinkedTongue$Words", "isWord", "(I[BII)Z"⟩, prog_11_method_6_code, 6, (Option.some Jvm.ClassFile.FieldType.boolean), [], 115, [
    (0, [.inl (.aload_n 0), .inr (.inl (19, 9, 3, none, 161)), .inl (.iload_n 1), .inl .iaload, .inl (.iload 4), .inr (.inr (.inl ((.if_icmp .eq (5)), 1))), .inl (.iconst (0)), .inr (.inr (.inr (.inr (.inr (.inr (.inr (.inr (.inr (.inl .ireturn)))))))))]),
    (13, [.inl (.iconst (0)), .inl (.istore 5), .inr (.inr (.inr (.inr (.inr (.inr (.inr (.inr (.inl 2))))))))]),
    (16, [.inl (.iload 5), .inl (.iload 4), .inr (.inr (.inl ((.if_icmp .ge (34)), 4))), .inl (.aload_n 0), .inr (.inl (9, 9, 0, none, 148)), .inl (.aload_n 0), .inr (.inl (15, 9, 2, none, 156)), .inl (.iload_n 1), .inl .iaload, .inl (.iload 5), .inl .iadd, .inl .baload, .inl (.aload_n 2), .inl (.iload_n 3), .inl (.iload 5), .inl .iadd, .inl .baload, .inr (.inr (.inl ((.if_icmp .eq (5)), 3))), .inl (.iconst (0)), .inr (.inr (.inr (.inr (.inr (.inr (.inr (.inr (.inr (.inl .ireturn)))))))))]),
    (48, [.inl (.iinc 5 (1)), .inr (.inr (.inl ((.goto (-35)), 2)))]),
    (54, [.inl (.iconst (1)), .inr (.inr (.inr (.inr (.inr (.inr (.inr (.inr (.inr (.inl .ireturn)))))))))])])
def pe_ms : List pe_Mt := [tm_0, tm_1, tm_2, tm_3, tm_4, tm_5, tm_6, tm_7, tm_8, tm_9, tm_10, tm_11, tm_12, tm_13, tm_14, tm_15, tm_16, tm_17, tm_18, tm_19, tm_20]
def pe_xs : List (Nat × List Int32) := [(0, [118, 97, 114, 32, 102, 117, 110, 32, 105, 102, 32, 101, 108, 115, 101, 32, 119, 104, 105, 108, 101, 32, 114, 101, 116, 117, 114, 110, 32, 116, 104, 114, 111, 119, 32, 116, 114, 121, 32, 99, 97, 116, 99, 104, 32, 110, 101, 119, 32, 116, 104, 105, 115, 32, 110, 117, 108, 108, 32, 116, 114, 117, 101, 32, 102, 97, 108, 115, 101, 32, 112, 114, 105, 110, 116, 32, 109, 97, 107, 101, 32, 112, 114, 111, 116, 111, 32, 116, 117, 114, 110, 32, 100, 114, 111, 112, 32, 104, 97, 115, 32, 107, 105, 110, 100, 32, 104, 111, 115, 116, 32, 115, 105, 122, 101, 32, 112, 117, 115, 104, 32, 112, 111, 112, 32, 115, 117, 98, 32, 98, 111, 111, 108, 32, 105, 110, 116, 32, 108, 111, 110, 103, 32, 116, 101, 120, 116, 32, 111, 98, 106, 101, 99, 116, 32, 108, 105, 115, 116, 32, 99, 108, 97, 115, 115]),
  (1, [8000, 60000, 12000, 200000, 4000, 2000]),
  (0, [118, 111, 105, 100, 32, 105, 110, 116, 32, 108, 111, 110, 103, 32, 98, 111, 111, 108, 32, 73, 110, 116, 32, 76, 111, 110, 103, 32, 66, 111, 111, 108, 32, 84, 101, 120, 116, 32, 65, 110, 121, 32, 99, 108, 97, 115, 115, 32, 105, 110, 116, 101, 114, 102, 97, 99, 101, 32, 115, 116, 97, 116, 105, 99, 32, 110, 101, 119])]
def pe_GC : pe_G := (pe_ms, pe_dv, pe_xs)
def pe_kst : List (String × Nat × Nat) := [("LinkedTongue", 15, 0), ("LinkedTongue$Host", 11, 2)]
def pe_stt : List (Nat × String × String × String) := [(1, "LinkedTongue", "LIFE_MOST", "[I")]
/-- what is looked at for a special instruction -/
def pe_ckS (mt : pe_Mt) (pc : Nat) (i : pe_S) : Bool := match i with
  | .inl (wide, ix, j) => !wide && (decide (decode mt.cc pc = .ok (.ldc ix, 2)) && decide ((mt.y.cls, ix, j) ∈ pe_kst))
  | .inr (.inr (.inr (.inr (.inl (ix, j, host, wd))))) => decide (decode mt.cc pc = .ok (.getstatic ix, 3)) && (match pe_stt.find? (fun q => q.1 == j) with
    | some (_, C, n, d) => (match host with
      | none => pe_w wd (.fieldLink mt.y.cls ix C n d)
      | some hn => pe_n wd (.fieldLinkNest mt.y.cls ix C n d hn))
    | none => false)
  | .inr (.inr (.inr (.inr (.inr ((ix, ws)))))) => decide (decode mt.cc pc = .ok (.multianewarray ix 2, 4)) && (match ws with
    | [w1, w2, w3] => pe_w w1 (.classLink mt.y.cls ix "[[I") && (pe_n w2 (.arrayOver (.array .int)) && pe_w w3 (.arrayClass .int))
    | _ => false)
  | .inr (.inr (.inr (.inl (ix, ws)))) => decide (decode mt.cc pc = .ok (.invokevirtual ix, 3)) && (match ws with
    | [w1] => pe_w w1 (.methodLink mt.y.cls ix ⟨"java/lang/String", "length", "()I"⟩)
    | _ => false)
  | .inr (.inl (ix, ws)) => decide (decode mt.cc pc = .ok (.invokevirtual ix, 3)) && (match ws with
    | [w1] => pe_w w1 (.methodLink mt.y.cls ix ⟨"java/lang/String", "charAt", "(I)C"⟩)
    | _ => false)
  | .inr (.inr (.inl (ix, ws))) => decide (decode mt.cc pc = .ok (.invokestatic ix, 3)) && (match ws with
    | [w1, w2, w3, w4] => pe_w w1 (.methodLink mt.y.cls ix arraycopyName) && (pe_w w2 (.native arraycopyName) && (pe_w w3 (.static arraycopyName) && pe_w w4 (.initialized "java/lang/System")))
    | _ => false)

set_option maxRecDepth 40000 in
theorem ok_0 : pe_okM pe_GC pe_cl pe_ckS tm_0 = true := by decide +kernel
set_option maxRecDepth 40000 in
theorem ok_1 : pe_okM pe_GC pe_cl pe_ckS tm_1 = true := by decide +kernel
set_option maxRecDepth 40000 in
theorem ok_2 : pe_okM pe_GC pe_cl pe_ckS tm_2 = true := by decide +kernel
set_option maxRecDepth 40000 in
theorem ok_3 : pe_okM pe_GC pe_cl pe_ckS tm_3 = true := by decide +kernel
set_option maxRecDepth 40000 in
theorem ok_4 : pe_okM pe_GC pe_cl pe_ckS tm_4 = true := by decide +kernel
set_option maxRecDepth 40000 in
theorem ok_5 : pe_okM pe_GC pe_cl pe_ckS tm_5 = true := by decide +kernel
set_option maxRecDepth 40000 in
theorem ok_6 : pe_okM pe_GC pe_cl pe_ckS tm_6 = true := by decide +kernel
set_option maxRecDepth 40000 in
theorem ok_7 : pe_okM pe_GC pe_cl pe_ckS tm_7 = true := by decide +kernel
set_option maxRecDepth 40000 in
theorem ok_8 : pe_okM pe_GC pe_cl pe_ckS tm_8 = true := by decide +kernel
set_option maxRecDepth 40000 in
theorem ok_9 : pe_okM pe_GC pe_cl pe_ckS tm_9 = true := by decide +kernel
set_option maxRecDepth 40000 in
theorem ok_10 : pe_okM pe_GC pe_cl pe_ckS tm_10 = true := by decide +kernel
set_option maxRecDepth 40000 in
theorem ok_11 : pe_okM pe_GC pe_cl pe_ckS tm_11 = true := by decide +kernel
set_option maxRecDepth 40000 in
theorem ok_12 : pe_okM pe_GC pe_cl pe_ckS tm_12 = true := by decide +kernel
set_option maxRecDepth 40000 in
theorem ok_13 : pe_okM pe_GC pe_cl pe_ckS tm_13 = true := by decide +kernel
set_option maxRecDepth 40000 in
theorem ok_14 : pe_okM pe_GC pe_cl pe_ckS tm_14 = true := by decide +kernel
set_option maxRecDepth 40000 in
theorem ok_15 : pe_okM pe_GC pe_cl pe_ckS tm_15 = true := by decide +kernel
set_option maxRecDepth 40000 in
theorem ok_16 : pe_okM pe_GC pe_cl pe_ckS tm_16 = true := by decide +kernel
set_option maxRecDepth 40000 in
theorem ok_17 : pe_okM pe_GC pe_cl pe_ckS tm_17 = true := by decide +kernel
set_option maxRecDepth 40000 in
theorem ok_18 : pe_okM pe_GC pe_cl pe_ckS tm_18 = true := by decide +kernel
set_option maxRecDepth 40000 in
theorem ok_19 : pe_okM pe_GC pe_cl pe_ckS tm_19 = true := by decide +kernel
set_option maxRecDepth 40000 in
theorem ok_20 : pe_okM pe_GC pe_cl pe_ckS tm_20 = true := by decide +kernel
theorem pe_ms_ok : ∀ mi mt, pe_at pe_GC.ms mi = some mt → pe_okM pe_GC pe_cl pe_ckS mt = true := by
  intro mi mt h
  match mi, h with
  | 0, h =>
    have h2 : some tm_0 = some mt := h
    cases h2
    exact ok_0
  | 1, h =>
    have h2 : some tm_1 = some mt := h
    cases h2
    exact ok_1
  | 2, h =>
    have h2 : some tm_2 = some mt := h
    cases h2
    exact ok_2
  | 3, h =>
    have h2 : some tm_3 = some mt := h
    cases h2
    exact ok_3
  | 4, h =>
    have h2 : some tm_4 = some mt := h
    cases h2
    exact ok_4
  | 5, h =>
    have h2 : some tm_5 = some mt := h
    cases h2
    exact ok_5
  | 6, h =>
    have h2 : some tm_6 = some mt := h
    cases h2
    exact ok_6
  | 7, h =>
    have h2 : some tm_7 = some mt := h
    cases h2
    exact ok_7
  | 8, h =>
    have h2 : some tm_8 = some mt := h
    cases h2
    exact ok_8
  | 9, h =>
    have h2 : some tm_9 = some mt := h
    cases h2
    exact ok_9
  | 10, h =>
    have h2 : some tm_10 = some mt := h
    cases h2
    exact ok_10
  | 11, h =>
    have h2 : some tm_11 = some mt := h
    cases h2
    exact ok_11
  | 12, h =>
    have h2 : some tm_12 = some mt := h
    cases h2
    exact ok_12
  | 13, h =>
    have h2 : some tm_13 = some mt := h
    cases h2
    exact ok_13
  | 14, h =>
    have h2 : some tm_14 = some mt := h
    cases h2
    exact ok_14
  | 15, h =>
    have h2 : some tm_15 = some mt := h
    cases h2
    exact ok_15
  | 16, h =>
    have h2 : some tm_16 = some mt := h
    cases h2
    exact ok_16
  | 17, h =>
    have h2 : some tm_17 = some mt := h
    cases h2
    exact ok_17
  | 18, h =>
    have h2 : some tm_18 = some mt := h
    cases h2
    exact ok_18
  | 19, h =>
    have h2 : some tm_19 = some mt := h
    cases h2
    exact ok_19
  | 20, h =>
    have h2 : some tm_20 = some mt := h
    cases h2
    exact ok_20
  | n + 21, h =>
    rw [pe_at_eq] at h
    exact absurd (List.getElem?_eq_some_iff.mp h).1 (by show ¬ n + 21 < 21; omega)
