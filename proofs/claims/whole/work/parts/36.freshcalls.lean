/-! PART 36: the law, and the methods that a call on fresh objects runs. -/
def tn_0 : pe_Mt := (⟨"LinkedTongue", "code", "(III)I"⟩, prog_1_method_11_code, 5, (Option.some Jvm.ClassFile.FieldType.int), [], 6045, [
    (0, [.inl (.iload_n 1), .inr (.inr (.inl ((.ifCond .lt (33)), 1))), .inl (.iload_n 1), .inl (.aload_n 0), .inr (.inl (34, 10, 4, none, 3093)), .inr (.inl (152, 0, 1, none, 1037)), .inr (.inr (.inl ((.if_icmp .ge (22)), 1))), .inl (.iload_n 2), .inr (.inr (.inl ((.ifCond .lt (18)), 1))), .inl (.iload_n 2), .inl (.aload_n 0), .inr (.inl (34, 10, 4, none, 3093)), .inr (.inl (155, 0, 0, none, 1034)), .inl (.iconst (3)), .inl .aaload, .inl (.iload_n 1), .inl .iaload, .inr (.inr (.inl ((.if_icmp .lt (5)), 2))), .inr (.inr (.inr (.inr (.inr (.inr (.inr (.inr (.inl 1))))))))]),
    (34, [.inl (.iconst (-1)), .inr (.inr (.inr (.inr (.inr (.inr (.inr (.inr (.inr (.inl .ireturn)))))))))]),
    (36, [.inl (.aload_n 0), .inr (.inl (34, 10, 4, none, 3093)), .inr (.inl (155, 0, 0, none, 1034)), .inl (.bipush (6)), .inl .aaload, .inl (.iload_n 1), .inl .iaload, .inl (.iload_n 2), .inl .iadd, .inl (.istore 4), .inl (.iload_n 3), .inr (.inr (.inr (.inr (.inr (.inr (.inr (.inr (.inr (.inr (.inr (.inl ((.tableswitch (60) (0) (2) #[(27), (38), (49)]), 27, (0), [3, 4, 5], 6))))))))))))]),
    (80, [.inl (.aload_n 0), .inr (.inl (34, 10, 4, none, 3093)), .inr (.inl (158, 0, 4, none, 1046)), .inl (.iload 4), .inl .iaload, .inr (.inr (.inr (.inr (.inr (.inr (.inr (.inr (.inr (.inl .ireturn)))))))))]),
    (91, [.inl (.aload_n 0), .inr (.inl (34, 10, 4, none, 3093)), .inr (.inl (162, 0, 5, none, 1050)), .inl (.iload 4), .inl .iaload, .inr (.inr (.inr (.inr (.inr (.inr (.inr (.inr (.inr (.inl .ireturn)))))))))]),
    (102, [.inl (.aload_n 0), .inr (.inl (34, 10, 4, none, 3093)), .inr (.inl (165, 0, 6, none, 1054)), .inl (.iload 4), .inl .iaload, .inr (.inr (.inr (.inr (.inr (.inr (.inr (.inr (.inr (.inl .ireturn)))))))))]),
    (113, [.inl (.iconst (-1)), .inr (.inr (.inr (.inr (.inr (.inr (.inr (.inr (.inr (.inl .ireturn)))))))))])])
def tn_1 : pe_Mt := (⟨"LinkedTongue", "count", "(I)I"⟩, prog_1_method_26_code, 2, (Option.some Jvm.ClassFile.FieldType.int), [], 6132, [
    (0, [.inl (.iload_n 1), .inr (.inr (.inr (.inr (.inr (.inr (.inr (.inr (.inr (.inr (.inr (.inl ((.tableswitch (138) (0) (9) #[(55), (60), (71), (82), (90), (98), (106), (114), (122), (130)]), 55, (0), [1, 2, 3, 4, 5, 6, 7, 8, 9, 10], 11))))))))))))]),
    (56, [.inl (.aload_n 0), .inr (.inl (98, 10, 1, none, 3090)), .inr (.inr (.inr (.inr (.inr (.inr (.inr (.inr (.inr (.inl .ireturn)))))))))]),
    (61, [.inl (.aload_n 0), .inr (.inl (61, 10, 7, none, 3096)), .inr (.inl (113, 2, 1, none, 2095)), .inr (.inl (125, 3, 2, none, 2013)), .inr (.inr (.inr (.inr (.inr (.inr (.inr (.inr (.inr (.inl .ireturn)))))))))]),
    (72, [.inl (.aload_n 0), .inr (.inl (61, 10, 7, none, 3096)), .inr (.inl (113, 2, 1, none, 2095)), .inr (.inl (132, 3, 4, none, 2020)), .inr (.inr (.inr (.inr (.inr (.inr (.inr (.inr (.inr (.inl .ireturn)))))))))]),
    (83, [.inl (.aload_n 0), .inr (.inl (34, 10, 4, none, 3093)), .inr (.inl (142, 0, 3, none, 1043)), .inr (.inr (.inr (.inr (.inr (.inr (.inr (.inr (.inr (.inl .ireturn)))))))))]),
    (91, [.inl (.aload_n 0), .inr (.inl (34, 10, 4, none, 3093)), .inr (.inl (152, 0, 1, none, 1037)), .inr (.inr (.inr (.inr (.inr (.inr (.inr (.inr (.inr (.inl .ireturn)))))))))]),
    (99, [.inl (.aload_n 0), .inr (.inl (34, 10, 4, none, 3093)), .inr (.inl (325, 0, 7, none, 1058)), .inr (.inr (.inr (.inr (.inr (.inr (.inr (.inr (.inr (.inl .ireturn)))))))))]),
    (107, [.inl (.aload_n 0), .inr (.inl (34, 10, 4, none, 3093)), .inr (.inl (168, 0, 9, none, 1064)), .inr (.inr (.inr (.inr (.inr (.inr (.inr (.inr (.inr (.inl .ireturn)))))))))]),
    (115, [.inl (.aload_n 0), .inr (.inl (34, 10, 4, none, 3093)), .inr (.inl (328, 0, 16, none, 1074)), .inr (.inr (.inr (.inr (.inr (.inr (.inr (.inr (.inr (.inl .ireturn)))))))))]),
    (123, [.inl (.aload_n 0), .inr (.inl (20, 10, 2, none, 3091)), .inr (.inl (181, 9, 10, none, 177)), .inr (.inr (.inr (.inr (.inr (.inr (.inr (.inr (.inr (.inl .ireturn)))))))))]),
    (131, [.inl (.aload_n 0), .inr (.inl (20, 10, 2, none, 3091)), .inr (.inl (331, 9, 12, none, 181)), .inr (.inr (.inr (.inr (.inr (.inr (.inr (.inr (.inr (.inl .ireturn)))))))))]),
    (139, [.inl (.aload_n 0), .inl (.iload_n 1), .inr (.inr (.inr (.inr (.inr (.inl (334, 2, 1, 10, [6133, 6135, 1, 78, 1])))))), .inr (.inr (.inr (.inr (.inr (.inr (.inr (.inr (.inr (.inl .ireturn)))))))))])])
def tn_2 : pe_Mt := (⟨"LinkedTongue", "countOfRuns", "(I)I"⟩, prog_1_method_27_code, 2, (Option.some Jvm.ClassFile.FieldType.int), [], 6136, [
    (0, [.inl (.iload_n 1), .inr (.inr (.inr (.inr (.inr (.inr (.inr (.inr (.inr (.inr (.inr (.inl ((.tableswitch (117) (10) (17) #[(47), (55), (63), (71), (82), (93), (101), (109)]), 47, (10), [1, 2, 3, 4, 5, 6, 7, 8], 9))))))))))))]),
    (48, [.inl (.aload_n 0), .inr (.inl (61, 10, 7, none, 3096)), .inr (.inl (288, 2, 3, none, 2103)), .inr (.inr (.inr (.inr (.inr (.inr (.inr (.inr (.inr (.inl .ireturn)))))))))]),
    (56, [.inl (.aload_n 0), .inr (.inl (61, 10, 7, none, 3096)), .inr (.inl (338, 2, 5, none, 2108)), .inr (.inr (.inr (.inr (.inr (.inr (.inr (.inr (.inr (.inl .ireturn)))))))))]),
    (64, [.inl (.aload_n 0), .inr (.inl (61, 10, 7, none, 3096)), .inr (.inl (310, 2, 8, none, 2116)), .inr (.inr (.inr (.inr (.inr (.inr (.inr (.inr (.inr (.inl .ireturn)))))))))]),
    (72, [.inl (.aload_n 0), .inr (.inl (61, 10, 7, none, 3096)), .inr (.inl (113, 2, 1, none, 2095)), .inr (.inl (341, 3, 16, none, 2036)), .inr (.inr (.inr (.inr (.inr (.inr (.inr (.inr (.inr (.inl .ireturn)))))))))]),
    (83, [.inl (.aload_n 0), .inr (.inl (61, 10, 7, none, 3096)), .inr (.inl (113, 2, 1, none, 2095)), .inr (.inl (344, 3, 18, none, 2040)), .inr (.inr (.inr (.inr (.inr (.inr (.inr (.inr (.inr (.inl .ireturn)))))))))]),
    (94, [.inl (.aload_n 0), .inr (.inl (61, 10, 7, none, 3096)), .inr (.inl (313, 2, 13, none, 2124)), .inr (.inr (.inr (.inr (.inr (.inr (.inr (.inr (.inr (.inl .ireturn)))))))))]),
    (102, [.inl (.aload_n 0), .inr (.inl (61, 10, 7, none, 3096)), .inr (.inl (319, 2, 15, none, 2128)), .inr (.inr (.inr (.inr (.inr (.inr (.inr (.inr (.inr (.inl .ireturn)))))))))]),
    (110, [.inl (.aload_n 0), .inr (.inl (70, 10, 8, none, 3097)), .inr (.inl (347, 5, 19, none, 2212)), .inr (.inr (.inr (.inr (.inr (.inr (.inr (.inr (.inr (.inl .ireturn)))))))))]),
    (118, [.inl (.iload_n 1), .inl (.bipush (20)), .inr (.inr (.inl ((.if_icmp .lt (24)), 10))), .inl (.iload_n 1), .inl (.bipush (24)), .inr (.inr (.inl ((.if_icmp .ge (18)), 10))), .inl (.aload_n 0), .inr (.inl (70, 10, 8, none, 3097)), .inr (.inl (350, 5, 18, none, 2210)), .inl (.iload_n 1), .inl (.bipush (20)), .inl .isub, .inl .iaload, .inr (.inr (.inl ((.goto (4)), 11)))]),
    (145, [.inl (.iconst (-1)), .inr (.inr (.inr (.inr (.inr (.inr (.inr (.inr (.inl 11))))))))]),
    (146, [.inr (.inr (.inr (.inr (.inr (.inr (.inr (.inr (.inr (.inl .ireturn)))))))))])])
def tn_3 : pe_Mt := (⟨"LinkedTongue", "entry", "(III)I"⟩, prog_1_method_13_code, 7, (Option.some Jvm.ClassFile.FieldType.int), [], 6053, [
    (0, [.inl (.iload_n 1), .inr (.inr (.inl ((.ifCond .lt (34)), 1))), .inl (.iload_n 1), .inl (.aload_n 0), .inr (.inl (34, 10, 4, none, 3093)), .inr (.inl (168, 0, 9, none, 1064)), .inr (.inr (.inl ((.if_icmp .ge (23)), 1))), .inl (.iload_n 2), .inr (.inr (.inl ((.ifCond .lt (19)), 1))), .inl (.iload_n 2), .inl (.aload_n 0), .inr (.inl (34, 10, 4, none, 3093)), .inr (.inl (171, 0, 8, none, 1061)), .inl (.bipush (9)), .inl .aaload, .inl (.iload_n 1), .inl .iaload, .inr (.inr (.inl ((.if_icmp .lt (5)), 2))), .inr (.inr (.inr (.inr (.inr (.inr (.inr (.inr (.inl 1))))))))]),
    (35, [.inl (.iconst (-1)), .inr (.inr (.inr (.inr (.inr (.inr (.inr (.inr (.inr (.inl .ireturn)))))))))]),
    (37, [.inl (.aload_n 0), .inr (.inl (34, 10, 4, none, 3093)), .inr (.inl (174, 0, 10, none, 1067)), .inl (.astore 4), .inl (.aload_n 0), .inr (.inl (34, 10, 4, none, 3093)), .inr (.inl (171, 0, 8, none, 1061)), .inl (.bipush (11)), .inl .aaload, .inl (.iload_n 1), .inl .iaload, .inl (.istore 5), .inl (.iconst (0)), .inl (.istore 6), .inr (.inr (.inr (.inr (.inr (.inr (.inr (.inr (.inl 3))))))))]),
    (63, [.inl (.iload 6), .inl (.iload_n 2), .inr (.inr (.inl ((.if_icmp .ge (19)), 4))), .inl (.aload 4), .inl (.bipush (9)), .inl .aaload, .inl (.iload 5), .inl .iaload, .inl (.istore 5), .inl (.iinc 6 (1)), .inr (.inr (.inl ((.goto (-19)), 3)))]),
    (85, [.inl (.iload_n 3), .inl (.iconst (5)), .inr (.inr (.inl ((.if_icmp .ne (41)), 7))), .inl (.aload_n 0), .inr (.inl (61, 10, 7, none, 3096)), .inl (.aload 4), .inl (.iconst (1)), .inl .aaload, .inl (.iload 5), .inl .iaload, .inl (.aload 4), .inl (.iconst (2)), .inl .aaload, .inl (.iload 5), .inl .iaload, .inl (.aload 4), .inl (.bipush (6)), .inl .aaload, .inl (.iload 5), .inl .iaload]),
    (126, [.inl (.iconst (0)), .inr (.inr (.inr (.inr (.inr (.inr (.inr (.inr (.inl 6))))))))]),
    (127, [.inr (.inr (.inr (.inr (.inr (.inr (.inr (.inr (.inr (.inl .ireturn)))))))))]),
    (128, [.inl (.iload_n 3), .inr (.inr (.inl ((.ifCond .lt (8)), 8))), .inl (.iload_n 3), .inl (.iconst (4)), .inr (.inr (.inl ((.if_icmp .le (7)), 9))), .inr (.inr (.inr (.inr (.inr (.inr (.inr (.inr (.inl 8))))))))]),
    (137, [.inl (.iconst (-1)), .inr (.inr (.inl ((.goto (10)), 10)))]),
    (141, [.inl (.aload 4), .inl (.iload_n 3), .inl .aaload, .inl (.iload 5), .inl .iaload, .inr (.inr (.inr (.inr (.inr (.inr (.inr (.inr (.inl 10))))))))]),
    (148, [.inr (.inr (.inr (.inr (.inr (.inr (.inr (.inr (.inr (.inl .ireturn)))))))))])])
def tn_4 : pe_Mt := (⟨"LinkedTongue", "function", "(II)I"⟩, prog_1_method_10_code, 3, (Option.some Jvm.ClassFile.FieldType.int), [], 6041, [
    (0, [.inl (.iload_n 1), .inr (.inr (.inl ((.ifCond .lt (23)), 1))), .inl (.iload_n 1), .inl (.aload_n 0), .inr (.inl (34, 10, 4, none, 3093)), .inr (.inl (152, 0, 1, none, 1037)), .inr (.inr (.inl ((.if_icmp .ge (12)), 1))), .inl (.iload_n 2), .inr (.inr (.inl ((.ifCond .lt (8)), 1))), .inl (.iload_n 2), .inl (.iconst (5)), .inr (.inr (.inl ((.if_icmp .le (5)), 2))), .inr (.inr (.inr (.inr (.inr (.inr (.inr (.inr (.inl 1))))))))]),
    (24, [.inl (.iconst (-1)), .inr (.inr (.inr (.inr (.inr (.inr (.inr (.inr (.inr (.inl .ireturn)))))))))]),
    (26, [.inl (.aload_n 0), .inr (.inl (34, 10, 4, none, 3093)), .inr (.inl (155, 0, 0, none, 1034)), .inl (.iload_n 2), .inl .aaload, .inl (.iload_n 1), .inl .iaload, .inr (.inr (.inr (.inr (.inr (.inr (.inr (.inr (.inr (.inl .ireturn)))))))))])])
def tn_5 : pe_Mt := (⟨"LinkedTongue", "member", "(II)I"⟩, prog_1_method_7_code, 5, (Option.some Jvm.ClassFile.FieldType.int), [], 5039, [
    (0, [.inl (.aload_n 0), .inr (.inl (61, 10, 7, none, 3096)), .inr (.inl (113, 2, 1, none, 2095)), .inl (.astore_n 3), .inl (.iload_n 1), .inr (.inr (.inl ((.ifCond .lt (15)), 1))), .inl (.iload_n 1), .inl (.aload_n 3), .inr (.inl (132, 3, 4, none, 2020)), .inr (.inr (.inl ((.if_icmp .ge (7)), 1))), .inl (.iload_n 2), .inr (.inr (.inl ((.ifCond .ge (5)), 2))), .inr (.inr (.inr (.inr (.inr (.inr (.inr (.inr (.inl 1))))))))]),
    (24, [.inl (.iconst (-1)), .inr (.inr (.inr (.inr (.inr (.inr (.inr (.inr (.inr (.inl .ireturn)))))))))]),
    (26, [.inl (.iload_n 2), .inl (.bipush (6)), .inr (.inr (.inl ((.if_icmp .lt (18)), 3))), .inl (.iload_n 2), .inl (.bipush (6)), .inl .isub, .inl (.aload_n 3), .inr (.inl (135, 3, 3, none, 2016)), .inl (.iconst (4)), .inl .aaload, .inl (.iload_n 1), .inl .iaload, .inr (.inr (.inl ((.if_icmp .ge (7)), 4))), .inr (.inr (.inr (.inr (.inr (.inr (.inr (.inr (.inl 3))))))))]),
    (47, [.inl (.iconst (1)), .inr (.inr (.inl ((.goto (4)), 5)))]),
    (51, [.inl (.iconst (0)), .inr (.inr (.inr (.inr (.inr (.inr (.inr (.inr (.inl 5))))))))]),
    (52, [.inl (.istore 4), .inl (.iload 4), .inr (.inr (.inl ((.ifCond .eq (14)), 6))), .inl (.aload_n 3), .inr (.inl (135, 3, 3, none, 2016)), .inl (.iload_n 2), .inl .aaload, .inl (.iload_n 1), .inl .iaload, .inr (.inr (.inl ((.goto (4)), 7)))]),
    (70, [.inl (.iconst (-1)), .inr (.inr (.inr (.inr (.inr (.inr (.inr (.inr (.inl 7))))))))]),
    (71, [.inr (.inr (.inr (.inr (.inr (.inr (.inr (.inr (.inr (.inl .ireturn)))))))))])])
def tn_6 : pe_Mt := (⟨"LinkedTongue", "name", "(II)I"⟩, prog_1_method_14_code, 4, (Option.some Jvm.ClassFile.FieldType.int), [], 6065, [
    (0, [.inl (.iload_n 1), .inr (.inr (.inl ((.ifCond .lt (14)), 1))), .inl (.iload_n 1), .inl (.aload_n 0), .inr (.inl (20, 10, 2, none, 3091)), .inr (.inl (181, 9, 10, none, 177)), .inr (.inr (.inl ((.if_icmp .lt (5)), 2))), .inr (.inr (.inr (.inr (.inr (.inr (.inr (.inr (.inl 1))))))))]),
    (15, [.inl (.iconst (-1)), .inr (.inr (.inr (.inr (.inr (.inr (.inr (.inr (.inr (.inl .ireturn)))))))))]),
    (17, [.inl (.aload_n 0), .inr (.inl (20, 10, 2, none, 3091)), .inr (.inl (184, 9, 9, none, 173)), .inl (.iload_n 1), .inl .iaload, .inl (.istore_n 3), .inl (.iload_n 2), .inr (.inr (.inl ((.ifCond .lt (16)), 3))), .inl (.iload_n 2), .inl (.aload_n 0), .inr (.inl (20, 10, 2, none, 3091)), .inr (.inl (187, 9, 3, none, 162)), .inl (.iload_n 3), .inl .iaload, .inr (.inr (.inl ((.if_icmp .lt (7)), 4))), .inr (.inr (.inr (.inr (.inr (.inr (.inr (.inr (.inl 3))))))))]),
    (44, [.inl (.iconst (-1)), .inr (.inr (.inl ((.goto (22)), 5)))]),
    (48, [.inl (.aload_n 0), .inr (.inl (20, 10, 2, none, 3091)), .inr (.inl (190, 9, 0, none, 150)), .inl (.aload_n 0), .inr (.inl (20, 10, 2, none, 3091)), .inr (.inl (193, 9, 2, none, 157)), .inl (.iload_n 3), .inl .iaload, .inl (.iload_n 2), .inl .iadd, .inl .baload, .inr (.inr (.inr (.inr (.inr (.inr (.inr (.inr (.inl 5))))))))]),
    (67, [.inr (.inr (.inr (.inr (.inr (.inr (.inr (.inr (.inr (.inl .ireturn)))))))))])])
def tn_7 : pe_Mt := (⟨"LinkedTongue", "output", "(I)I"⟩, prog_1_method_24_code, 2, (Option.some Jvm.ClassFile.FieldType.int), [], 6124, [
    (0, [.inl (.iload_n 1), .inr (.inr (.inl ((.ifCond .lt (14)), 1))), .inl (.iload_n 1), .inl (.aload_n 0), .inr (.inl (61, 10, 7, none, 3096)), .inr (.inl (313, 2, 13, none, 2124)), .inr (.inr (.inl ((.if_icmp .lt (7)), 2))), .inr (.inr (.inr (.inr (.inr (.inr (.inr (.inr (.inl 1))))))))]),
    (15, [.inl (.iconst (-1)), .inr (.inr (.inl ((.goto (12)), 3)))]),
    (19, [.inl (.aload_n 0), .inr (.inl (61, 10, 7, none, 3096)), .inr (.inl (316, 2, 12, none, 2122)), .inl (.iload_n 1), .inl .baload, .inr (.inr (.inr (.inr (.inr (.inr (.inr (.inr (.inl 3))))))))]),
    (28, [.inr (.inr (.inr (.inr (.inr (.inr (.inr (.inr (.inr (.inl .ireturn)))))))))])])
def tn_8 : pe_Mt := (⟨"LinkedTongue", "shape", "(II)I"⟩, prog_1_method_23_code, 3, (Option.some Jvm.ClassFile.FieldType.int), [], 6116, [
    (0, [.inl (.iload_n 1), .inr (.inr (.inl ((.ifCond .lt (18)), 1))), .inl (.iload_n 1), .inl (.aload_n 0), .inr (.inl (61, 10, 7, none, 3096)), .inr (.inl (310, 2, 8, none, 2116)), .inr (.inr (.inl ((.if_icmp .ge (7)), 1))), .inl (.iload_n 2), .inr (.inr (.inl ((.ifCond .ge (5)), 2))), .inr (.inr (.inr (.inr (.inr (.inr (.inr (.inr (.inl 1))))))))]),
    (19, [.inl (.iconst (-1)), .inr (.inr (.inr (.inr (.inr (.inr (.inr (.inr (.inr (.inl .ireturn)))))))))]),
    (21, [.inl (.iload_n 2), .inl (.iconst (2)), .inr (.inr (.inl ((.if_icmp .ge (23)), 5))), .inl (.aload_n 0), .inr (.inl (61, 10, 7, none, 3096)), .inr (.inl (294, 2, 7, none, 2114)), .inl (.iload_n 2), .inr (.inr (.inl ((.ifCond .ne (7)), 3))), .inl (.iconst (0)), .inr (.inr (.inl ((.goto (4)), 4)))]),
    (41, [.inl (.iconst (1)), .inr (.inr (.inr (.inr (.inr (.inr (.inr (.inr (.inl 4))))))))]),
    (42, [.inl .aaload, .inl (.iload_n 1), .inl .iaload, .inr (.inr (.inr (.inr (.inr (.inr (.inr (.inr (.inr (.inl .ireturn)))))))))]),
    (46, [.inl (.iload_n 2), .inl (.iconst (2)), .inl .isub, .inl (.aload_n 0), .inr (.inl (61, 10, 7, none, 3096)), .inr (.inl (294, 2, 7, none, 2114)), .inl (.iconst (1)), .inl .aaload, .inl (.iload_n 1), .inl .iaload, .inr (.inr (.inl ((.if_icmp .ge (17)), 6))), .inl (.aload_n 0), .inr (.inl (61, 10, 7, none, 3096)), .inl (.iload_n 1), .inl (.iload_n 2), .inl (.iconst (2)), .inl .isub]),
    (77, [.inl (.iconst (-1)), .inr (.inr (.inr (.inr (.inr (.inr (.inr (.inr (.inl 7))))))))]),
    (78, [.inr (.inr (.inr (.inr (.inr (.inr (.inr (.inr (.inr (.inl .ireturn)))))))))])])
def tn_9 : pe_Mt := (⟨"LinkedTongue", "sign", "(II)I"⟩, prog_1_method_19_code, 5, (Option.some Jvm.ClassFile.FieldType.int), [], 6102, [
    (0, [.inl (.iload_n 1), .inr (.inr (.inl ((.ifCond .lt (8)), 1))), .inl (.iload_n 1), .inl (.iconst (2)), .inr (.inr (.inl ((.if_icmp .lt (5)), 2))), .inr (.inr (.inr (.inr (.inr (.inr (.inr (.inr (.inl 1))))))))]),
    (9, [.inl (.iconst (-1)), .inr (.inr (.inr (.inr (.inr (.inr (.inr (.inr (.inr (.inl .ireturn)))))))))]),
    (11, [.inl (.aload_n 0), .inr (.inl (76, 10, 9, none, 3098)), .inl (.iload_n 1), .inl .aaload, .inl (.astore_n 3), .inl (.aload_n 3), .inr (.inl (196, 8, 13, none, 3046)), .inl (.iconst (2)), .inr (.inr (.inl ((.if_icmp .eq (11)), 3))), .inl (.aload_n 3), .inr (.inl (196, 8, 13, none, 3046)), .inl (.iconst (3)), .inr (.inr (.inl ((.if_icmp .ne (7)), 4))), .inr (.inr (.inr (.inr (.inr (.inr (.inr (.inr (.inl 3))))))))]),
    (34, [.inl (.iconst (1)), .inr (.inr (.inl ((.goto (4)), 5)))]),
    (38, [.inl (.iconst (0)), .inr (.inr (.inr (.inr (.inr (.inr (.inr (.inr (.inl 5))))))))]),
    (39, [.inl (.istore 4), .inl (.iload 4), .inr (.inr (.inl ((.ifCond .eq (26)), 6))), .inl (.aload_n 3), .inr (.inl (249, 8, 14, none, 3047)), .inl (.iconst (3)), .inr (.inr (.inl ((.if_icmp .ne (18)), 6))), .inl (.iload_n 2), .inr (.inr (.inl ((.ifCond .lt (14)), 6))), .inl (.iload_n 2), .inl (.aload_n 3), .inr (.inl (252, 8, 15, none, 3049))]),
    (69, [.inl (.iconst (-1)), .inr (.inr (.inr (.inr (.inr (.inr (.inr (.inr (.inr (.inl .ireturn)))))))))]),
    (71, [.inl (.aload_n 0), .inr (.inl (20, 10, 2, none, 3091)), .inr (.inl (190, 9, 0, none, 150)), .inl (.aload_n 3), .inr (.inl (252, 8, 15, none, 3049))])])
def tn_10 : pe_Mt := (⟨"LinkedTongue", "site", "(II)I"⟩, prog_1_method_12_code, 3, (Option.some Jvm.ClassFile.FieldType.int), [], 6049, [
    (0, [.inl (.iload_n 1), .inr (.inr (.inl ((.ifCond .lt (24)), 1))), .inl (.iload_n 1), .inl (.aload_n 0), .inr (.inl (34, 10, 4, none, 3093)), .inr (.inl (168, 0, 9, none, 1064)), .inr (.inr (.inl ((.if_icmp .ge (13)), 1))), .inl (.iload_n 2), .inr (.inr (.inl ((.ifCond .lt (9)), 1))), .inl (.iload_n 2), .inl (.bipush (10)), .inr (.inr (.inl ((.if_icmp .le (5)), 2))), .inr (.inr (.inr (.inr (.inr (.inr (.inr (.inr (.inl 1))))))))]),
    (25, [.inl (.iconst (-1)), .inr (.inr (.inr (.inr (.inr (.inr (.inr (.inr (.inr (.inl .ireturn)))))))))]),
    (27, [.inl (.aload_n 0), .inr (.inl (34, 10, 4, none, 3093)), .inr (.inl (171, 0, 8, none, 1061)), .inl (.iload_n 2), .inl .aaload, .inl (.iload_n 1), .inl .iaload, .inr (.inr (.inr (.inr (.inr (.inr (.inr (.inr (.inr (.inl .ireturn)))))))))])])
def tn_11 : pe_Mt := (⟨"LinkedTongue", "start", "(II)Z"⟩, prog_1_method_15_code, 4, (Option.some Jvm.ClassFile.FieldType.boolean), [], 6069, [
    (0, [.inl (.iload_n 1), .inr (.inr (.inl ((.ifCond .lt (23)), 1))), .inl (.iload_n 1), .inl (.iconst (2)), .inr (.inr (.inl ((.if_icmp .ge (18)), 1))), .inl (.iload_n 2), .inr (.inr (.inl ((.ifCond .lt (14)), 1))), .inl (.iload_n 2), .inl (.aload_n 0), .inr (.inl (34, 10, 4, none, 3093)), .inr (.inl (142, 0, 3, none, 1043)), .inr (.inr (.inl ((.if_icmp .lt (5)), 2))), .inr (.inr (.inr (.inr (.inr (.inr (.inr (.inr (.inl 1))))))))]),
    (24, [.inl (.iconst (0)), .inr (.inr (.inr (.inr (.inr (.inr (.inr (.inr (.inr (.inl .ireturn)))))))))]),
    (26, [.inl (.aload_n 0), .inr (.inl (76, 10, 9, none, 3098)), .inl (.iload_n 1), .inl .aaload, .inl (.astore_n 3), .inl (.aload_n 3), .inr (.inl (196, 8, 13, none, 3046)), .inl (.iconst (1)), .inr (.inr (.inl ((.if_icmp .eq (15)), 3))), .inl (.aload_n 0), .inr (.inl (61, 10, 7, none, 3096)), .inl (.iconst (0)), .inl (.iconst (1))]),
    (53, [.inl (.iconst (0)), .inr (.inr (.inr (.inr (.inr (.inr (.inr (.inr (.inr (.inl .ireturn)))))))))]),
    (55, [.inl (.aload_n 3), .inl (.aload_n 0), .inr (.inl (34, 10, 4, none, 3093)), .inr (.inl (202, 0, 2, none, 1039)), .inl (.iload_n 2), .inl .iaload])])
def tn_12 : pe_Mt := (⟨"LinkedTongue", "subtype", "(II)Z"⟩, prog_1_method_8_code, 4, (Option.some Jvm.ClassFile.FieldType.boolean), [], 5043, [
    (0, [.inl (.bipush (9)), .inl (.aload_n 0), .inr (.inl (61, 10, 7, none, 3096)), .inr (.inl (113, 2, 1, none, 2095)), .inr (.inl (125, 3, 2, none, 2013)), .inl .iadd, .inl (.istore_n 3), .inl (.iload_n 1), .inr (.inr (.inl ((.ifCond .le (36)), 1))), .inl (.iload_n 2), .inr (.inr (.inl ((.ifCond .le (32)), 1))), .inl (.iload_n 1), .inl (.iload_n 3), .inr (.inr (.inl ((.if_icmp .ge (27)), 1))), .inl (.iload_n 2), .inl (.iload_n 3), .inr (.inr (.inl ((.if_icmp .ge (22)), 1))), .inl (.aload_n 0), .inr (.inl (61, 10, 7, none, 3096)), .inr (.inl (113, 2, 1, none, 2095)), .inl (.iload_n 1), .inl (.iload_n 2), .inr (.inr (.inr (.inr (.inr (.inl (138, 17, 2, 3, [5044, 5045, 15, 5046, 0])))))), .inr (.inr (.inl ((.ifCond .eq (7)), 1))), .inl (.iconst (1)), .inr (.inr (.inl ((.goto (4)), 2)))]),
    (51, [.inl (.iconst (0)), .inr (.inr (.inr (.inr (.inr (.inr (.inr (.inr (.inl 2))))))))]),
    (52, [.inr (.inr (.inr (.inr (.inr (.inr (.inr (.inr (.inr (.inl .ireturn)))))))))])])
def tn_13 : pe_Mt := (⟨"LinkedTongue", "task", "(II)I"⟩, prog_1_method_17_code, 4, (Option.some Jvm.ClassFile.FieldType.int), [], 6098, [
    (0, [.inl (.iload_n 1), .inr (.inr (.inl ((.ifCond .lt (8)), 1))), .inl (.iload_n 1), .inl (.iconst (2)), .inr (.inr (.inl ((.if_icmp .lt (5)), 2))), .inr (.inr (.inr (.inr (.inr (.inr (.inr (.inr (.inl 1))))))))]),
    (9, [.inl (.iconst (-1)), .inr (.inr (.inr (.inr (.inr (.inr (.inr (.inr (.inr (.inl .ireturn)))))))))]),
    (11, [.inl (.aload_n 0), .inr (.inl (76, 10, 9, none, 3098)), .inl (.iload_n 1), .inl .aaload, .inl (.astore_n 3), .inl (.iload_n 2), .inr (.inr (.inr (.inr (.inr (.inr (.inr (.inr (.inr (.inr (.inr (.inl ((.tableswitch (97) (0) (4) #[(33), (38), (43), (51), (74)]), 33, (0), [3, 4, 5, 6, 9], 12))))))))))))]),
    (52, [.inl (.aload_n 3), .inr (.inl (196, 8, 13, none, 3046)), .inr (.inr (.inr (.inr (.inr (.inr (.inr (.inr (.inr (.inl .ireturn)))))))))]),
    (57, [.inl (.aload_n 3), .inr (.inl (225, 8, 4, none, 3032)), .inr (.inr (.inr (.inr (.inr (.inr (.inr (.inr (.inr (.inl .ireturn)))))))))]),
    (62, [.inl (.aload_n 3), .inr (.inl (228, 8, 3, none, 3030)), .inr (.inl (232, 7, 2, none, 1231)), .inr (.inr (.inr (.inr (.inr (.inr (.inr (.inr (.inr (.inl .ireturn)))))))))]),
    (70, [.inl (.aload_n 3), .inr (.inl (225, 8, 4, none, 3032)), .inr (.inr (.inl ((.ifCond .le (17)), 7))), .inl (.aload_n 3), .inr (.inl (237, 8, 5, none, 3035)), .inl (.aload_n 3), .inr (.inl (225, 8, 4, none, 3032)), .inl (.iconst (1)), .inl .isub, .inl .iaload, .inr (.inr (.inl ((.goto (4)), 8)))]),
    (91, [.inl (.iconst (-1)), .inr (.inr (.inr (.inr (.inr (.inr (.inr (.inr (.inl 8))))))))]),
    (92, [.inr (.inr (.inr (.inr (.inr (.inr (.inr (.inr (.inr (.inl .ireturn)))))))))]),
    (93, [.inl (.aload_n 3), .inr (.inl (225, 8, 4, none, 3032)), .inr (.inr (.inl ((.ifCond .le (17)), 10))), .inl (.aload_n 3), .inr (.inl (239, 8, 6, none, 3037)), .inl (.aload_n 3), .inr (.inl (225, 8, 4, none, 3032)), .inl (.iconst (1)), .inl .isub, .inl .iaload, .inr (.inr (.inl ((.goto (4)), 11)))]),
    (114, [.inl (.iconst (-1)), .inr (.inr (.inr (.inr (.inr (.inr (.inr (.inr (.inl 11))))))))]),
    (115, [.inr (.inr (.inr (.inr (.inr (.inr (.inr (.inr (.inr (.inl .ireturn)))))))))]),
    (116, [.inl (.iconst (-1)), .inr (.inr (.inr (.inr (.inr (.inr (.inr (.inr (.inr (.inl .ireturn)))))))))])])
def tn_14 : pe_Mt := (⟨"LinkedTongue", "thing", "(II)I"⟩, prog_1_method_21_code, 5, (Option.some Jvm.ClassFile.FieldType.int), [], 6112, [
    (0, [.inl (.iload_n 1), .inr (.inr (.inl ((.ifCond .lt (14)), 1))), .inl (.iload_n 1), .inl (.aload_n 0), .inr (.inl (61, 10, 7, none, 3096)), .inr (.inl (288, 2, 3, none, 2103)), .inr (.inr (.inl ((.if_icmp .lt (5)), 2))), .inr (.inr (.inr (.inr (.inr (.inr (.inr (.inr (.inl 1))))))))]),
    (15, [.inl (.iconst (-1)), .inr (.inr (.inr (.inr (.inr (.inr (.inr (.inr (.inr (.inl .ireturn)))))))))]),
    (17, [.inl (.aload_n 0), .inr (.inl (61, 10, 7, none, 3096)), .inr (.inl (291, 2, 2, none, 2101)), .inl (.astore_n 3), .inl (.aload_n 3), .inl (.iconst (1)), .inl .aaload, .inl (.iload_n 1), .inl .iaload, .inl (.iconst (-1)), .inr (.inr (.inl ((.if_icmp .eq (7)), 3))), .inl (.iconst (1)), .inr (.inr (.inl ((.goto (4)), 4)))]),
    (38, [.inl (.iconst (0)), .inr (.inr (.inr (.inr (.inr (.inr (.inr (.inr (.inl 4))))))))]),
    (39, [.inl (.istore 4), .inl (.iload_n 2), .inr (.inr (.inr (.inr (.inr (.inr (.inr (.inr (.inr (.inr (.inr (.inl ((.tableswitch (127) (0) (5) #[(38), (46), (52), (77), (102), (108)]), 38, (0), [5, 6, 7, 10, 13, 14], 17))))))))))))]),
    (80, [.inl (.aload_n 3), .inl (.iconst (0)), .inl .aaload, .inl (.iload_n 1), .inl .iaload, .inl (.iconst (4)), .inl .isub, .inr (.inr (.inr (.inr (.inr (.inr (.inr (.inr (.inr (.inl .ireturn)))))))))]),
    (88, [.inl (.aload_n 3), .inl (.iconst (1)), .inl .aaload, .inl (.iload_n 1), .inl .iaload, .inr (.inr (.inr (.inr (.inr (.inr (.inr (.inr (.inr (.inl .ireturn)))))))))]),
    (94, [.inl (.iload 4), .inr (.inr (.inl ((.ifCond .eq (21)), 8))), .inl (.aload_n 0), .inr (.inl (61, 10, 7, none, 3096)), .inr (.inl (294, 2, 7, none, 2114)), .inl (.iconst (0)), .inl .aaload, .inl (.aload_n 3), .inl (.iconst (1)), .inl .aaload, .inl (.iload_n 1), .inl .iaload, .inl .iaload, .inr (.inr (.inl ((.goto (4)), 9)))]),
    (117, [.inl (.iconst (-1)), .inr (.inr (.inr (.inr (.inr (.inr (.inr (.inr (.inl 9))))))))]),
    (118, [.inr (.inr (.inr (.inr (.inr (.inr (.inr (.inr (.inr (.inl .ireturn)))))))))]),
    (119, [.inl (.aload_n 3), .inl (.iconst (0)), .inl .aaload, .inl (.iload_n 1), .inl .iaload, .inl (.bipush (7)), .inr (.inr (.inl ((.if_icmp .ne (11)), 11))), .inl (.aload_n 3), .inl (.iconst (2)), .inl .aaload, .inl (.iload_n 1), .inl .iaload, .inr (.inr (.inl ((.goto (9)), 12)))]),
    (137, [.inl (.aload_n 3), .inl (.bipush (7)), .inl .aaload, .inl (.iload_n 1), .inl .iaload, .inr (.inr (.inr (.inr (.inr (.inr (.inr (.inr (.inl 12))))))))]),
    (143, [.inr (.inr (.inr (.inr (.inr (.inr (.inr (.inr (.inr (.inl .ireturn)))))))))]),
    (144, [.inl (.aload_n 3), .inl (.iconst (3)), .inl .aaload, .inl (.iload_n 1), .inl .iaload, .inr (.inr (.inr (.inr (.inr (.inr (.inr (.inr (.inr (.inl .ireturn)))))))))]),
    (150, [.inl (.aload_n 3), .inl (.iconst (0)), .inl .aaload, .inl (.iload_n 1), .inl .iaload, .inl (.iconst (5)), .inr (.inr (.inl ((.if_icmp .ne (11)), 15))), .inl (.aload_n 3), .inl (.iconst (2)), .inl .aaload, .inl (.iload_n 1), .inl .iaload, .inr (.inr (.inl ((.goto (4)), 16)))]),
    (167, [.inl (.iconst (-1)), .inr (.inr (.inr (.inr (.inr (.inr (.inr (.inr (.inl 16))))))))]),
    (168, [.inr (.inr (.inr (.inr (.inr (.inr (.inr (.inr (.inr (.inl .ireturn)))))))))]),
    (169, [.inl (.iconst (-1)), .inr (.inr (.inr (.inr (.inr (.inr (.inr (.inr (.inr (.inl .ireturn)))))))))])])
def tn_15 : pe_Mt := (⟨"LinkedTongue", "trace", "(I)I"⟩, prog_1_method_25_code, 2, (Option.some Jvm.ClassFile.FieldType.int), [], 6128, [
    (0, [.inl (.iload_n 1), .inr (.inr (.inl ((.ifCond .lt (14)), 1))), .inl (.iload_n 1), .inl (.aload_n 0), .inr (.inl (61, 10, 7, none, 3096)), .inr (.inl (319, 2, 15, none, 2128)), .inr (.inr (.inl ((.if_icmp .lt (7)), 2))), .inr (.inr (.inr (.inr (.inr (.inr (.inr (.inr (.inl 1))))))))]),
    (15, [.inl (.iconst (-1)), .inr (.inr (.inl ((.goto (12)), 3)))]),
    (19, [.inl (.aload_n 0), .inr (.inl (61, 10, 7, none, 3096)), .inr (.inl (322, 2, 14, none, 2126)), .inl (.iload_n 1), .inl .iaload, .inr (.inr (.inr (.inr (.inr (.inr (.inr (.inr (.inl 3))))))))]),
    (28, [.inr (.inr (.inr (.inr (.inr (.inr (.inr (.inr (.inr (.inl .ireturn)))))))))])])
def tn_16 : pe_Mt := (⟨"LinkedTongue", "type", "(II)I"⟩, prog_1_method_6_code, 4, (Option.some Jvm.ClassFile.FieldType.int), [], 5035, [
    (0, [.inl (.aload_n 0), .inr (.inl (61, 10, 7, none, 3096)), .inr (.inl (113, 2, 1, none, 2095)), .inl (.astore_n 3), .inl (.iload_n 1), .inr (.inr (.inl ((.ifCond .lt (20)), 1))), .inl (.iload_n 1), .inl (.aload_n 3), .inr (.inl (125, 3, 2, none, 2013)), .inr (.inr (.inl ((.if_icmp .ge (12)), 1))), .inl (.iload_n 2), .inr (.inr (.inl ((.ifCond .lt (8)), 1))), .inl (.iload_n 2), .inl (.iconst (4)), .inr (.inr (.inl ((.if_icmp .le (5)), 2))), .inr (.inr (.inr (.inr (.inr (.inr (.inr (.inr (.inl 1))))))))]),
    (29, [.inl (.iconst (-1)), .inr (.inr (.inr (.inr (.inr (.inr (.inr (.inr (.inr (.inl .ireturn)))))))))]),
    (31, [.inl (.aload_n 3), .inr (.inl (128, 3, 1, none, 2008)), .inl (.iload_n 2), .inl .aaload, .inl (.iload_n 1), .inl .iaload, .inr (.inr (.inr (.inr (.inr (.inr (.inr (.inr (.inr (.inl .ireturn)))))))))])])
def tn_17 : pe_Mt := (⟨"LinkedTongue$Host", "isSubtype", "(II)Z"⟩, prog_5_method_19_code, 3, (Option.some Jvm.ClassFile.FieldType.boolean), [], 5047, [
    (0, [.inl (.iload_n 1), .inl (.iload_n 2), .inr (.inr (.inl ((.if_icmp .eq (13)), 1))), .inl (.iload_n 1), .inl (.iconst (1)), .inr (.inr (.inl ((.if_icmp .ne (10)), 2))), .inl (.iload_n 2), .inl (.iconst (2)), .inr (.inr (.inl ((.if_icmp .ne (5)), 2))), .inr (.inr (.inr (.inr (.inr (.inr (.inr (.inr (.inl 1))))))))]),
    (15, [.inl (.iconst (1)), .inr (.inr (.inr (.inr (.inr (.inr (.inr (.inr (.inr (.inl .ireturn)))))))))]),
    (17, [.inl (.iload_n 2), .inl (.bipush (8)), .inr (.inr (.inl ((.if_icmp .ne (14)), 5))), .inl (.iload_n 1), .inl (.iconst (3)), .inr (.inr (.inl ((.if_icmp .le (7)), 3))), .inl (.iconst (1)), .inr (.inr (.inl ((.goto (4)), 4)))]),
    (32, [.inl (.iconst (0)), .inr (.inr (.inr (.inr (.inr (.inr (.inr (.inr (.inl 4))))))))]),
    (33, [.inr (.inr (.inr (.inr (.inr (.inr (.inr (.inr (.inr (.inl .ireturn)))))))))]),
    (34, [.inl (.iload_n 1), .inl (.bipush (9)), .inr (.inr (.inl ((.if_icmp .lt (34)), 6))), .inl (.iload_n 2), .inl (.bipush (9)), .inr (.inr (.inl ((.if_icmp .lt (28)), 6))), .inl (.aload_n 0), .inr (.inl (34, 3, 6, none, 2023)), .inl (.iload_n 1), .inl (.bipush (9)), .inl .isub, .inl .laload, .inl (.iload_n 2), .inl (.bipush (9)), .inl .isub, .inl .lushr, .inl (.lconst 1), .inl .land, .inl (.lconst 1), .inl .lcmp, .inr (.inr (.inl ((.ifCond .ne (7)), 6))), .inl (.iconst (1)), .inr (.inr (.inl ((.goto (4)), 7)))]),
    (71, [.inl (.iconst (0)), .inr (.inr (.inr (.inr (.inr (.inr (.inr (.inr (.inl 7))))))))]),
    (72, [.inr (.inr (.inr (.inr (.inr (.inr (.inr (.inr (.inr (.inl .ireturn)))))))))])])
def tn_18 : pe_Mt := (⟨"LinkedTongueModel", "code", "(III)I"⟩, prog_13_method_79_code, 5, (Option.some Jvm.ClassFile.FieldType.int), [], 13194, [
    (0, [.inl (.aload_n 0), .inl (.iconst (0)), .inr (.inr (.inr (.inr (.inl (366, 15, 0, 0, none, 9190))))), .inl (.iload_n 1), .inl .i2l, .inl (.lconst 0), .inl (.aload_n 0), .inr (.inl (655, 15, 34, none, 9224)), .inl (.iconst (1)), .inl .isub, .inl .i2l, .inr (.inr (.inr (.inr (.inr (.inr (.inl (376, 22, 3, [12024, 12025, 19]))))))), .inr (.inr (.inl ((.ifCond .eq (21)), 1))), .inl (.iload_n 2), .inl .i2l, .inl (.lconst 0), .inl (.aload_n 0), .inr (.inl (88, 15, 40, none, 9230)), .inl (.iload_n 1), .inl .iaload, .inl (.iconst (1)), .inl .isub, .inl .i2l, .inr (.inr (.inr (.inr (.inr (.inr (.inl (376, 22, 3, [12024, 12025, 19]))))))), .inr (.inr (.inl ((.ifCond .ne (5)), 2))), .inr (.inr (.inr (.inr (.inr (.inr (.inr (.inr (.inl 1))))))))]),
    (39, [.inl (.iconst (-1)), .inr (.inr (.inr (.inr (.inr (.inr (.inr (.inr (.inr (.inl .ireturn)))))))))]),
    (41, [.inl (.aload_n 0), .inr (.inl (85, 15, 39, none, 9229)), .inl (.iload_n 1), .inl .iaload, .inl (.iload_n 2), .inl .iadd, .inl (.istore 4), .inl (.iload_n 3), .inr (.inr (.inl ((.ifCond .ne (13)), 3))), .inl (.aload_n 0), .inr (.inl (97, 15, 44, none, 9234)), .inl (.iload 4), .inl .iaload, .inr (.inr (.inl ((.goto (34)), 6)))]),
    (65, [.inl (.iload_n 3), .inl (.iconst (1)), .inr (.inr (.inl ((.if_icmp .ne (13)), 4))), .inl (.aload_n 0), .inr (.inl (100, 15, 45, none, 9235)), .inl (.iload 4), .inl .iaload, .inr (.inr (.inl ((.goto (19)), 6)))]),
    (80, [.inl (.iload_n 3), .inl (.iconst (2)), .inr (.inr (.inl ((.if_icmp .ne (13)), 5))), .inl (.aload_n 0), .inr (.inl (103, 15, 46, none, 9236)), .inl (.iload 4), .inl .iaload, .inr (.inr (.inl ((.goto (4)), 6)))]),
    (95, [.inl (.iconst (-1)), .inr (.inr (.inr (.inr (.inr (.inr (.inr (.inr (.inl 6))))))))]),
    (96, [.inr (.inr (.inr (.inr (.inr (.inr (.inr (.inr (.inr (.inl .ireturn)))))))))])])
def tn_19 : pe_Mt := (⟨"LinkedTongueModel", "count", "(I)I"⟩, prog_13_method_208_code, 3, (Option.some Jvm.ClassFile.FieldType.int), [], 16013, [
    (0, [.inl (.aload_n 0), .inl (.iconst (0)), .inr (.inr (.inr (.inr (.inl (366, 15, 0, 0, none, 9190))))), .inl (.aload_n 0), .inr (.inl (360, 15, 179, none, 10128)), .inl (.astore_n 2), .inl (.aload_n 2), .inl (.iconst (0)), .inl (.aload_n 0), .inr (.inl (380, 15, 3, none, 9193)), .inl .iastore, .inl (.aload_n 2), .inl (.iconst (1)), .inl (.aload_n 0), .inr (.inl (27, 15, 13, none, 9203)), .inr (.inl (480, 12, 1, (some "LinkedTongueModel"), 9076)), .inl .iastore, .inl (.aload_n 2), .inl (.iconst (2)), .inl (.aload_n 0), .inr (.inl (27, 15, 13, none, 9203)), .inr (.inl (489, 12, 11, (some "LinkedTongueModel"), 9095)), .inl .iastore, .inl (.aload_n 2), .inl (.iconst (3)), .inl (.aload_n 0), .inr (.inl (610, 15, 33, none, 9223)), .inl .iastore, .inl (.aload_n 2), .inl (.iconst (4)), .inl (.aload_n 0), .inr (.inl (655, 15, 34, none, 9224)), .inl .iastore, .inl (.aload_n 2), .inl (.iconst (5)), .inl (.aload_n 0), .inr (.inl (842, 15, 43, none, 9233)), .inl .iastore, .inl (.aload_n 2), .inl (.bipush (6)), .inr (.inr (.inr (.inr (.inr (.inr (.inr (.inr (.inl 1))))))))]),
    (61, [.inl (.aload_n 0), .inr (.inl (845, 15, 47, none, 9237)), .inl .iastore, .inl (.aload_n 2), .inl (.bipush (7)), .inl (.aload_n 0), .inr (.inl (862, 15, 48, none, 9238)), .inl .iastore, .inl (.aload_n 2), .inl (.bipush (8)), .inl (.aload_n 0), .inr (.inl (607, 15, 16, none, 9206)), .inl .iastore, .inl (.aload_n 2), .inl (.bipush (9)), .inl (.aload_n 0), .inr (.inl (613, 15, 19, none, 9209)), .inl .iastore, .inl (.aload_n 2), .inl (.bipush (10)), .inl (.aload_n 0), .inr (.inl (870, 15, 68, none, 10018)), .inl .iastore, .inl (.aload_n 2), .inl (.bipush (11)), .inl (.aload_n 0), .inr (.inl (873, 15, 69, none, 10019)), .inl .iastore, .inl (.aload_n 2), .inl (.bipush (12)), .inl (.aload_n 0), .inr (.inl (882, 15, 87, none, 10037)), .inl .iastore, .inl (.aload_n 2), .inl (.bipush (13)), .inl (.aload_n 0), .inr (.inl (901, 15, 114, none, 10064)), .inl .iastore, .inl (.aload_n 2), .inl (.bipush (14)), .inr (.inr (.inr (.inr (.inr (.inr (.inr (.inr (.inl 2))))))))]),
    (125, [.inl (.aload_n 0), .inr (.inl (904, 15, 115, none, 10065)), .inl .iastore, .inl (.aload_n 2), .inl (.bipush (15)), .inl (.aload_n 0), .inr (.inl (892, 15, 104, none, 10054)), .inl .iastore, .inl (.aload_n 2), .inl (.bipush (16)), .inl (.aload_n 0), .inr (.inl (895, 15, 106, none, 10056)), .inl .iastore, .inl (.aload_n 2), .inl (.bipush (17)), .inl (.aload_n 0), .inr (.inl (898, 15, 108, none, 10058)), .inl .iastore, .inl (.iload_n 1), .inl .i2l, .inr (.inr (.inr (.inr (.inr (.inr (.inr (.inr (.inr (.inr (.inl (1408, (20), 16014))))))))))), .inr (.inr (.inr (.inr (.inr (.inr (.inr (.inr (.inr (.inr (.inl (1410, (23), 16015))))))))))), .inr (.inr (.inr (.inr (.inr (.inr (.inl (376, 22, 3, [12024, 12025, 19]))))))), .inr (.inr (.inl ((.ifCond .eq (13)), 3))), .inl (.aload_n 0), .inr (.inl (231, 15, 109, none, 10059)), .inl (.iload_n 1), .inl (.bipush (20)), .inl .isub, .inl .iaload, .inr (.inr (.inr (.inr (.inr (.inr (.inr (.inr (.inr (.inl .ireturn)))))))))]),
    (178, [.inl (.iload_n 1), .inl .i2l, .inl (.lconst 0), .inr (.inr (.inr (.inr (.inr (.inr (.inr (.inr (.inr (.inr (.inl (1412, (17), 16016))))))))))), .inr (.inr (.inr (.inr (.inr (.inr (.inl (376, 22, 3, [12024, 12025, 19]))))))), .inr (.inr (.inl ((.ifCond .eq (9)), 4))), .inl (.aload_n 2), .inl (.iload_n 1), .inl .iaload, .inr (.inr (.inl ((.goto (4)), 5)))]),
    (196, [.inl (.iconst (-1)), .inr (.inr (.inr (.inr (.inr (.inr (.inr (.inr (.inl 5))))))))]),
    (197, [.inr (.inr (.inr (.inr (.inr (.inr (.inr (.inr (.inr (.inl .ireturn)))))))))])])
def tn_20 : pe_Mt := (⟨"LinkedTongueModel", "entry", "(III)I"⟩, prog_13_method_197_code, 5, (Option.some Jvm.ClassFile.FieldType.int), [], 15208, [
    (0, [.inl (.aload_n 0), .inl (.iconst (0)), .inr (.inr (.inr (.inr (.inl (366, 15, 0, 0, none, 9190))))), .inl (.iload_n 1), .inl .i2l, .inl (.lconst 0), .inl (.aload_n 0), .inr (.inl (845, 15, 47, none, 9237)), .inl (.iconst (1)), .inl .isub, .inl .i2l, .inr (.inr (.inr (.inr (.inr (.inr (.inl (376, 22, 3, [12024, 12025, 19]))))))), .inr (.inr (.inl ((.ifCond .eq (21)), 1))), .inl (.iload_n 2), .inl .i2l, .inl (.lconst 0), .inl (.aload_n 0), .inr (.inl (327, 15, 156, none, 10106)), .inl (.iload_n 1), .inl .iaload, .inl (.iconst (1)), .inl .isub, .inl .i2l, .inr (.inr (.inr (.inr (.inr (.inr (.inl (376, 22, 3, [12024, 12025, 19]))))))), .inr (.inr (.inl ((.ifCond .ne (5)), 2))), .inr (.inr (.inr (.inr (.inr (.inr (.inr (.inr (.inl 1))))))))]),
    (39, [.inl (.iconst (-1)), .inr (.inr (.inr (.inr (.inr (.inr (.inr (.inr (.inr (.inl .ireturn)))))))))]),
    (41, [.inl (.iconst (5)), .inl (.iload_n 1), .inl .imul, .inl (.iload_n 2), .inl .iadd, .inl (.istore 4), .inl (.iload_n 3), .inr (.inr (.inr (.inr (.inr (.inr (.inr (.inr (.inr (.inr (.inr (.inl ((.tableswitch (100) (0) (5) #[(39), (47), (55), (63), (71), (79)]), 39, (0), [3, 4, 5, 6, 7, 8], 11))))))))))))]),
    (88, [.inl (.aload_n 0), .inr (.inl (330, 15, 157, none, 10107)), .inl (.iload 4), .inl .iaload, .inr (.inr (.inr (.inr (.inr (.inr (.inr (.inr (.inr (.inl .ireturn)))))))))]),
    (96, [.inl (.aload_n 0), .inr (.inl (333, 15, 158, none, 10108)), .inl (.iload 4), .inl .iaload, .inr (.inr (.inr (.inr (.inr (.inr (.inr (.inr (.inr (.inl .ireturn)))))))))]),
    (104, [.inl (.aload_n 0), .inr (.inl (339, 15, 160, none, 10110)), .inl (.iload 4), .inl .iaload, .inr (.inr (.inr (.inr (.inr (.inr (.inr (.inr (.inr (.inl .ireturn)))))))))]),
    (112, [.inl (.aload_n 0), .inr (.inl (342, 15, 161, none, 10111)), .inl (.iload 4), .inl .iaload, .inr (.inr (.inr (.inr (.inr (.inr (.inr (.inr (.inr (.inl .ireturn)))))))))]),
    (120, [.inl (.aload_n 0), .inr (.inl (345, 15, 162, none, 10112)), .inl (.iload 4), .inl .iaload, .inr (.inr (.inr (.inr (.inr (.inr (.inr (.inr (.inr (.inl .ireturn)))))))))]),
    (128, [.inl (.aload_n 0), .inl (.iload 4), .inl (.aload_n 0), .inr (.inl (106, 15, 49, none, 9239)), .inl (.iload_n 1), .inl .iaload]),
    (147, [.inl (.iconst (0)), .inr (.inr (.inr (.inr (.inr (.inr (.inr (.inr (.inl 10))))))))]),
    (148, [.inr (.inr (.inr (.inr (.inr (.inr (.inr (.inr (.inr (.inl .ireturn)))))))))]),
    (149, [.inl (.iconst (-1)), .inr (.inr (.inr (.inr (.inr (.inr (.inr (.inr (.inr (.inl .ireturn)))))))))])])
def tn_21 : pe_Mt := (⟨"LinkedTongueModel", "function", "(II)I"⟩, prog_13_method_78_code, 3, (Option.some Jvm.ClassFile.FieldType.int), [], 13190, [
    (0, [.inl (.aload_n 0), .inl (.iconst (0)), .inr (.inr (.inr (.inr (.inl (366, 15, 0, 0, none, 9190))))), .inl (.iload_n 1), .inl .i2l, .inl (.lconst 0), .inl (.aload_n 0), .inr (.inl (655, 15, 34, none, 9224)), .inl (.iconst (1)), .inl .isub, .inl .i2l, .inr (.inr (.inr (.inr (.inr (.inr (.inl (376, 22, 3, [12024, 12025, 19]))))))), .inr (.inr (.inl ((.ifCond .ne (5)), 1))), .inl (.iconst (-1)), .inr (.inr (.inr (.inr (.inr (.inr (.inr (.inr (.inr (.inl .ireturn)))))))))]),
    (23, [.inl (.iload_n 2), .inr (.inr (.inr (.inr (.inr (.inr (.inr (.inr (.inr (.inr (.inr (.inl ((.tableswitch (82) (0) (5) #[(40), (47), (54), (61), (68), (75)]), 40, (0), [2, 3, 4, 5, 6, 7], 8))))))))))))]),
    (64, [.inl (.aload_n 0), .inr (.inl (73, 15, 35, none, 9225)), .inl (.iload_n 1), .inl .iaload, .inr (.inr (.inr (.inr (.inr (.inr (.inr (.inr (.inr (.inl .ireturn)))))))))]),
    (71, [.inl (.aload_n 0), .inr (.inl (79, 15, 37, none, 9227)), .inl (.iload_n 1), .inl .iaload, .inr (.inr (.inr (.inr (.inr (.inr (.inr (.inr (.inr (.inl .ireturn)))))))))]),
    (78, [.inl (.aload_n 0), .inr (.inl (82, 15, 38, none, 9228)), .inl (.iload_n 1), .inl .iaload, .inr (.inr (.inr (.inr (.inr (.inr (.inr (.inr (.inr (.inl .ireturn)))))))))]),
    (85, [.inl (.aload_n 0), .inr (.inl (88, 15, 40, none, 9230)), .inl (.iload_n 1), .inl .iaload, .inr (.inr (.inr (.inr (.inr (.inr (.inr (.inr (.inr (.inl .ireturn)))))))))]),
    (92, [.inl (.aload_n 0), .inr (.inl (91, 15, 41, none, 9231)), .inl (.iload_n 1), .inl .iaload, .inr (.inr (.inr (.inr (.inr (.inr (.inr (.inr (.inr (.inl .ireturn)))))))))]),
    (99, [.inl (.aload_n 0), .inr (.inl (94, 15, 42, none, 9232)), .inl (.iload_n 1), .inl .iaload, .inr (.inr (.inr (.inr (.inr (.inr (.inr (.inr (.inr (.inl .ireturn)))))))))]),
    (106, [.inl (.iconst (-1)), .inr (.inr (.inr (.inr (.inr (.inr (.inr (.inr (.inr (.inl .ireturn)))))))))])])
def tn_22 : pe_Mt := (⟨"LinkedTongueModel", "in", "(JJJ)Z"⟩, prog_13_method_3_code, 6, (Option.some Jvm.ClassFile.FieldType.boolean), [], 12026, [
    (0, [.inl (.lload_n 0), .inl (.lload_n 2), .inl .lcmp, .inr (.inr (.inl ((.ifCond .lt (14)), 1))), .inl (.lload_n 0), .inl (.lload 4), .inl .lcmp, .inr (.inr (.inl ((.ifCond .gt (7)), 1))), .inl (.iconst (1)), .inr (.inr (.inl ((.goto (4)), 2)))]),
    (17, [.inl (.iconst (0)), .inr (.inr (.inr (.inr (.inr (.inr (.inr (.inr (.inl 2))))))))]),
    (18, [.inr (.inr (.inr (.inr (.inr (.inr (.inr (.inr (.inr (.inl .ireturn)))))))))])])
def tn_23 : pe_Mt := (⟨"LinkedTongueModel", "member", "(II)I"⟩, prog_13_method_32_code, 3, (Option.some Jvm.ClassFile.FieldType.int), [], 12152, [
    (0, [.inl (.aload_n 0), .inl (.iconst (0)), .inr (.inr (.inr (.inr (.inl (366, 15, 0, 0, none, 9190))))), .inl (.iload_n 1), .inl .i2l, .inl (.lconst 0), .inl (.aload_n 0), .inr (.inl (27, 15, 13, none, 9203)), .inr (.inl (489, 12, 11, (some "LinkedTongueModel"), 9095)), .inl (.iconst (1)), .inl .isub, .inl .i2l, .inr (.inr (.inr (.inr (.inr (.inr (.inl (376, 22, 3, [12024, 12025, 19]))))))), .inr (.inr (.inl ((.ifCond .ne (5)), 1))), .inl (.iconst (-1)), .inr (.inr (.inr (.inr (.inr (.inr (.inr (.inr (.inr (.inl .ireturn)))))))))]),
    (26, [.inl (.iload_n 2), .inr (.inr (.inr (.inr (.inr (.inr (.inr (.inr (.inr (.inr (.inr (.inl ((.tableswitch (113) (0) (5) #[(37), (47), (57), (75), (85), (95)]), 37, (0), [2, 3, 4, 7, 8, 9], 12))))))))))))]),
    (64, [.inl (.aload_n 0), .inr (.inl (27, 15, 13, none, 9203)), .inr (.inl (559, 12, 12, (some "LinkedTongueModel"), 9097)), .inl (.iload_n 1), .inl .iaload, .inr (.inr (.inr (.inr (.inr (.inr (.inr (.inr (.inr (.inl .ireturn)))))))))]),
    (74, [.inl (.aload_n 0), .inr (.inl (27, 15, 13, none, 9203)), .inr (.inl (571, 12, 13, (some "LinkedTongueModel"), 9099)), .inl (.iload_n 1), .inl .iaload, .inr (.inr (.inr (.inr (.inr (.inr (.inr (.inr (.inr (.inl .ireturn)))))))))]),
    (84, [.inl (.aload_n 0), .inr (.inl (27, 15, 13, none, 9203)), .inr (.inl (562, 12, 14, (some "LinkedTongueModel"), 9101)), .inl (.iload_n 1), .inl .baload, .inr (.inr (.inl ((.ifCond .eq (7)), 5))), .inl (.iconst (1)), .inr (.inr (.inl ((.goto (4)), 6)))]),
    (100, [.inl (.iconst (0)), .inr (.inr (.inr (.inr (.inr (.inr (.inr (.inr (.inl 6))))))))]),
    (101, [.inr (.inr (.inr (.inr (.inr (.inr (.inr (.inr (.inr (.inl .ireturn)))))))))]),
    (102, [.inl (.aload_n 0), .inr (.inl (27, 15, 13, none, 9203)), .inr (.inl (574, 12, 15, (some "LinkedTongueModel"), 9103)), .inl (.iload_n 1), .inl .iaload, .inr (.inr (.inr (.inr (.inr (.inr (.inr (.inr (.inr (.inl .ireturn)))))))))]),
    (112, [.inl (.aload_n 0), .inr (.inl (27, 15, 13, none, 9203)), .inr (.inl (588, 12, 16, (some "LinkedTongueModel"), 9105)), .inl (.iload_n 1), .inl .iaload, .inr (.inr (.inr (.inr (.inr (.inr (.inr (.inr (.inr (.inl .ireturn)))))))))]),
    (122, [.inl (.aload_n 0), .inr (.inl (27, 15, 13, none, 9203)), .inr (.inl (591, 12, 17, (some "LinkedTongueModel"), 9107)), .inl (.iload_n 1), .inl .baload, .inr (.inr (.inl ((.ifCond .eq (7)), 10))), .inl (.iconst (1)), .inr (.inr (.inl ((.goto (4)), 11)))]),
    (138, [.inl (.iconst (0)), .inr (.inr (.inr (.inr (.inr (.inr (.inr (.inr (.inl 11))))))))]),
    (139, [.inr (.inr (.inr (.inr (.inr (.inr (.inr (.inr (.inr (.inl .ireturn)))))))))]),
    (140, [.inl (.iload_n 2), .inl (.iconst (5)), .inr (.inr (.inl ((.if_icmp .le (39)), 13))), .inl (.iload_n 2), .inl (.bipush (6)), .inl .isub, .inl (.aload_n 0), .inr (.inl (27, 15, 13, none, 9203)), .inr (.inl (588, 12, 16, (some "LinkedTongueModel"), 9105)), .inl (.iload_n 1), .inl .iaload, .inr (.inr (.inl ((.if_icmp .ge (23)), 13))), .inl (.aload_n 0), .inr (.inl (27, 15, 13, none, 9203)), .inr (.inl (598, 12, 18, (some "LinkedTongueModel"), 9109)), .inl (.bipush (8)), .inl (.iload_n 1), .inl .imul, .inl (.iload_n 2), .inl .iadd, .inl (.bipush (6)), .inl .isub, .inl .iaload, .inr (.inr (.inl ((.goto (4)), 14)))]),
    (181, [.inl (.iconst (-1)), .inr (.inr (.inr (.inr (.inr (.inr (.inr (.inr (.inl 14))))))))]),
    (182, [.inr (.inr (.inr (.inr (.inr (.inr (.inr (.inr (.inr (.inl .ireturn)))))))))])])
def tn_24 : pe_Mt := (⟨"LinkedTongueModel", "name", "(II)I"⟩, prog_13_method_80_code, 3, (Option.some Jvm.ClassFile.FieldType.int), [], 13198, [
    (0, [.inl (.aload_n 0), .inl (.iconst (0)), .inr (.inr (.inr (.inr (.inl (366, 15, 0, 0, none, 9190))))), .inl (.iload_n 1), .inl .i2l, .inl (.lconst 0), .inl (.aload_n 0), .inr (.inl (607, 15, 16, none, 9206)), .inl (.iconst (1)), .inl .isub, .inl .i2l, .inr (.inr (.inr (.inr (.inr (.inr (.inl (376, 22, 3, [12024, 12025, 19]))))))), .inr (.inr (.inl ((.ifCond .eq (35)), 1))), .inl (.iload_n 2), .inl .i2l, .inl (.lconst 0), .inl (.aload_n 0), .inr (.inl (38, 15, 18, none, 9208)), .inl (.iload_n 1), .inl .iaload, .inl (.iconst (1)), .inl .isub, .inl .i2l, .inr (.inr (.inr (.inr (.inr (.inr (.inl (376, 22, 3, [12024, 12025, 19]))))))), .inr (.inr (.inl ((.ifCond .eq (17)), 1))), .inl (.aload_n 0), .inr (.inl (35, 15, 17, none, 9207)), .inl (.bipush (60)), .inl (.iload_n 1), .inl .imul, .inl (.iload_n 2), .inl .iadd, .inl .baload, .inr (.inr (.inl ((.goto (4)), 2)))]),
    (53, [.inl (.iconst (-1)), .inr (.inr (.inr (.inr (.inr (.inr (.inr (.inr (.inl 2))))))))]),
    (54, [.inr (.inr (.inr (.inr (.inr (.inr (.inr (.inr (.inr (.inl .ireturn)))))))))])])
def tn_25 : pe_Mt := (⟨"LinkedTongueModel", "output", "(I)I"⟩, prog_13_method_206_code, 2, (Option.some Jvm.ClassFile.FieldType.int), [], 16005, [
    (0, [.inl (.aload_n 0), .inl (.iconst (0)), .inr (.inr (.inr (.inr (.inl (366, 15, 0, 0, none, 9190))))), .inl (.iload_n 1), .inl .i2l, .inl (.lconst 0), .inl (.aload_n 0), .inr (.inl (892, 15, 104, none, 10054)), .inl (.iconst (1)), .inl .isub, .inl .i2l, .inr (.inr (.inr (.inr (.inr (.inr (.inl (376, 22, 3, [12024, 12025, 19]))))))), .inr (.inr (.inl ((.ifCond .eq (12)), 1))), .inl (.aload_n 0), .inr (.inl (224, 15, 105, none, 10055)), .inl (.iload_n 1), .inl .baload, .inr (.inr (.inl ((.goto (4)), 2)))]),
    (30, [.inl (.iconst (-1)), .inr (.inr (.inr (.inr (.inr (.inr (.inr (.inr (.inl 2))))))))]),
    (31, [.inr (.inr (.inr (.inr (.inr (.inr (.inr (.inr (.inr (.inl .ireturn)))))))))])])
def tn_26 : pe_Mt := (⟨"LinkedTongueModel", "shape", "(II)I"⟩, prog_13_method_205_code, 5, (Option.some Jvm.ClassFile.FieldType.int), [], 16001, [
    (0, [.inl (.aload_n 0), .inl (.iconst (0)), .inr (.inr (.inr (.inr (.inl (366, 15, 0, 0, none, 9190))))), .inl (.iload_n 1), .inl .i2l, .inl (.lconst 0), .inl (.aload_n 0), .inr (.inl (882, 15, 87, none, 10037)), .inl (.iconst (1)), .inl .isub, .inl .i2l, .inr (.inr (.inr (.inr (.inr (.inr (.inl (376, 22, 3, [12024, 12025, 19]))))))), .inr (.inr (.inl ((.ifCond .eq (7)), 1))), .inl (.iload_n 2), .inr (.inr (.inl ((.ifCond .ge (5)), 2))), .inr (.inr (.inr (.inr (.inr (.inr (.inr (.inr (.inl 1))))))))]),
    (25, [.inl (.iconst (-1)), .inr (.inr (.inr (.inr (.inr (.inr (.inr (.inr (.inr (.inl .ireturn)))))))))]),
    (27, [.inl (.iload_n 2), .inl (.iconst (2)), .inr (.inr (.inl ((.if_icmp .ge (23)), 5))), .inl (.iload_n 2), .inr (.inr (.inl ((.ifCond .ne (12)), 3))), .inl (.aload_n 0), .inr (.inl (184, 15, 88, none, 10038)), .inl (.iload_n 1), .inl .iaload, .inr (.inr (.inl ((.goto (9)), 4)))]),
    (45, [.inl (.aload_n 0), .inr (.inl (193, 15, 91, none, 10041)), .inl (.iload_n 1), .inl .iaload, .inr (.inr (.inr (.inr (.inr (.inr (.inr (.inr (.inl 4))))))))]),
    (51, [.inr (.inr (.inr (.inr (.inr (.inr (.inr (.inr (.inr (.inl .ireturn)))))))))]),
    (52, [.inl (.iload_n 2), .inl (.iconst (2)), .inl .isub, .inl (.istore_n 3), .inl (.iload_n 3), .inl (.aload_n 0), .inr (.inl (193, 15, 91, none, 10041)), .inl (.iload_n 1), .inl .iaload, .inr (.inr (.inl ((.if_icmp .lt (5)), 6))), .inl (.iconst (-1)), .inr (.inr (.inr (.inr (.inr (.inr (.inr (.inr (.inr (.inl .ireturn)))))))))]),
    (68, [.inl (.iload_n 1), .inl (.istore 4), .inr (.inr (.inr (.inr (.inr (.inr (.inr (.inr (.inl 7))))))))]),
    (71, [.inl (.aload_n 0), .inr (.inl (193, 15, 91, none, 10041)), .inl (.iload 4), .inl .iaload, .inl (.iload_n 3), .inl (.iconst (1)), .inl .iadd, .inr (.inr (.inl ((.if_icmp .le (15)), 8))), .inl (.aload_n 0), .inr (.inl (187, 15, 89, none, 10039)), .inl (.iload 4), .inl .iaload, .inl (.istore 4), .inr (.inr (.inl ((.goto (-22)), 7)))]),
    (96, [.inl (.aload_n 0), .inr (.inl (190, 15, 90, none, 10040)), .inl (.iload 4), .inl .iaload, .inr (.inr (.inr (.inr (.inr (.inr (.inr (.inr (.inr (.inl .ireturn)))))))))])])
def tn_27 : pe_Mt := (⟨"LinkedTongueModel", "sign", "(II)I"⟩, prog_13_method_201_code, 5, (Option.some Jvm.ClassFile.FieldType.int), [], 15224, [
    (0, [.inl (.aload_n 0), .inl (.iconst (0)), .inr (.inr (.inr (.inr (.inl (366, 15, 0, 0, none, 9190))))), .inl (.iload_n 1), .inl .i2l, .inl (.lconst 0), .inl (.lconst 1), .inr (.inr (.inr (.inr (.inr (.inr (.inl (376, 22, 3, [12024, 12025, 19]))))))), .inr (.inr (.inl ((.ifCond .eq (51)), 4))), .inl (.aload_n 0), .inr (.inl (270, 15, 132, none, 10082)), .inl (.iload_n 1), .inl .iaload, .inl (.iconst (2)), .inr (.inr (.inl ((.if_icmp .eq (13)), 1))), .inl (.aload_n 0), .inr (.inl (270, 15, 132, none, 10082)), .inl (.iload_n 1), .inl .iaload, .inl (.iconst (3)), .inr (.inr (.inl ((.if_icmp .ne (31)), 4))), .inr (.inr (.inr (.inr (.inr (.inr (.inr (.inr (.inl 1))))))))]),
    (35, [.inl (.aload_n 0), .inr (.inl (282, 15, 136, none, 10086)), .inl (.iload_n 1), .inl .i2l, .inl (.lconst 0), .inl (.lconst 1), .inr (.inr (.inr (.inr (.inr (.inr (.inl (376, 22, 3, [12024, 12025, 19]))))))), .inr (.inr (.inl ((.ifCond .eq (7)), 2))), .inl (.iload_n 1), .inr (.inr (.inl ((.goto (4)), 3)))]),
    (53, [.inl (.iconst (0)), .inr (.inr (.inr (.inr (.inr (.inr (.inr (.inr (.inl 3))))))))]),
    (54, [.inl .iaload, .inl (.iconst (3)), .inr (.inr (.inl ((.if_icmp .ne (7)), 4))), .inl (.iconst (1)), .inr (.inr (.inl ((.goto (4)), 5)))]),
    (63, [.inl (.iconst (0)), .inr (.inr (.inr (.inr (.inr (.inr (.inr (.inr (.inl 5))))))))]),
    (64, [.inl (.istore_n 3), .inl (.iload_n 3), .inr (.inr (.inl ((.ifCond .eq (13)), 6))), .inl (.aload_n 0), .inr (.inl (285, 15, 137, none, 10087)), .inl (.iload_n 1), .inl .laload, .inl .l2i, .inr (.inr (.inl ((.goto (4)), 7)))]),
    (79, [.inl (.iconst (0)), .inr (.inr (.inr (.inr (.inr (.inr (.inr (.inr (.inl 7))))))))]),
    (80, [.inl (.istore 4), .inl (.iload_n 3), .inr (.inr (.inl ((.ifCond .eq (39)), 8))), .inl (.iload_n 2), .inl .i2l, .inl (.lconst 0), .inl (.aload_n 0), .inr (.inl (49, 15, 23, none, 9213)), .inl (.iload 4), .inl .iaload, .inl (.iconst (1)), .inl .isub, .inl .i2l, .inr (.inr (.inr (.inr (.inr (.inr (.inl (376, 22, 3, [12024, 12025, 19]))))))), .inr (.inr (.inl ((.ifCond .eq (20)), 8))), .inl (.aload_n 0), .inr (.inl (43, 15, 21, none, 9211)), .inl (.aload_n 0), .inr (.inl (46, 15, 22, none, 9212)), .inl (.iload 4), .inl .iaload, .inl (.iload_n 2), .inl .iadd, .inl .baload, .inr (.inr (.inl ((.goto (4)), 9)))]),
    (122, [.inl (.iconst (-1)), .inr (.inr (.inr (.inr (.inr (.inr (.inr (.inr (.inl 9))))))))]),
    (123, [.inr (.inr (.inr (.inr (.inr (.inr (.inr (.inr (.inr (.inl .ireturn)))))))))])])
def tn_28 : pe_Mt := (⟨"LinkedTongueModel", "site", "(II)I"⟩, prog_13_method_196_code, 3, (Option.some Jvm.ClassFile.FieldType.int), [], 15204, [
    (0, [.inl (.aload_n 0), .inl (.iconst (0)), .inr (.inr (.inr (.inr (.inl (366, 15, 0, 0, none, 9190))))), .inl (.iload_n 1), .inl .i2l, .inl (.lconst 0), .inl (.aload_n 0), .inr (.inl (845, 15, 47, none, 9237)), .inl (.iconst (1)), .inl .isub, .inl .i2l, .inr (.inr (.inr (.inr (.inr (.inr (.inl (376, 22, 3, [12024, 12025, 19]))))))), .inr (.inr (.inl ((.ifCond .ne (5)), 1))), .inl (.iconst (-1)), .inr (.inr (.inr (.inr (.inr (.inr (.inr (.inr (.inr (.inl .ireturn)))))))))]),
    (23, [.inl (.iload_n 2), .inr (.inr (.inr (.inr (.inr (.inr (.inr (.inr (.inr (.inr (.inr (.inl ((.tableswitch (145) (0) (10) #[(60), (67), (74), (81), (88), (95), (102), (109), (116), (123), (130)]), 60, (0), [2, 3, 4, 5, 6, 7, 8, 9, 10, 11, 12], 15))))))))))))]),
    (84, [.inl (.aload_n 0), .inr (.inl (106, 15, 49, none, 9239)), .inl (.iload_n 1), .inl .iaload, .inr (.inr (.inr (.inr (.inr (.inr (.inr (.inr (.inr (.inl .ireturn)))))))))]),
    (91, [.inl (.aload_n 0), .inr (.inl (109, 15, 50, none, 10000)), .inl (.iload_n 1), .inl .iaload, .inr (.inr (.inr (.inr (.inr (.inr (.inr (.inr (.inr (.inl .ireturn)))))))))]),
    (98, [.inl (.aload_n 0), .inr (.inl (112, 15, 51, none, 10001)), .inl (.iload_n 1), .inl .iaload, .inr (.inr (.inr (.inr (.inr (.inr (.inr (.inr (.inr (.inl .ireturn)))))))))]),
    (105, [.inl (.aload_n 0), .inr (.inl (115, 15, 52, none, 10002)), .inl (.iload_n 1), .inl .iaload, .inr (.inr (.inr (.inr (.inr (.inr (.inr (.inr (.inr (.inl .ireturn)))))))))]),
    (112, [.inl (.aload_n 0), .inr (.inl (118, 15, 53, none, 10003)), .inl (.iload_n 1), .inl .iaload, .inr (.inr (.inr (.inr (.inr (.inr (.inr (.inr (.inr (.inl .ireturn)))))))))]),
    (119, [.inl (.aload_n 0), .inr (.inl (121, 15, 54, none, 10004)), .inl (.iload_n 1), .inl .iaload, .inr (.inr (.inr (.inr (.inr (.inr (.inr (.inr (.inr (.inl .ireturn)))))))))]),
    (126, [.inl (.aload_n 0), .inr (.inl (124, 15, 55, none, 10005)), .inl (.iload_n 1), .inl .iaload, .inr (.inr (.inr (.inr (.inr (.inr (.inr (.inr (.inr (.inl .ireturn)))))))))]),
    (133, [.inl (.aload_n 0), .inr (.inl (127, 15, 56, none, 10006)), .inl (.iload_n 1), .inl .iaload, .inr (.inr (.inr (.inr (.inr (.inr (.inr (.inr (.inr (.inl .ireturn)))))))))]),
    (140, [.inl (.aload_n 0), .inr (.inl (130, 15, 57, none, 10007)), .inl (.iload_n 1), .inl .iaload, .inr (.inr (.inr (.inr (.inr (.inr (.inr (.inr (.inr (.inl .ireturn)))))))))]),
    (147, [.inl (.aload_n 0), .inr (.inl (327, 15, 156, none, 10106)), .inl (.iload_n 1), .inl .iaload, .inr (.inr (.inr (.inr (.inr (.inr (.inr (.inr (.inr (.inl .ireturn)))))))))]),
    (154, [.inl (.aload_n 0), .inr (.inl (133, 15, 58, none, 10008)), .inl (.iload_n 1), .inl .baload, .inr (.inr (.inl ((.ifCond .eq (7)), 13))), .inl (.iconst (1)), .inr (.inr (.inl ((.goto (4)), 14)))]),
    (167, [.inl (.iconst (0)), .inr (.inr (.inr (.inr (.inr (.inr (.inr (.inr (.inl 14))))))))]),
    (168, [.inr (.inr (.inr (.inr (.inr (.inr (.inr (.inr (.inr (.inl .ireturn)))))))))]),
    (169, [.inl (.iconst (-1)), .inr (.inr (.inr (.inr (.inr (.inr (.inr (.inr (.inr (.inl .ireturn)))))))))])])
def tn_29 : pe_Mt := (⟨"LinkedTongueModel", "start", "(II)Z"⟩, prog_13_method_137_code, 3, (Option.some Jvm.ClassFile.FieldType.boolean), [], 13202, [
    (0, [.inl (.aload_n 0), .inl (.iconst (0)), .inr (.inr (.inr (.inr (.inl (366, 15, 0, 0, none, 9190))))), .inl (.iload_n 1), .inl .i2l, .inl (.lconst 0), .inl (.lconst 1), .inr (.inr (.inr (.inr (.inr (.inr (.inl (376, 22, 3, [12024, 12025, 19]))))))), .inr (.inr (.inl ((.ifCond .eq (43)), 1))), .inl (.iload_n 2), .inl .i2l, .inl (.lconst 0), .inl (.aload_n 0), .inr (.inl (610, 15, 33, none, 9223)), .inl (.iconst (1)), .inl .isub, .inl .i2l, .inr (.inr (.inr (.inr (.inr (.inr (.inl (376, 22, 3, [12024, 12025, 19]))))))), .inr (.inr (.inl ((.ifCond .eq (27)), 1))), .inl (.aload_n 0), .inr (.inl (270, 15, 132, none, 10082)), .inl (.iload_n 1), .inl .iaload, .inl (.iconst (1)), .inr (.inr (.inl ((.if_icmp .eq (17)), 1))), .inl (.aload_n 0), .inl (.aload_n 0), .inr (.inl (76, 15, 36, none, 9226)), .inl (.iload_n 2), .inl .iaload, .inl (.iconst (0))]),
    (55, [.inl (.iconst (0)), .inr (.inr (.inr (.inr (.inr (.inr (.inr (.inr (.inr (.inl .ireturn)))))))))]),
    (57, [.inl (.aload_n 0), .inr (.inl (273, 15, 133, none, 10083)), .inl (.iload_n 1), .inl (.iconst (0)), .inl .iastore, .inl (.aload_n 0), .inr (.inl (276, 15, 134, none, 10084)), .inl (.iload_n 1), .inl (.iconst (0)), .inl .iastore, .inl (.aload_n 0), .inr (.inl (279, 15, 135, none, 10085)), .inl (.iload_n 1), .inl (.iconst (0)), .inl .iastore, .inl (.aload_n 0), .inl (.iload_n 1)])])
def tn_30 : pe_Mt := (⟨"LinkedTongueModel", "subtype", "(II)Z"⟩, prog_13_method_33_code, 4, (Option.some Jvm.ClassFile.FieldType.boolean), [], 12156, [
    (0, [.inl (.aload_n 0), .inl (.iconst (0)), .inr (.inr (.inr (.inr (.inl (366, 15, 0, 0, none, 9190))))), .inl (.bipush (9)), .inl (.aload_n 0), .inr (.inl (27, 15, 13, none, 9203)), .inr (.inl (480, 12, 1, (some "LinkedTongueModel"), 9076)), .inl .iadd, .inl (.iconst (1)), .inl .isub, .inl (.istore_n 3), .inl (.iload_n 1), .inl .i2l, .inl (.lconst 1), .inl (.iload_n 3), .inl .i2l, .inr (.inr (.inr (.inr (.inr (.inr (.inl (376, 22, 3, [12024, 12025, 19]))))))), .inr (.inr (.inl ((.ifCond .eq (30)), 1))), .inl (.iload_n 2), .inl .i2l, .inl (.lconst 1), .inl (.iload_n 3), .inl .i2l, .inr (.inr (.inr (.inr (.inr (.inr (.inl (376, 22, 3, [12024, 12025, 19]))))))), .inr (.inr (.inl ((.ifCond .eq (19)), 1))), .inl (.aload_n 0), .inr (.inl (27, 15, 13, none, 9203)), .inl (.iload_n 1), .inl (.iload_n 2), .inr (.inr (.inr (.inr (.inr (.inl (604, 35, 2, 12, [12157, 12158, 24, 12159, 0])))))), .inr (.inr (.inl ((.ifCond .eq (7)), 1))), .inl (.iconst (1)), .inr (.inr (.inl ((.goto (4)), 2)))]),
    (56, [.inl (.iconst (0)), .inr (.inr (.inr (.inr (.inr (.inr (.inr (.inr (.inl 2))))))))]),
    (57, [.inr (.inr (.inr (.inr (.inr (.inr (.inr (.inr (.inr (.inl .ireturn)))))))))])])
def tn_31 : pe_Mt := (⟨"LinkedTongueModel", "task", "(II)I"⟩, prog_13_method_198_code, 4, (Option.some Jvm.ClassFile.FieldType.int), [], 15212, [
    (0, [.inl (.aload_n 0), .inl (.iconst (0)), .inr (.inr (.inr (.inr (.inl (366, 15, 0, 0, none, 9190))))), .inl (.iload_n 1), .inl .i2l, .inl (.lconst 0), .inl (.lconst 1), .inr (.inr (.inr (.inr (.inr (.inr (.inl (376, 22, 3, [12024, 12025, 19]))))))), .inr (.inr (.inl ((.ifCond .ne (5)), 1))), .inl (.iconst (-1)), .inr (.inr (.inr (.inr (.inr (.inr (.inr (.inr (.inr (.inl .ireturn)))))))))]),
    (17, [.inl (.sipush (200)), .inl (.iload_n 1), .inl .imul, .inl (.aload_n 0), .inr (.inl (273, 15, 133, none, 10083)), .inl (.iload_n 1), .inl .iaload, .inl .iadd, .inl (.iconst (1)), .inl .isub, .inl (.istore_n 3), .inl (.iload_n 2), .inr (.inr (.inr (.inr (.inr (.inr (.inr (.inr (.inr (.inr (.inr (.inl ((.tableswitch (96) (0) (4) #[(35), (42), (49), (56), (76)]), 35, (0), [2, 3, 4, 5, 8], 11))))))))))))]),
    (68, [.inl (.aload_n 0), .inr (.inl (270, 15, 132, none, 10082)), .inl (.iload_n 1), .inl .iaload, .inr (.inr (.inr (.inr (.inr (.inr (.inr (.inr (.inr (.inl .ireturn)))))))))]),
    (75, [.inl (.aload_n 0), .inr (.inl (273, 15, 133, none, 10083)), .inl (.iload_n 1), .inl .iaload, .inr (.inr (.inr (.inr (.inr (.inr (.inr (.inr (.inr (.inl .ireturn)))))))))]),
    (82, [.inl (.aload_n 0), .inr (.inl (276, 15, 134, none, 10084)), .inl (.iload_n 1), .inl .iaload, .inr (.inr (.inr (.inr (.inr (.inr (.inr (.inr (.inr (.inl .ireturn)))))))))]),
    (89, [.inl (.aload_n 0), .inr (.inl (273, 15, 133, none, 10083)), .inl (.iload_n 1), .inl .iaload, .inr (.inr (.inl ((.ifCond .le (12)), 6))), .inl (.aload_n 0), .inr (.inl (294, 15, 140, none, 10090)), .inl (.iload_n 3), .inl .iaload, .inr (.inr (.inl ((.goto (4)), 7)))]),
    (107, [.inl (.iconst (-1)), .inr (.inr (.inr (.inr (.inr (.inr (.inr (.inr (.inl 7))))))))]),
    (108, [.inr (.inr (.inr (.inr (.inr (.inr (.inr (.inr (.inr (.inl .ireturn)))))))))]),
    (109, [.inl (.aload_n 0), .inr (.inl (273, 15, 133, none, 10083)), .inl (.iload_n 1), .inl .iaload, .inr (.inr (.inl ((.ifCond .le (12)), 9))), .inl (.aload_n 0), .inr (.inl (297, 15, 141, none, 10091)), .inl (.iload_n 3), .inl .iaload, .inr (.inr (.inl ((.goto (4)), 10)))]),
    (127, [.inl (.iconst (-1)), .inr (.inr (.inr (.inr (.inr (.inr (.inr (.inr (.inl 10))))))))]),
    (128, [.inr (.inr (.inr (.inr (.inr (.inr (.inr (.inr (.inr (.inl .ireturn)))))))))]),
    (129, [.inl (.iconst (-1)), .inr (.inr (.inr (.inr (.inr (.inr (.inr (.inr (.inr (.inl .ireturn)))))))))])])
def tn_32 : pe_Mt := (⟨"LinkedTongueModel", "thing", "(II)I"⟩, prog_13_method_203_code, 4, (Option.some Jvm.ClassFile.FieldType.int), [], 15232, [
    (0, [.inl (.aload_n 0), .inl (.iconst (0)), .inr (.inr (.inr (.inr (.inl (366, 15, 0, 0, none, 9190))))), .inl (.iload_n 1), .inl .i2l, .inl (.lconst 0), .inl (.aload_n 0), .inr (.inl (870, 15, 68, none, 10018)), .inl (.iconst (1)), .inl .isub, .inl .i2l, .inr (.inr (.inr (.inr (.inr (.inr (.inl (376, 22, 3, [12024, 12025, 19]))))))), .inr (.inr (.inl ((.ifCond .ne (5)), 1))), .inl (.iconst (-1)), .inr (.inr (.inr (.inr (.inr (.inr (.inr (.inr (.inr (.inl .ireturn)))))))))]),
    (23, [.inl (.aload_n 0), .inl (.aload_n 0), .inr (.inl (137, 15, 70, none, 10020)), .inl (.iload_n 1), .inl .iaload]),
    (72, [.inl (.aload_n 0), .inr (.inl (137, 15, 70, none, 10020)), .inl (.iload_n 1), .inl .iaload, .inl (.iconst (4)), .inl .isub, .inr (.inr (.inr (.inr (.inr (.inr (.inr (.inr (.inr (.inl .ireturn)))))))))]),
    (81, [.inl (.iload_n 3), .inr (.inr (.inl ((.ifCond .eq (12)), 4))), .inl (.aload_n 0), .inr (.inl (140, 15, 71, none, 10021)), .inl (.iload_n 1), .inl .iaload, .inr (.inr (.inl ((.goto (4)), 5)))]),
    (94, [.inl (.iconst (-1)), .inr (.inr (.inr (.inr (.inr (.inr (.inr (.inr (.inl 5))))))))]),
    (95, [.inr (.inr (.inr (.inr (.inr (.inr (.inr (.inr (.inr (.inl .ireturn)))))))))]),
    (96, [.inl (.iload_n 3), .inr (.inr (.inl ((.ifCond .eq (11)), 7))), .inl (.aload_n 0), .inl (.iload_n 1)]),
    (108, [.inl (.iconst (-1)), .inr (.inr (.inr (.inr (.inr (.inr (.inr (.inr (.inl 8))))))))]),
    (109, [.inr (.inr (.inr (.inr (.inr (.inr (.inr (.inr (.inr (.inl .ireturn)))))))))]),
    (110, [.inl (.aload_n 0), .inr (.inl (137, 15, 70, none, 10020)), .inl (.iload_n 1), .inl .iaload, .inl (.bipush (7)), .inr (.inr (.inl ((.if_icmp .ne (12)), 10))), .inl (.aload_n 0), .inr (.inl (158, 15, 77, none, 10027)), .inl (.iload_n 1), .inl .iaload, .inr (.inr (.inl ((.goto (9)), 11)))]),
    (130, [.inl (.aload_n 0), .inr (.inl (146, 15, 73, none, 10023)), .inl (.iload_n 1), .inl .iaload, .inr (.inr (.inr (.inr (.inr (.inr (.inr (.inr (.inl 11))))))))]),
    (136, [.inr (.inr (.inr (.inr (.inr (.inr (.inr (.inr (.inr (.inl .ireturn)))))))))]),
    (137, [.inl (.aload_n 0), .inr (.inl (161, 15, 78, none, 10028)), .inl (.iload_n 1), .inl .baload, .inr (.inr (.inl ((.ifCond .eq (12)), 13))), .inl (.aload_n 0), .inr (.inl (164, 15, 79, none, 10029)), .inl (.iload_n 1), .inl .iaload, .inr (.inr (.inl ((.goto (4)), 14)))]),
    (155, [.inl (.iconst (-1)), .inr (.inr (.inr (.inr (.inr (.inr (.inr (.inr (.inl 14))))))))]),
    (156, [.inr (.inr (.inr (.inr (.inr (.inr (.inr (.inr (.inr (.inl .ireturn)))))))))]),
    (157, [.inl (.aload_n 0), .inr (.inl (152, 15, 75, none, 10025)), .inl (.iload_n 1), .inl .iaload, .inr (.inr (.inr (.inr (.inr (.inr (.inr (.inr (.inr (.inl .ireturn)))))))))]),
    (164, [.inl (.iconst (-1)), .inr (.inr (.inr (.inr (.inr (.inr (.inr (.inr (.inr (.inl .ireturn)))))))))])])
def tn_33 : pe_Mt := (⟨"LinkedTongueModel", "trace", "(I)I"⟩, prog_13_method_207_code, 2, (Option.some Jvm.ClassFile.FieldType.int), [], 16009, [
    (0, [.inl (.aload_n 0), .inl (.iconst (0)), .inr (.inr (.inr (.inr (.inl (366, 15, 0, 0, none, 9190))))), .inl (.iload_n 1), .inl .i2l, .inl (.lconst 0), .inl (.aload_n 0), .inr (.inl (895, 15, 106, none, 10056)), .inl (.iconst (1)), .inl .isub, .inl .i2l, .inr (.inr (.inr (.inr (.inr (.inr (.inl (376, 22, 3, [12024, 12025, 19]))))))), .inr (.inr (.inl ((.ifCond .eq (12)), 1))), .inl (.aload_n 0), .inr (.inl (228, 15, 107, none, 10057)), .inl (.iload_n 1), .inl .iaload, .inr (.inr (.inl ((.goto (4)), 2)))]),
    (30, [.inl (.iconst (-1)), .inr (.inr (.inr (.inr (.inr (.inr (.inr (.inr (.inl 2))))))))]),
    (31, [.inr (.inr (.inr (.inr (.inr (.inr (.inr (.inr (.inr (.inl .ireturn)))))))))])])
def tn_34 : pe_Mt := (⟨"LinkedTongueModel", "type", "(II)I"⟩, prog_13_method_31_code, 3, (Option.some Jvm.ClassFile.FieldType.int), [], 12148, [
    (0, [.inl (.aload_n 0), .inl (.iconst (0)), .inr (.inr (.inr (.inr (.inl (366, 15, 0, 0, none, 9190))))), .inl (.iload_n 1), .inl .i2l, .inl (.lconst 0), .inl (.aload_n 0), .inr (.inl (27, 15, 13, none, 9203)), .inr (.inl (480, 12, 1, (some "LinkedTongueModel"), 9076)), .inl (.iconst (1)), .inl .isub, .inl .i2l, .inr (.inr (.inr (.inr (.inr (.inr (.inl (376, 22, 3, [12024, 12025, 19]))))))), .inr (.inr (.inl ((.ifCond .ne (5)), 1))), .inl (.iconst (-1)), .inr (.inr (.inr (.inr (.inr (.inr (.inr (.inr (.inr (.inl .ireturn)))))))))]),
    (26, [.inl (.iload_n 2), .inr (.inr (.inr (.inr (.inr (.inr (.inr (.inr (.inr (.inr (.inr (.inl ((.tableswitch (91) (0) (4) #[(33), (51), (61), (71), (81)]), 33, (0), [2, 5, 6, 7, 8], 9))))))))))))]),
    (60, [.inl (.aload_n 0), .inr (.inl (27, 15, 13, none, 9203)), .inr (.inl (520, 12, 2, (some "LinkedTongueModel"), 9078)), .inl (.iload_n 1), .inl .baload, .inr (.inr (.inl ((.ifCond .eq (7)), 3))), .inl (.iconst (1)), .inr (.inr (.inl ((.goto (4)), 4)))]),
    (76, [.inl (.iconst (0)), .inr (.inr (.inr (.inr (.inr (.inr (.inr (.inr (.inl 4))))))))]),
    (77, [.inr (.inr (.inr (.inr (.inr (.inr (.inr (.inr (.inr (.inl .ireturn)))))))))]),
    (78, [.inl (.aload_n 0), .inr (.inl (27, 15, 13, none, 9203)), .inr (.inl (523, 12, 3, (some "LinkedTongueModel"), 9080)), .inl (.iload_n 1), .inl .iaload, .inr (.inr (.inr (.inr (.inr (.inr (.inr (.inr (.inr (.inl .ireturn)))))))))]),
    (88, [.inl (.aload_n 0), .inr (.inl (27, 15, 13, none, 9203)), .inr (.inl (526, 12, 4, (some "LinkedTongueModel"), 9082)), .inl (.iload_n 1), .inl .iaload, .inr (.inr (.inr (.inr (.inr (.inr (.inr (.inr (.inr (.inl .ireturn)))))))))]),
    (98, [.inl (.aload_n 0), .inr (.inl (27, 15, 13, none, 9203)), .inr (.inl (535, 12, 8, (some "LinkedTongueModel"), 9090)), .inl (.iload_n 1), .inl .iaload, .inr (.inr (.inr (.inr (.inr (.inr (.inr (.inr (.inr (.inl .ireturn)))))))))]),
    (108, [.inl (.aload_n 0), .inr (.inl (27, 15, 13, none, 9203)), .inr (.inl (532, 12, 7, (some "LinkedTongueModel"), 9088)), .inl (.iload_n 1), .inl .iaload, .inr (.inr (.inr (.inr (.inr (.inr (.inr (.inr (.inr (.inl .ireturn)))))))))]),
    (118, [.inl (.iconst (-1)), .inr (.inr (.inr (.inr (.inr (.inr (.inr (.inr (.inr (.inl .ireturn)))))))))])])
def tn_35 : pe_Mt := (⟨"LinkedTongueModel$Host", "isSub", "(II)Z"⟩, prog_15_method_2_code, 3, (Option.some Jvm.ClassFile.FieldType.boolean), [], 12160, [
    (0, [.inl (.iload_n 1), .inr (.inr (.inl ((.ifCond .eq (7)), 1))), .inl (.iload_n 2), .inr (.inr (.inl ((.ifCond .ne (5)), 2))), .inr (.inr (.inr (.inr (.inr (.inr (.inr (.inr (.inl 1))))))))]),
    (8, [.inl (.iconst (0)), .inr (.inr (.inr (.inr (.inr (.inr (.inr (.inr (.inr (.inl .ireturn)))))))))]),
    (10, [.inl (.iload_n 1), .inl (.iload_n 2), .inr (.inr (.inl ((.if_icmp .eq (13)), 3))), .inl (.iload_n 1), .inl (.iconst (1)), .inr (.inr (.inl ((.if_icmp .ne (10)), 4))), .inl (.iload_n 2), .inl (.iconst (2)), .inr (.inr (.inl ((.if_icmp .ne (5)), 4))), .inr (.inr (.inr (.inr (.inr (.inr (.inr (.inr (.inl 3))))))))]),
    (25, [.inl (.iconst (1)), .inr (.inr (.inr (.inr (.inr (.inr (.inr (.inr (.inr (.inl .ireturn)))))))))]),
    (27, [.inl (.iload_n 2), .inl (.bipush (8)), .inr (.inr (.inl ((.if_icmp .ne (14)), 7))), .inl (.iload_n 1), .inl (.iconst (3)), .inr (.inr (.inl ((.if_icmp .le (7)), 5))), .inl (.iconst (1)), .inr (.inr (.inl ((.goto (4)), 6)))]),
    (42, [.inl (.iconst (0)), .inr (.inr (.inr (.inr (.inr (.inr (.inr (.inr (.inl 6))))))))]),
    (43, [.inr (.inr (.inr (.inr (.inr (.inr (.inr (.inr (.inr (.inl .ireturn)))))))))]),
    (44, [.inl (.iload_n 1), .inl (.bipush (9)), .inr (.inr (.inl ((.if_icmp .lt (34)), 8))), .inl (.iload_n 2), .inl (.bipush (9)), .inr (.inr (.inl ((.if_icmp .lt (28)), 8))), .inl (.aload_n 0), .inr (.inl (30, 12, 6, none, 9085)), .inl (.iload_n 1), .inl (.bipush (9)), .inl .isub, .inl .laload, .inl (.iload_n 2), .inl (.bipush (9)), .inl .isub, .inl .lushr, .inl (.lconst 1), .inl .land, .inl (.lconst 1), .inl .lcmp, .inr (.inr (.inl ((.ifCond .ne (7)), 8))), .inl (.iconst (1)), .inr (.inr (.inl ((.goto (4)), 9)))]),
    (81, [.inl (.iconst (0)), .inr (.inr (.inr (.inr (.inr (.inr (.inr (.inr (.inl 9))))))))]),
    (82, [.inr (.inr (.inr (.inr (.inr (.inr (.inr (.inr (.inr (.inl .ireturn)))))))))])])
def tn_L : pe_Mt := (⟨"LinkedTongueLaw", "law", "([I)Z"⟩, code, 8, ret, [], 0, [
    (0, [.inr (.inr (.inr (.inr (.inr (.inr (.inr (.inr (.inr (.inr (.inr (.inr (.inl (8, 10, [33, 34, 1]))))))))))))), .inl .dup]),
    (16, [.inl (.iconst (1)), .inl (.newarray .long), .inl (.astore_n 3), .inl (.iconst (0)), .inl (.istore 4), .inr (.inr (.inr (.inr (.inr (.inr (.inr (.inr (.inl 2))))))))]),
    (23, [.inl (.iload 4), .inl (.aload_n 0), .inl .arraylength, .inl (.iconst (5)), .inl .isub, .inr (.inr (.inl ((.if_icmp .gt (1097)), 37))), .inl (.aload_n 0), .inl (.iload 4), .inl .iaload, .inl (.bipush (31)), .inl .iand, .inr (.inr (.inr (.inr (.inr (.inr (.inr (.inr (.inr (.inr (.inr (.inl ((.tableswitch (1081) (0) (22) #[(105), (206), (219), (256), (293), (330), (343), (380), (429), (466), (515), (552), (589), (657), (694), (761), (798), (853), (890), (969), (1006), (1031), (1056)]), 105, (0), [3, 5, 6, 7, 8, 9, 10, 11, 12, 13, 14, 15, 16, 19, 20, 23, 24, 27, 28, 32, 33, 34, 35], 36))))))))))))]),
    (144, [.inl (.aload_n 1), .inl (.aload_n 0), .inl (.iload 4), .inl (.iconst (1)), .inl .iadd, .inl .iaload, .inl .i2l, .inl (.bipush (32)), .inl .lshl, .inl (.aload_n 0), .inl (.iload 4), .inl (.iconst (2)), .inl .iadd, .inl .iaload, .inl .i2l, .inr (.inr (.inr (.inr (.inr (.inr (.inr (.inr (.inr (.inr (.inl (37, (4294967295), 16017))))))))))), .inl .land, .inl .lor, .inl (.aload_n 0), .inl (.iload 4), .inl (.iconst (3)), .inl .iadd, .inl .iaload, .inl .i2l, .inl (.bipush (32)), .inl .lshl, .inl (.aload_n 0), .inl (.iload 4), .inl (.iconst (4)), .inl .iadd, .inl .iaload, .inl .i2l, .inr (.inr (.inr (.inr (.inr (.inr (.inr (.inr (.inr (.inr (.inl (37, (4294967295), 16017))))))))))), .inl .land, .inl .lor]),
    (197, [.inl .iadd, .inl .iaload, .inl .i2l, .inl (.bipush (32)), .inl .lshl, .inl (.aload_n 0), .inl (.iload 4), .inl (.iconst (2)), .inl .iadd, .inl .iaload, .inl .i2l, .inr (.inr (.inr (.inr (.inr (.inr (.inr (.inr (.inr (.inr (.inl (37, (4294967295), 16017))))))))))), .inl .land, .inl .lor, .inl (.aload_n 0), .inl (.iload 4), .inl (.iconst (3)), .inl .iadd, .inl .iaload, .inl .i2l, .inl (.bipush (32)), .inl .lshl, .inl (.aload_n 0), .inl (.iload 4), .inl (.iconst (4)), .inl .iadd, .inl .iaload, .inl .i2l, .inr (.inr (.inr (.inr (.inr (.inr (.inr (.inr (.inr (.inr (.inl (37, (4294967295), 16017))))))))))), .inl .land, .inl .lor]),
    (245, [.inl (.aload_n 1)]),
    (258, [.inl (.aload_n 1), .inl (.aload_n 0), .inl (.iload 4), .inl (.iconst (1)), .inl .iadd, .inl .iaload, .inl (.aload_n 0), .inl (.iload 4), .inl (.iconst (2)), .inl .iadd, .inl .iaload, .inr (.inr (.inr (.inr (.inr (.inl (49, 16, 2, 10, [5032, 5033, 1, 5034, 0])))))), .inl (.aload_n 2), .inl (.aload_n 0), .inl (.iload 4), .inl (.iconst (1)), .inl .iadd, .inl .iaload, .inl (.aload_n 0), .inl (.iload 4), .inl (.iconst (2)), .inl .iadd, .inl .iaload, .inr (.inr (.inr (.inr (.inr (.inl (52, 34, 2, 15, [12145, 12146, 19, 12147, 0])))))), .inr (.inr (.inl ((.if_icmp .eq (830)), 36))), .inl (.iconst (0)), .inr (.inr (.inr (.inr (.inr (.inr (.inr (.inr (.inr (.inl .ireturn)))))))))]),
    (295, [.inl (.aload_n 1), .inl (.aload_n 0), .inl (.iload 4), .inl (.iconst (1)), .inl .iadd, .inl .iaload, .inl (.aload_n 0), .inl (.iload 4), .inl (.iconst (2)), .inl .iadd, .inl .iaload, .inr (.inr (.inr (.inr (.inr (.inl (53, 5, 2, 10, [5036, 5037, 1, 5038, 0])))))), .inl (.aload_n 2), .inl (.aload_n 0), .inl (.iload 4), .inl (.iconst (1)), .inl .iadd, .inl .iaload, .inl (.aload_n 0), .inl (.iload 4), .inl (.iconst (2)), .inl .iadd, .inl .iaload, .inr (.inr (.inr (.inr (.inr (.inl (56, 23, 2, 15, [12149, 12150, 19, 12151, 0])))))), .inr (.inr (.inl ((.if_icmp .eq (793)), 36))), .inl (.iconst (0)), .inr (.inr (.inr (.inr (.inr (.inr (.inr (.inr (.inr (.inl .ireturn)))))))))]),
    (332, [.inl (.aload_n 1), .inl (.aload_n 0), .inl (.iload 4), .inl (.iconst (1)), .inl .iadd, .inl .iaload, .inl (.aload_n 0), .inl (.iload 4), .inl (.iconst (2)), .inl .iadd, .inl .iaload, .inr (.inr (.inr (.inr (.inr (.inl (57, 12, 2, 10, [5040, 5041, 1, 5042, 0])))))), .inl (.aload_n 2), .inl (.aload_n 0), .inl (.iload 4), .inl (.iconst (1)), .inl .iadd, .inl .iaload, .inl (.aload_n 0), .inl (.iload 4), .inl (.iconst (2)), .inl .iadd, .inl .iaload, .inr (.inr (.inr (.inr (.inr (.inl (61, 30, 2, 15, [12153, 12154, 19, 12155, 0])))))), .inr (.inr (.inl ((.if_icmp .eq (756)), 36))), .inl (.iconst (0)), .inr (.inr (.inr (.inr (.inr (.inr (.inr (.inr (.inr (.inl .ireturn)))))))))]),
    (369, [.inl (.aload_n 1)]),
    (382, [.inl (.aload_n 1), .inl (.aload_n 0), .inl (.iload 4), .inl (.iconst (1)), .inl .iadd, .inl .iaload, .inl (.aload_n 0), .inl (.iload 4), .inl (.iconst (2)), .inl .iadd, .inl .iaload, .inr (.inr (.inr (.inr (.inr (.inl (66, 4, 2, 10, [6038, 6039, 1, 6040, 0])))))), .inl (.aload_n 2), .inl (.aload_n 0), .inl (.iload 4), .inl (.iconst (1)), .inl .iadd, .inl .iaload, .inl (.aload_n 0), .inl (.iload 4), .inl (.iconst (2)), .inl .iadd, .inl .iaload, .inr (.inr (.inr (.inr (.inr (.inl (69, 21, 2, 15, [13187, 13188, 19, 13189, 0])))))), .inr (.inr (.inl ((.if_icmp .eq (706)), 36))), .inl (.iconst (0)), .inr (.inr (.inr (.inr (.inr (.inr (.inr (.inr (.inr (.inl .ireturn)))))))))]),
    (419, [.inl (.aload_n 1), .inl (.aload_n 0), .inl (.iload 4), .inl (.iconst (1)), .inl .iadd, .inl .iaload, .inl (.aload_n 0), .inl (.iload 4), .inl (.iconst (2)), .inl .iadd, .inl .iaload, .inl (.aload_n 0), .inl (.iload 4), .inl (.iconst (3)), .inl .iadd, .inl .iaload, .inr (.inr (.inr (.inr (.inr (.inl (70, 0, 3, 10, [6042, 6043, 1, 6044, 0])))))), .inl (.aload_n 2), .inl (.aload_n 0), .inl (.iload 4), .inl (.iconst (1)), .inl .iadd, .inl .iaload, .inl (.aload_n 0), .inl (.iload 4), .inl (.iconst (2)), .inl .iadd, .inl .iaload, .inl (.aload_n 0), .inl (.iload 4), .inl (.iconst (3)), .inl .iadd, .inl .iaload, .inr (.inr (.inr (.inr (.inr (.inl (74, 18, 3, 15, [13191, 13192, 19, 13193, 0])))))), .inr (.inr (.inl ((.if_icmp .eq (657)), 36))), .inl (.iconst (0)), .inr (.inr (.inr (.inr (.inr (.inr (.inr (.inr (.inr (.inl .ireturn)))))))))]),
    (468, [.inl (.aload_n 1), .inl (.aload_n 0), .inl (.iload 4), .inl (.iconst (1)), .inl .iadd, .inl .iaload, .inl (.aload_n 0), .inl (.iload 4), .inl (.iconst (2)), .inl .iadd, .inl .iaload, .inr (.inr (.inr (.inr (.inr (.inl (75, 10, 2, 10, [6046, 6047, 1, 6048, 0])))))), .inl (.aload_n 2), .inl (.aload_n 0), .inl (.iload 4), .inl (.iconst (1)), .inl .iadd, .inl .iaload, .inl (.aload_n 0), .inl (.iload 4), .inl (.iconst (2)), .inl .iadd, .inl .iaload, .inr (.inr (.inr (.inr (.inr (.inl (78, 28, 2, 15, [15201, 15202, 19, 15203, 0])))))), .inr (.inr (.inl ((.if_icmp .eq (620)), 36))), .inl (.iconst (0)), .inr (.inr (.inr (.inr (.inr (.inr (.inr (.inr (.inr (.inl .ireturn)))))))))]),
    (505, [.inl (.aload_n 1), .inl (.aload_n 0), .inl (.iload 4), .inl (.iconst (1)), .inl .iadd, .inl .iaload, .inl (.aload_n 0), .inl (.iload 4), .inl (.iconst (2)), .inl .iadd, .inl .iaload, .inl (.aload_n 0), .inl (.iload 4), .inl (.iconst (3)), .inl .iadd, .inl .iaload, .inr (.inr (.inr (.inr (.inr (.inl (79, 3, 3, 10, [6050, 6051, 1, 6052, 0])))))), .inl (.aload_n 2), .inl (.aload_n 0), .inl (.iload 4), .inl (.iconst (1)), .inl .iadd, .inl .iaload, .inl (.aload_n 0), .inl (.iload 4), .inl (.iconst (2)), .inl .iadd, .inl .iaload, .inl (.aload_n 0), .inl (.iload 4), .inl (.iconst (3)), .inl .iadd, .inl .iaload, .inr (.inr (.inr (.inr (.inr (.inl (82, 20, 3, 15, [15205, 15206, 19, 15207, 0])))))), .inr (.inr (.inl ((.if_icmp .eq (571)), 36))), .inl (.iconst (0)), .inr (.inr (.inr (.inr (.inr (.inr (.inr (.inr (.inr (.inl .ireturn)))))))))]),
    (554, [.inl (.aload_n 1), .inl (.aload_n 0), .inl (.iload 4), .inl (.iconst (1)), .inl .iadd, .inl .iaload, .inl (.aload_n 0), .inl (.iload 4), .inl (.iconst (2)), .inl .iadd, .inl .iaload, .inr (.inr (.inr (.inr (.inr (.inl (83, 6, 2, 10, [6062, 6063, 1, 6064, 0])))))), .inl (.aload_n 2), .inl (.aload_n 0), .inl (.iload 4), .inl (.iconst (1)), .inl .iadd, .inl .iaload, .inl (.aload_n 0), .inl (.iload 4), .inl (.iconst (2)), .inl .iadd, .inl .iaload, .inr (.inr (.inr (.inr (.inr (.inl (86, 24, 2, 15, [13195, 13196, 19, 13197, 0])))))), .inr (.inr (.inl ((.if_icmp .eq (534)), 36))), .inl (.iconst (0)), .inr (.inr (.inr (.inr (.inr (.inr (.inr (.inr (.inr (.inl .ireturn)))))))))]),
    (591, [.inl (.aload_n 1), .inl (.aload_n 0), .inl (.iload 4), .inl (.iconst (1)), .inl .iadd, .inl .iaload, .inl (.aload_n 0), .inl (.iload 4), .inl (.iconst (2)), .inl .iadd, .inl .iaload, .inr (.inr (.inr (.inr (.inr (.inl (87, 11, 2, 10, [6066, 6067, 1, 6068, 0])))))), .inl (.aload_n 2), .inl (.aload_n 0), .inl (.iload 4), .inl (.iconst (1)), .inl .iadd, .inl .iaload, .inl (.aload_n 0), .inl (.iload 4), .inl (.iconst (2)), .inl .iadd, .inl .iaload, .inr (.inr (.inr (.inr (.inr (.inl (90, 29, 2, 15, [13199, 13200, 19, 13201, 0])))))), .inr (.inr (.inl ((.if_icmp .eq (497)), 36))), .inl (.iconst (0)), .inr (.inr (.inr (.inr (.inr (.inr (.inr (.inr (.inr (.inl .ireturn)))))))))]),
    (628, [.inl (.aload_n 1), .inl (.aload_n 0), .inl (.iload 4), .inl (.iconst (1)), .inl .iadd, .inl .iaload, .inl (.aload_n 0), .inl (.iload 4), .inl (.iconst (2)), .inl .iadd, .inl .iaload, .inl (.aload_n 3)]),
    (676, [.inl (.iload 5), .inr (.inr (.inl ((.ifCond .ne (15)), 18))), .inl (.aload_n 3), .inl (.iconst (0)), .inl .laload, .inl (.iload 6), .inl .i2l, .inl .lcmp, .inr (.inr (.inl ((.ifCond .eq (5)), 18))), .inl (.iconst (0)), .inr (.inr (.inr (.inr (.inr (.inr (.inr (.inr (.inr (.inl .ireturn)))))))))]),
    (693, [.inr (.inr (.inl ((.goto (427)), 36)))]),
    (696, [.inl (.aload_n 1), .inl (.aload_n 0), .inl (.iload 4), .inl (.iconst (1)), .inl .iadd, .inl .iaload, .inl (.aload_n 0), .inl (.iload 4), .inl (.iconst (2)), .inl .iadd, .inl .iaload, .inr (.inr (.inr (.inr (.inr (.inl (100, 13, 2, 10, [6095, 6096, 1, 6097, 0])))))), .inl (.aload_n 2), .inl (.aload_n 0), .inl (.iload 4), .inl (.iconst (1)), .inl .iadd, .inl .iaload, .inl (.aload_n 0), .inl (.iload 4), .inl (.iconst (2)), .inl .iadd, .inl .iaload, .inr (.inr (.inr (.inr (.inr (.inl (103, 31, 2, 15, [15209, 15210, 19, 15211, 0])))))), .inr (.inr (.inl ((.if_icmp .eq (392)), 36))), .inl (.iconst (0)), .inr (.inr (.inr (.inr (.inr (.inr (.inr (.inr (.inr (.inl .ireturn)))))))))]),
    (733, [.inl (.aload_n 1), .inl (.aload_n 0), .inl (.iload 4), .inl (.iconst (1)), .inl .iadd, .inl .iaload, .inl (.aload_n 0), .inl (.iload 4), .inl (.iconst (2)), .inl .iadd, .inl .iaload, .inl (.aload_n 3)]),
    (781, [.inl (.iload 5), .inr (.inr (.inl ((.ifCond .ne (14)), 22))), .inl (.aload_n 3), .inl (.iconst (0)), .inl .laload, .inl (.lload 6), .inl .lcmp, .inr (.inr (.inl ((.ifCond .eq (5)), 22))), .inl (.iconst (0)), .inr (.inr (.inr (.inr (.inr (.inr (.inr (.inr (.inr (.inl .ireturn)))))))))]),
    (797, [.inr (.inr (.inl ((.goto (323)), 36)))]),
    (800, [.inl (.aload_n 1), .inl (.aload_n 0), .inl (.iload 4), .inl (.iconst (1)), .inl .iadd, .inl .iaload, .inl (.aload_n 0), .inl (.iload 4), .inl (.iconst (2)), .inl .iadd, .inl .iaload, .inr (.inr (.inr (.inr (.inr (.inl (107, 9, 2, 10, [6099, 6100, 1, 6101, 0])))))), .inl (.aload_n 2), .inl (.aload_n 0), .inl (.iload 4), .inl (.iconst (1)), .inl .iadd, .inl .iaload, .inl (.aload_n 0), .inl (.iload 4), .inl (.iconst (2)), .inl .iadd, .inl .iaload, .inr (.inr (.inr (.inr (.inr (.inl (110, 27, 2, 15, [15221, 15222, 19, 15223, 0])))))), .inr (.inr (.inl ((.if_icmp .eq (288)), 36))), .inl (.iconst (0)), .inr (.inr (.inr (.inr (.inr (.inr (.inr (.inr (.inr (.inl .ireturn)))))))))]),
    (837, [.inl (.aload_n 1), .inl (.aload_n 0), .inl (.iload 4), .inl (.iconst (1)), .inl .iadd, .inl .iaload, .inl (.aload_n 3)]),
    (873, [.inl (.iload 5), .inr (.inr (.inl ((.ifCond .ne (14)), 26))), .inl (.aload_n 3), .inl (.iconst (0)), .inl .laload, .inl (.lload 6), .inl .lcmp, .inr (.inr (.inl ((.ifCond .eq (5)), 26))), .inl (.iconst (0)), .inr (.inr (.inr (.inr (.inr (.inr (.inr (.inr (.inr (.inl .ireturn)))))))))]),
    (889, [.inr (.inr (.inl ((.goto (231)), 36)))]),
    (892, [.inl (.aload_n 1), .inl (.aload_n 0), .inl (.iload 4), .inl (.iconst (1)), .inl .iadd, .inl .iaload, .inl (.aload_n 0), .inl (.iload 4), .inl (.iconst (2)), .inl .iadd, .inl .iaload, .inr (.inr (.inr (.inr (.inr (.inl (115, 14, 2, 10, [6109, 6110, 1, 6111, 0])))))), .inl (.aload_n 2), .inl (.aload_n 0), .inl (.iload 4), .inl (.iconst (1)), .inl .iadd, .inl .iaload, .inl (.aload_n 0), .inl (.iload 4), .inl (.iconst (2)), .inl .iadd, .inl .iaload, .inr (.inr (.inr (.inr (.inr (.inl (118, 32, 2, 15, [15229, 15230, 19, 15231, 0])))))), .inr (.inr (.inl ((.if_icmp .eq (196)), 36))), .inl (.iconst (0)), .inr (.inr (.inr (.inr (.inr (.inr (.inr (.inr (.inr (.inl .ireturn)))))))))]),
    (929, [.inl (.aload_n 1), .inl (.aload_n 0), .inl (.iload 4), .inl (.iconst (1)), .inl .iadd, .inl .iaload, .inl (.aload_n 0), .inl (.iload 4), .inl (.iconst (2)), .inl .iadd, .inl .iaload, .inl (.aload_n 0), .inl (.iload 4), .inl (.iconst (3)), .inl .iadd, .inl .iaload, .inl (.aload_n 3)]),
    (984, [.inr (.inr (.inl ((.if_icmp .eq (5)), 30))), .inl (.iconst (0)), .inr (.inr (.inr (.inr (.inr (.inr (.inr (.inr (.inr (.inl .ireturn)))))))))]),
    (989, [.inl (.iload 5), .inr (.inr (.inl ((.ifCond .ne (14)), 31))), .inl (.aload_n 3), .inl (.iconst (0)), .inl .laload, .inl (.lload 6), .inl .lcmp, .inr (.inr (.inl ((.ifCond .eq (5)), 31))), .inl (.iconst (0)), .inr (.inr (.inr (.inr (.inr (.inr (.inr (.inr (.inr (.inl .ireturn)))))))))]),
    (1005, [.inr (.inr (.inl ((.goto (115)), 36)))]),
    (1008, [.inl (.aload_n 1), .inl (.aload_n 0), .inl (.iload 4), .inl (.iconst (1)), .inl .iadd, .inl .iaload, .inl (.aload_n 0), .inl (.iload 4), .inl (.iconst (2)), .inl .iadd, .inl .iaload, .inr (.inr (.inr (.inr (.inr (.inl (123, 8, 2, 10, [6113, 6114, 1, 6115, 0])))))), .inl (.aload_n 2), .inl (.aload_n 0), .inl (.iload 4), .inl (.iconst (1)), .inl .iadd, .inl .iaload, .inl (.aload_n 0), .inl (.iload 4), .inl (.iconst (2)), .inl .iadd, .inl .iaload, .inr (.inr (.inr (.inr (.inr (.inl (126, 26, 2, 15, [15238, 15239, 19, 16000, 0])))))), .inr (.inr (.inl ((.if_icmp .eq (80)), 36))), .inl (.iconst (0)), .inr (.inr (.inr (.inr (.inr (.inr (.inr (.inr (.inr (.inl .ireturn)))))))))]),
    (1045, [.inl (.aload_n 1), .inl (.aload_n 0), .inl (.iload 4), .inl (.iconst (1)), .inl .iadd, .inl .iaload, .inr (.inr (.inr (.inr (.inr (.inl (127, 7, 1, 10, [6121, 6122, 1, 6123, 0])))))), .inl (.aload_n 2), .inl (.aload_n 0), .inl (.iload 4), .inl (.iconst (1)), .inl .iadd, .inl .iaload, .inr (.inr (.inr (.inr (.inr (.inl (131, 25, 1, 15, [16002, 16003, 19, 16004, 0])))))), .inr (.inr (.inl ((.if_icmp .eq (55)), 36))), .inl (.iconst (0)), .inr (.inr (.inr (.inr (.inr (.inr (.inr (.inr (.inr (.inl .ireturn)))))))))]),
    (1070, [.inl (.aload_n 1), .inl (.aload_n 0), .inl (.iload 4), .inl (.iconst (1)), .inl .iadd, .inl .iaload, .inr (.inr (.inr (.inr (.inr (.inl (132, 15, 1, 10, [6125, 6126, 1, 6127, 0])))))), .inl (.aload_n 2), .inl (.aload_n 0), .inl (.iload 4), .inl (.iconst (1)), .inl .iadd, .inl .iaload, .inr (.inr (.inr (.inr (.inr (.inl (135, 33, 1, 15, [16006, 16007, 19, 16008, 0])))))), .inr (.inr (.inl ((.if_icmp .eq (30)), 36))), .inl (.iconst (0)), .inr (.inr (.inr (.inr (.inr (.inr (.inr (.inr (.inr (.inl .ireturn)))))))))]),
    (1095, [.inl (.aload_n 1), .inl (.aload_n 0), .inl (.iload 4), .inl (.iconst (1)), .inl .iadd, .inl .iaload, .inr (.inr (.inr (.inr (.inr (.inl (136, 1, 1, 10, [6129, 6130, 1, 6131, 0])))))), .inl (.aload_n 2), .inl (.aload_n 0), .inl (.iload 4), .inl (.iconst (1)), .inl .iadd, .inl .iaload, .inr (.inr (.inr (.inr (.inr (.inl (139, 19, 1, 15, [16010, 16011, 19, 16012, 0])))))), .inr (.inr (.inl ((.if_icmp .eq (5)), 36))), .inl (.iconst (0)), .inr (.inr (.inr (.inr (.inr (.inr (.inr (.inr (.inr (.inl .ireturn)))))))))]),
    (1120, [.inl (.iinc 4 (5)), .inr (.inr (.inl ((.goto (-1100)), 2)))]),
    (1126, [.inl (.iconst (1)), .inr (.inr (.inr (.inr (.inr (.inr (.inr (.inr (.inr (.inl .ireturn)))))))))])])
def pe_msL : List pe_Mt := [tn_0, tn_1, tn_2, tn_3, tn_4, tn_5, tn_6, tn_7, tn_8, tn_9, tn_10, tn_11, tn_12, tn_13, tn_14, tn_15, tn_16, tn_17, tn_18, tn_19, tn_20, tn_21, tn_22, tn_23, tn_24, tn_25, tn_26, tn_27, tn_28, tn_29, tn_30, tn_31, tn_32, tn_33, tn_34, tn_35]
def pe_xsL (c : List Int32) : List (Nat × List Int32) := pe_xs ++ [(9, []), (9, []), (9, []), (2, c)]
def pe_GL (c : List Int32) : pe_G := (pe_msL, pe_dv, pe_xsL c)
theorem pe_ck_xs {ms : List pe_Mt} {dv : List (List Value)} {xs xs2 : List (Nat × List Int32)} {cl : List vw_C} {ckS : pe_Mt → Nat → pe_S → Bool} {mt : pe_Mt} {pc : Nat} {i : pe_I} : pe_ck (ms, dv, xs) cl ckS mt pc i = pe_ck (ms, dv, xs2) cl ckS mt pc i := rfl
theorem pe_ckB_xs {ms : List pe_Mt} {dv : List (List Value)} {xs xs2 : List (Nat × List Int32)} {cl : List vw_C} {ckS : pe_Mt → Nat → pe_S → Bool} {mt : pe_Mt} (is : List pe_I) : ∀ pc, pe_ckB (ms, dv, xs) cl ckS mt pc is = pe_ckB (ms, dv, xs2) cl ckS mt pc is := by
  induction is with
  | nil => intro pc; rfl
  | cons i r ih =>
    intro pc
    show (pe_ck (ms, dv, xs) cl ckS mt pc i && pe_ckB (ms, dv, xs) cl ckS mt (pc + pe_ln i) r) = (pe_ck (ms, dv, xs2) cl ckS mt pc i && pe_ckB (ms, dv, xs2) cl ckS mt (pc + pe_ln i) r)
    rw [ih, pe_ck_xs (xs2 := xs2)]
theorem pe_okM_xs {ms : List pe_Mt} {dv : List (List Value)} {xs xs2 : List (Nat × List Int32)} {cl : List vw_C} {ckS : pe_Mt → Nat → pe_S → Bool} {mt : pe_Mt} (h : pe_okM (ms, dv, xs) cl ckS mt = true) : pe_okM (ms, dv, xs2) cl ckS mt = true := by
  unfold pe_okM at h ⊢
  simp only [Bool.and_eq_true, List.all_eq_true] at h ⊢
  refine ⟨h.1, h.2.1, h.2.2.1, fun b hb => ?_, h.2.2.2.2⟩
  rw [pe_ckB_xs (xs2 := xs)]
  exact h.2.2.2.1 b hb
theorem pe_okB_xs {ms : List pe_Mt} {dv : List (List Value)} {xs xs2 : List (Nat × List Int32)} {cl : List vw_C} {ckS : pe_Mt → Nat → pe_S → Bool} {mt : pe_Mt} (h : pe_okB (ms, dv, xs) cl ckS mt = true) : pe_okB (ms, dv, xs2) cl ckS mt = true := by
  unfold pe_okB at h ⊢
  rw [List.all_eq_true] at h ⊢
  intro b hb
  rw [pe_ckB_xs (xs2 := xs)]
  exact h b hb
set_option maxRecDepth 40000 in
theorem nk_0 : pe_okM (pe_GL []) pe_cl pe_ckS tn_0 = true := by decide +kernel
set_option maxRecDepth 40000 in
theorem nk_1 : pe_okM (pe_GL []) pe_cl pe_ckS tn_1 = true := by decide +kernel
set_option maxRecDepth 40000 in
theorem nk_2 : pe_okM (pe_GL []) pe_cl pe_ckS tn_2 = true := by decide +kernel
def td_3 (k : Nat) : Nat × List pe_I := (pe_at tn_3.bl k).getD (0, [])
set_option maxRecDepth 40000 in
theorem nk_3_0 : pe_ckB (pe_GL []) pe_cl pe_ckS tn_3 (td_3 0).1 (td_3 0).2 = true := by decide +kernel
set_option maxRecDepth 40000 in
theorem nk_3_1 : pe_ckB (pe_GL []) pe_cl pe_ckS tn_3 (td_3 1).1 (td_3 1).2 = true := by decide +kernel
set_option maxRecDepth 40000 in
theorem nk_3_2 : pe_ckB (pe_GL []) pe_cl pe_ckS tn_3 (td_3 2).1 (td_3 2).2 = true := by decide +kernel
set_option maxRecDepth 40000 in
theorem nk_3_3 : pe_ckB (pe_GL []) pe_cl pe_ckS tn_3 (td_3 3).1 (td_3 3).2 = true := by decide +kernel
set_option maxRecDepth 40000 in
theorem nk_3_4 : pe_ckB (pe_GL []) pe_cl pe_ckS tn_3 (td_3 4).1 (td_3 4).2 = true := by decide +kernel
set_option maxRecDepth 40000 in
theorem nk_3_5 : pe_ckB (pe_GL []) pe_cl pe_ckS tn_3 (td_3 5).1 (td_3 5).2 = true := by decide +kernel
set_option maxRecDepth 40000 in
theorem nk_3_6 : pe_ckB (pe_GL []) pe_cl pe_ckS tn_3 (td_3 6).1 (td_3 6).2 = true := by decide +kernel
set_option maxRecDepth 40000 in
theorem nk_3_7 : pe_ckB (pe_GL []) pe_cl pe_ckS tn_3 (td_3 7).1 (td_3 7).2 = true := by decide +kernel
set_option maxRecDepth 40000 in
theorem nk_3_8 : pe_ckB (pe_GL []) pe_cl pe_ckS tn_3 (td_3 8).1 (td_3 8).2 = true := by decide +kernel
set_option maxRecDepth 40000 in
theorem nk_3_9 : pe_ckB (pe_GL []) pe_cl pe_ckS tn_3 (td_3 9).1 (td_3 9).2 = true := by decide +kernel
set_option maxRecDepth 40000 in
theorem nk_3_10 : pe_ckB (pe_GL []) pe_cl pe_ckS tn_3 (td_3 10).1 (td_3 10).2 = true := by decide +kernel
theorem nk_3_a : ∀ b ∈ tn_3.bl, pe_ckB (pe_GL []) pe_cl pe_ckS tn_3 b.1 b.2 = true := by
  intro b hb
  obtain ⟨n, hn⟩ := List.getElem?_of_mem hb
  rw [← pe_at_eq] at hn
  match n, hn with
  | 0, hn =>
    have h2 : td_3 0 = b := by unfold td_3; rw [hn]; rfl
    rw [← h2]; exact nk_3_0
  | 1, hn =>
    have h2 : td_3 1 = b := by unfold td_3; rw [hn]; rfl
    rw [← h2]; exact nk_3_1
  | 2, hn =>
    have h2 : td_3 2 = b := by unfold td_3; rw [hn]; rfl
    rw [← h2]; exact nk_3_2
  | 3, hn =>
    have h2 : td_3 3 = b := by unfold td_3; rw [hn]; rfl
    rw [← h2]; exact nk_3_3
  | 4, hn =>
    have h2 : td_3 4 = b := by unfold td_3; rw [hn]; rfl
    rw [← h2]; exact nk_3_4
  | 5, hn =>
    have h2 : td_3 5 = b := by unfold td_3; rw [hn]; rfl
    rw [← h2]; exact nk_3_5
  | 6, hn =>
    have h2 : td_3 6 = b := by unfold td_3; rw [hn]; rfl
    rw [← h2]; exact nk_3_6
  | 7, hn =>
    have h2 : td_3 7 = b := by unfold td_3; rw [hn]; rfl
    rw [← h2]; exact nk_3_7
  | 8, hn =>
    have h2 : td_3 8 = b := by unfold td_3; rw [hn]; rfl
    rw [← h2]; exact nk_3_8
  | 9, hn =>
    have h2 : td_3 9 = b := by unfold td_3; rw [hn]; rfl
    rw [← h2]; exact nk_3_9
  | 10, hn =>
    have h2 : td_3 10 = b := by unfold td_3; rw [hn]; rfl
    rw [← h2]; exact nk_3_10
  | n + 11, hn =>
    rw [pe_at_eq] at hn
    exact absurd (List.getElem?_eq_some_iff.mp hn).1 (by show ¬ n + 11 < 11; omega)
theorem nk_3 : pe_okM (pe_GL []) pe_cl pe_ckS tn_3 = true := pe_okM_mk (pe_w_of (by rfl) (by rfl)) (by decide +kernel) nk_3_a
set_option maxRecDepth 40000 in
theorem nk_4 : pe_okM (pe_GL []) pe_cl pe_ckS tn_4 = true := by decide +kernel
set_option maxRecDepth 40000 in
theorem nk_5 : pe_okM (pe_GL []) pe_cl pe_ckS tn_5 = true := by decide +kernel
set_option maxRecDepth 40000 in
theorem nk_6 : pe_okM (pe_GL []) pe_cl pe_ckS tn_6 = true := by decide +kernel
set_option maxRecDepth 40000 in
theorem nk_7 : pe_okM (pe_GL []) pe_cl pe_ckS tn_7 = true := by decide +kernel
set_option maxRecDepth 40000 in
theorem nk_8 : pe_okM (pe_GL []) pe_cl pe_ckS tn_8 = true := by decide +kernel
set_option maxRecDepth 40000 in
theorem nk_9 : pe_okM (pe_GL []) pe_cl pe_ckS tn_9 = true := by decide +kernel
set_option maxRecDepth 40000 in
theorem nk_10 : pe_okM (pe_GL []) pe_cl pe_ckS tn_10 = true := by decide +kernel
set_option maxRecDepth 40000 in
theorem nk_11 : pe_okM (pe_GL []) pe_cl pe_ckS tn_11 = true := by decide +kernel
set_option maxRecDepth 40000 in
theorem nk_12 : pe_okM (pe_GL []) pe_cl pe_ckS tn_12 = true := by decide +kernel
set_option maxRecDepth 40000 in
theorem nk_13 : pe_okM (pe_GL []) pe_cl pe_ckS tn_13 = true := by decide +kernel
def td_14 (k : Nat) : Nat × List pe_I := (pe_at tn_14.bl k).getD (0, [])
set_option maxRecDepth 40000 in
theorem nk_14_0 : pe_ckB (pe_GL []) pe_cl pe_ckS tn_14 (td_14 0).1 (td_14 0).2 = true := by decide +kernel
set_option maxRecDepth 40000 in
theorem nk_14_1 : pe_ckB (pe_GL []) pe_cl pe_ckS tn_14 (td_14 1).1 (td_14 1).2 = true := by decide +kernel
set_option maxRecDepth 40000 in
theorem nk_14_2 : pe_ckB (pe_GL []) pe_cl pe_ckS tn_14 (td_14 2).1 (td_14 2).2 = true := by decide +kernel
set_option maxRecDepth 40000 in
theorem nk_14_3 : pe_ckB (pe_GL []) pe_cl pe_ckS tn_14 (td_14 3).1 (td_14 3).2 = true := by decide +kernel
set_option maxRecDepth 40000 in
theorem nk_14_4 : pe_ckB (pe_GL []) pe_cl pe_ckS tn_14 (td_14 4).1 (td_14 4).2 = true := by decide +kernel
set_option maxRecDepth 40000 in
theorem nk_14_5 : pe_ckB (pe_GL []) pe_cl pe_ckS tn_14 (td_14 5).1 (td_14 5).2 = true := by decide +kernel
set_option maxRecDepth 40000 in
theorem nk_14_6 : pe_ckB (pe_GL []) pe_cl pe_ckS tn_14 (td_14 6).1 (td_14 6).2 = true := by decide +kernel
set_option maxRecDepth 40000 in
theorem nk_14_7 : pe_ckB (pe_GL []) pe_cl pe_ckS tn_14 (td_14 7).1 (td_14 7).2 = true := by decide +kernel
set_option maxRecDepth 40000 in
theorem nk_14_8 : pe_ckB (pe_GL []) pe_cl pe_ckS tn_14 (td_14 8).1 (td_14 8).2 = true := by decide +kernel
set_option maxRecDepth 40000 in
theorem nk_14_9 : pe_ckB (pe_GL []) pe_cl pe_ckS tn_14 (td_14 9).1 (td_14 9).2 = true := by decide +kernel
set_option maxRecDepth 40000 in
theorem nk_14_10 : pe_ckB (pe_GL []) pe_cl pe_ckS tn_14 (td_14 10).1 (td_14 10).2 = true := by decide +kernel
set_option maxRecDepth 40000 in
theorem nk_14_11 : pe_ckB (pe_GL []) pe_cl pe_ckS tn_14 (td_14 11).1 (td_14 11).2 = true := by decide +kernel
set_option maxRecDepth 40000 in
theorem nk_14_12 : pe_ckB (pe_GL []) pe_cl pe_ckS tn_14 (td_14 12).1 (td_14 12).2 = true := by decide +kernel
set_option maxRecDepth 40000 in
theorem nk_14_13 : pe_ckB (pe_GL []) pe_cl pe_ckS tn_14 (td_14 13).1 (td_14 13).2 = true := by decide +kernel
set_option maxRecDepth 40000 in
theorem nk_14_14 : pe_ckB (pe_GL []) pe_cl pe_ckS tn_14 (td_14 14).1 (td_14 14).2 = true := by decide +kernel
set_option maxRecDepth 40000 in
theorem nk_14_15 : pe_ckB (pe_GL []) pe_cl pe_ckS tn_14 (td_14 15).1 (td_14 15).2 = true := by decide +kernel
set_option maxRecDepth 40000 in
theorem nk_14_16 : pe_ckB (pe_GL []) pe_cl pe_ckS tn_14 (td_14 16).1 (td_14 16).2 = true := by decide +kernel
set_option maxRecDepth 40000 in
theorem nk_14_17 : pe_ckB (pe_GL []) pe_cl pe_ckS tn_14 (td_14 17).1 (td_14 17).2 = true := by decide +kernel
theorem nk_14_a : ∀ b ∈ tn_14.bl, pe_ckB (pe_GL []) pe_cl pe_ckS tn_14 b.1 b.2 = true := by
  intro b hb
  obtain ⟨n, hn⟩ := List.getElem?_of_mem hb
  rw [← pe_at_eq] at hn
  match n, hn with
  | 0, hn =>
    have h2 : td_14 0 = b := by unfold td_14; rw [hn]; rfl
    rw [← h2]; exact nk_14_0
  | 1, hn =>
    have h2 : td_14 1 = b := by unfold td_14; rw [hn]; rfl
    rw [← h2]; exact nk_14_1
  | 2, hn =>
    have h2 : td_14 2 = b := by unfold td_14; rw [hn]; rfl
    rw [← h2]; exact nk_14_2
  | 3, hn =>
    have h2 : td_14 3 = b := by unfold td_14; rw [hn]; rfl
    rw [← h2]; exact nk_14_3
  | 4, hn =>
    have h2 : td_14 4 = b := by unfold td_14; rw [hn]; rfl
    rw [← h2]; exact nk_14_4
  | 5, hn =>
    have h2 : td_14 5 = b := by unfold td_14; rw [hn]; rfl
    rw [← h2]; exact nk_14_5
  | 6, hn =>
    have h2 : td_14 6 = b := by unfold td_14; rw [hn]; rfl
    rw [← h2]; exact nk_14_6
  | 7, hn =>
    have h2 : td_14 7 = b := by unfold td_14; rw [hn]; rfl
    rw [← h2]; exact nk_14_7
  | 8, hn =>
    have h2 : td_14 8 = b := by unfold td_14; rw [hn]; rfl
    rw [← h2]; exact nk_14_8
  | 9, hn =>
    have h2 : td_14 9 = b := by unfold td_14; rw [hn]; rfl
    rw [← h2]; exact nk_14_9
  | 10, hn =>
    have h2 : td_14 10 = b := by unfold td_14; rw [hn]; rfl
    rw [← h2]; exact nk_14_10
  | 11, hn =>
    have h2 : td_14 11 = b := by unfold td_14; rw [hn]; rfl
    rw [← h2]; exact nk_14_11
  | 12, hn =>
    have h2 : td_14 12 = b := by unfold td_14; rw [hn]; rfl
    rw [← h2]; exact nk_14_12
  | 13, hn =>
    have h2 : td_14 13 = b := by unfold td_14; rw [hn]; rfl
    rw [← h2]; exact nk_14_13
  | 14, hn =>
    have h2 : td_14 14 = b := by unfold td_14; rw [hn]; rfl
    rw [← h2]; exact nk_14_14
  | 15, hn =>
    have h2 : td_14 15 = b := by unfold td_14; rw [hn]; rfl
    rw [← h2]; exact nk_14_15
  | 16, hn =>
    have h2 : td_14 16 = b := by unfold td_14; rw [hn]; rfl
    rw [← h2]; exact nk_14_16
  | 17, hn =>
    have h2 : td_14 17 = b := by unfold td_14; rw [hn]; rfl
    rw [← h2]; exact nk_14_17
  | n + 18, hn =>
    rw [pe_at_eq] at hn
    exact absurd (List.getElem?_eq_some_iff.mp hn).1 (by show ¬ n + 18 < 18; omega)
theorem nk_14 : pe_okM (pe_GL []) pe_cl pe_ckS tn_14 = true := pe_okM_mk (pe_w_of (by rfl) (by rfl)) (by decide +kernel) nk_14_a
set_option maxRecDepth 40000 in
theorem nk_15 : pe_okM (pe_GL []) pe_cl pe_ckS tn_15 = true := by decide +kernel
set_option maxRecDepth 40000 in
theorem nk_16 : pe_okM (pe_GL []) pe_cl pe_ckS tn_16 = true := by decide +kernel
set_option maxRecDepth 40000 in
theorem nk_17 : pe_okM (pe_GL []) pe_cl pe_ckS tn_17 = true := by decide +kernel
set_option maxRecDepth 40000 in
theorem nk_18 : pe_okM (pe_GL []) pe_cl pe_ckS tn_18 = true := by decide +kernel
def td_19 (k : Nat) : Nat × List pe_I := (pe_at tn_19.bl k).getD (0, [])
set_option maxRecDepth 40000 in
theorem nk_19_0 : pe_ckB (pe_GL []) pe_cl pe_ckS tn_19 (td_19 0).1 (td_19 0).2 = true := by decide +kernel
set_option maxRecDepth 40000 in
theorem nk_19_1 : pe_ckB (pe_GL []) pe_cl pe_ckS tn_19 (td_19 1).1 (td_19 1).2 = true := by decide +kernel
set_option maxRecDepth 40000 in
theorem nk_19_2 : pe_ckB (pe_GL []) pe_cl pe_ckS tn_19 (td_19 2).1 (td_19 2).2 = true := by decide +kernel
set_option maxRecDepth 40000 in
theorem nk_19_3 : pe_ckB (pe_GL []) pe_cl pe_ckS tn_19 (td_19 3).1 (td_19 3).2 = true := by decide +kernel
set_option maxRecDepth 40000 in
theorem nk_19_4 : pe_ckB (pe_GL []) pe_cl pe_ckS tn_19 (td_19 4).1 (td_19 4).2 = true := by decide +kernel
set_option maxRecDepth 40000 in
theorem nk_19_5 : pe_ckB (pe_GL []) pe_cl pe_ckS tn_19 (td_19 5).1 (td_19 5).2 = true := by decide +kernel
theorem nk_19_a : ∀ b ∈ tn_19.bl, pe_ckB (pe_GL []) pe_cl pe_ckS tn_19 b.1 b.2 = true := by
  intro b hb
  obtain ⟨n, hn⟩ := List.getElem?_of_mem hb
  rw [← pe_at_eq] at hn
  match n, hn with
  | 0, hn =>
    have h2 : td_19 0 = b := by unfold td_19; rw [hn]; rfl
    rw [← h2]; exact nk_19_0
  | 1, hn =>
    have h2 : td_19 1 = b := by unfold td_19; rw [hn]; rfl
    rw [← h2]; exact nk_19_1
  | 2, hn =>
    have h2 : td_19 2 = b := by unfold td_19; rw [hn]; rfl
    rw [← h2]; exact nk_19_2
  | 3, hn =>
    have h2 : td_19 3 = b := by unfold td_19; rw [hn]; rfl
    rw [← h2]; exact nk_19_3
  | 4, hn =>
    have h2 : td_19 4 = b := by unfold td_19; rw [hn]; rfl
    rw [← h2]; exact nk_19_4
  | 5, hn =>
    have h2 : td_19 5 = b := by unfold td_19; rw [hn]; rfl
    rw [← h2]; exact nk_19_5
  | n + 6, hn =>
    rw [pe_at_eq] at hn
    exact absurd (List.getElem?_eq_some_iff.mp hn).1 (by show ¬ n + 6 < 6; omega)
theorem nk_19 : pe_okM (pe_GL []) pe_cl pe_ckS tn_19 = true := pe_okM_mk (pe_w_of (by rfl) (by rfl)) (by decide +kernel) nk_19_a
set_option maxRecDepth 40000 in
theorem nk_20 : pe_okM (pe_GL []) pe_cl pe_ckS tn_20 = true := by decide +kernel
set_option maxRecDepth 40000 in
theorem nk_21 : pe_okM (pe_GL []) pe_cl pe_ckS tn_21 = true := by decide +kernel
set_option maxRecDepth 40000 in
theorem nk_22 : pe_okM (pe_GL []) pe_cl pe_ckS tn_22 = true := by decide +kernel
def td_23 (k : Nat) : Nat × List pe_I := (pe_at tn_23.bl k).getD (0, [])
set_option maxRecDepth 40000 in
theorem nk_23_0 : pe_ckB (pe_GL []) pe_cl pe_ckS tn_23 (td_23 0).1 (td_23 0).2 = true := by decide +kernel
set_option maxRecDepth 40000 in
theorem nk_23_1 : pe_ckB (pe_GL []) pe_cl pe_ckS tn_23 (td_23 1).1 (td_23 1).2 = true := by decide +kernel
set_option maxRecDepth 40000 in
theorem nk_23_2 : pe_ckB (pe_GL []) pe_cl pe_ckS tn_23 (td_23 2).1 (td_23 2).2 = true := by decide +kernel
set_option maxRecDepth 40000 in
theorem nk_23_3 : pe_ckB (pe_GL []) pe_cl pe_ckS tn_23 (td_23 3).1 (td_23 3).2 = true := by decide +kernel
set_option maxRecDepth 40000 in
theorem nk_23_4 : pe_ckB (pe_GL []) pe_cl pe_ckS tn_23 (td_23 4).1 (td_23 4).2 = true := by decide +kernel
set_option maxRecDepth 40000 in
theorem nk_23_5 : pe_ckB (pe_GL []) pe_cl pe_ckS tn_23 (td_23 5).1 (td_23 5).2 = true := by decide +kernel
set_option maxRecDepth 40000 in
theorem nk_23_6 : pe_ckB (pe_GL []) pe_cl pe_ckS tn_23 (td_23 6).1 (td_23 6).2 = true := by decide +kernel
set_option maxRecDepth 40000 in
theorem nk_23_7 : pe_ckB (pe_GL []) pe_cl pe_ckS tn_23 (td_23 7).1 (td_23 7).2 = true := by decide +kernel
set_option maxRecDepth 40000 in
theorem nk_23_8 : pe_ckB (pe_GL []) pe_cl pe_ckS tn_23 (td_23 8).1 (td_23 8).2 = true := by decide +kernel
set_option maxRecDepth 40000 in
theorem nk_23_9 : pe_ckB (pe_GL []) pe_cl pe_ckS tn_23 (td_23 9).1 (td_23 9).2 = true := by decide +kernel
set_option maxRecDepth 40000 in
theorem nk_23_10 : pe_ckB (pe_GL []) pe_cl pe_ckS tn_23 (td_23 10).1 (td_23 10).2 = true := by decide +kernel
set_option maxRecDepth 40000 in
theorem nk_23_11 : pe_ckB (pe_GL []) pe_cl pe_ckS tn_23 (td_23 11).1 (td_23 11).2 = true := by decide +kernel
set_option maxRecDepth 40000 in
theorem nk_23_12 : pe_ckB (pe_GL []) pe_cl pe_ckS tn_23 (td_23 12).1 (td_23 12).2 = true := by decide +kernel
set_option maxRecDepth 40000 in
theorem nk_23_13 : pe_ckB (pe_GL []) pe_cl pe_ckS tn_23 (td_23 13).1 (td_23 13).2 = true := by decide +kernel
set_option maxRecDepth 40000 in
theorem nk_23_14 : pe_ckB (pe_GL []) pe_cl pe_ckS tn_23 (td_23 14).1 (td_23 14).2 = true := by decide +kernel
theorem nk_23_a : ∀ b ∈ tn_23.bl, pe_ckB (pe_GL []) pe_cl pe_ckS tn_23 b.1 b.2 = true := by
  intro b hb
  obtain ⟨n, hn⟩ := List.getElem?_of_mem hb
  rw [← pe_at_eq] at hn
  match n, hn with
  | 0, hn =>
    have h2 : td_23 0 = b := by unfold td_23; rw [hn]; rfl
    rw [← h2]; exact nk_23_0
  | 1, hn =>
    have h2 : td_23 1 = b := by unfold td_23; rw [hn]; rfl
    rw [← h2]; exact nk_23_1
  | 2, hn =>
    have h2 : td_23 2 = b := by unfold td_23; rw [hn]; rfl
    rw [← h2]; exact nk_23_2
  | 3, hn =>
    have h2 : td_23 3 = b := by unfold td_23; rw [hn]; rfl
    rw [← h2]; exact nk_23_3
  | 4, hn =>
    have h2 : td_23 4 = b := by unfold td_23; rw [hn]; rfl
    rw [← h2]; exact nk_23_4
  | 5, hn =>
    have h2 : td_23 5 = b := by unfold td_23; rw [hn]; rfl
    rw [← h2]; exact nk_23_5
  | 6, hn =>
    have h2 : td_23 6 = b := by unfold td_23; rw [hn]; rfl
    rw [← h2]; exact nk_23_6
  | 7, hn =>
    have h2 : td_23 7 = b := by unfold td_23; rw [hn]; rfl
    rw [← h2]; exact nk_23_7
  | 8, hn =>
    have h2 : td_23 8 = b := by unfold td_23; rw [hn]; rfl
    rw [← h2]; exact nk_23_8
  | 9, hn =>
    have h2 : td_23 9 = b := by unfold td_23; rw [hn]; rfl
    rw [← h2]; exact nk_23_9
  | 10, hn =>
    have h2 : td_23 10 = b := by unfold td_23; rw [hn]; rfl
    rw [← h2]; exact nk_23_10
  | 11, hn =>
    have h2 : td_23 11 = b := by unfold td_23; rw [hn]; rfl
    rw [← h2]; exact nk_23_11
  | 12, hn =>
    have h2 : td_23 12 = b := by unfold td_23; rw [hn]; rfl
    rw [← h2]; exact nk_23_12
  | 13, hn =>
    have h2 : td_23 13 = b := by unfold td_23; rw [hn]; rfl
    rw [← h2]; exact nk_23_13
  | 14, hn =>
    have h2 : td_23 14 = b := by unfold td_23; rw [hn]; rfl
    rw [← h2]; exact nk_23_14
  | n + 15, hn =>
    rw [pe_at_eq] at hn
    exact absurd (List.getElem?_eq_some_iff.mp hn).1 (by show ¬ n + 15 < 15; omega)
theorem nk_23 : pe_okM (pe_GL []) pe_cl pe_ckS tn_23 = true := pe_okM_mk (pe_w_of (by rfl) (by rfl)) (by decide +kernel) nk_23_a
set_option maxRecDepth 40000 in
theorem nk_24 : pe_okM (pe_GL []) pe_cl pe_ckS tn_24 = true := by decide +kernel
set_option maxRecDepth 40000 in
theorem nk_25 : pe_okM (pe_GL []) pe_cl pe_ckS tn_25 = true := by decide +kernel
set_option maxRecDepth 40000 in
theorem nk_26 : pe_okM (pe_GL []) pe_cl pe_ckS tn_26 = true := by decide +kernel
set_option maxRecDepth 40000 in
theorem nk_27 : pe_okM (pe_GL []) pe_cl pe_ckS tn_27 = true := by decide +kernel
set_option maxRecDepth 40000 in
theorem nk_28 : pe_okM (pe_GL []) pe_cl pe_ckS tn_28 = true := by decide +kernel
set_option maxRecDepth 40000 in
theorem nk_29 : pe_okM (pe_GL []) pe_cl pe_ckS tn_29 = true := by decide +kernel
set_option maxRecDepth 40000 in
theorem nk_30 : pe_okM (pe_GL []) pe_cl pe_ckS tn_30 = true := by decide +kernel
set_option maxRecDepth 40000 in
theorem nk_31 : pe_okM (pe_GL []) pe_cl pe_ckS tn_31 = true := by decide +kernel
def td_32 (k : Nat) : Nat × List pe_I := (pe_at tn_32.bl k).getD (0, [])
set_option maxRecDepth 40000 in
theorem nk_32_0 : pe_ckB (pe_GL []) pe_cl pe_ckS tn_32 (td_32 0).1 (td_32 0).2 = true := by decide +kernel
set_option maxRecDepth 40000 in
theorem nk_32_1 : pe_ckB (pe_GL []) pe_cl pe_ckS tn_32 (td_32 1).1 (td_32 1).2 = true := by decide +kernel
set_option maxRecDepth 40000 in
theorem nk_32_2 : pe_ckB (pe_GL []) pe_cl pe_ckS tn_32 (td_32 2).1 (td_32 2).2 = true := by decide +kernel
set_option maxRecDepth 40000 in
theorem nk_32_3 : pe_ckB (pe_GL []) pe_cl pe_ckS tn_32 (td_32 3).1 (td_32 3).2 = true := by decide +kernel
set_option maxRecDepth 40000 in
theorem nk_32_4 : pe_ckB (pe_GL []) pe_cl pe_ckS tn_32 (td_32 4).1 (td_32 4).2 = true := by decide +kernel
set_option maxRecDepth 40000 in
theorem nk_32_5 : pe_ckB (pe_GL []) pe_cl pe_ckS tn_32 (td_32 5).1 (td_32 5).2 = true := by decide +kernel
set_option maxRecDepth 40000 in
theorem nk_32_6 : pe_ckB (pe_GL []) pe_cl pe_ckS tn_32 (td_32 6).1 (td_32 6).2 = true := by decide +kernel
set_option maxRecDepth 40000 in
theorem nk_32_7 : pe_ckB (pe_GL []) pe_cl pe_ckS tn_32 (td_32 7).1 (td_32 7).2 = true := by decide +kernel
set_option maxRecDepth 40000 in
theorem nk_32_8 : pe_ckB (pe_GL []) pe_cl pe_ckS tn_32 (td_32 8).1 (td_32 8).2 = true := by decide +kernel
set_option maxRecDepth 40000 in
theorem nk_32_9 : pe_ckB (pe_GL []) pe_cl pe_ckS tn_32 (td_32 9).1 (td_32 9).2 = true := by decide +kernel
set_option maxRecDepth 40000 in
theorem nk_32_10 : pe_ckB (pe_GL []) pe_cl pe_ckS tn_32 (td_32 10).1 (td_32 10).2 = true := by decide +kernel
set_option maxRecDepth 40000 in
theorem nk_32_11 : pe_ckB (pe_GL []) pe_cl pe_ckS tn_32 (td_32 11).1 (td_32 11).2 = true := by decide +kernel
set_option maxRecDepth 40000 in
theorem nk_32_12 : pe_ckB (pe_GL []) pe_cl pe_ckS tn_32 (td_32 12).1 (td_32 12).2 = true := by decide +kernel
set_option maxRecDepth 40000 in
theorem nk_32_13 : pe_ckB (pe_GL []) pe_cl pe_ckS tn_32 (td_32 13).1 (td_32 13).2 = true := by decide +kernel
set_option maxRecDepth 40000 in
theorem nk_32_14 : pe_ckB (pe_GL []) pe_cl pe_ckS tn_32 (td_32 14).1 (td_32 14).2 = true := by decide +kernel
set_option maxRecDepth 40000 in
theorem nk_32_15 : pe_ckB (pe_GL []) pe_cl pe_ckS tn_32 (td_32 15).1 (td_32 15).2 = true := by decide +kernel
set_option maxRecDepth 40000 in
theorem nk_32_16 : pe_ckB (pe_GL []) pe_cl pe_ckS tn_32 (td_32 16).1 (td_32 16).2 = true := by decide +kernel
theorem nk_32_a : ∀ b ∈ tn_32.bl, pe_ckB (pe_GL []) pe_cl pe_ckS tn_32 b.1 b.2 = true := by
  intro b hb
  obtain ⟨n, hn⟩ := List.getElem?_of_mem hb
  rw [← pe_at_eq] at hn
  match n, hn with
  | 0, hn =>
    have h2 : td_32 0 = b := by unfold td_32; rw [hn]; rfl
    rw [← h2]; exact nk_32_0
  | 1, hn =>
    have h2 : td_32 1 = b := by unfold td_32; rw [hn]; rfl
    rw [← h2]; exact nk_32_1
  | 2, hn =>
    have h2 : td_32 2 = b := by unfold td_32; rw [hn]; rfl
    rw [← h2]; exact nk_32_2
  | 3, hn =>
    have h2 : td_32 3 = b := by unfold td_32; rw [hn]; rfl
    rw [← h2]; exact nk_32_3
  | 4, hn =>
    have h2 : td_32 4 = b := by unfold td_32; rw [hn]; rfl
    rw [← h2]; exact nk_32_4
  | 5, hn =>
    have h2 : td_32 5 = b := by unfold td_32; rw [hn]; rfl
    rw [← h2]; exact nk_32_5
  | 6, hn =>
    have h2 : td_32 6 = b := by unfold td_32; rw [hn]; rfl
    rw [← h2]; exact nk_32_6
  | 7, hn =>
    have h2 : td_32 7 = b := by unfold td_32; rw [hn]; rfl
    rw [← h2]; exact nk_32_7
  | 8, hn =>
    have h2 : td_32 8 = b := by unfold td_32; rw [hn]; rfl
    rw [← h2]; exact nk_32_8
  | 9, hn =>
    have h2 : td_32 9 = b := by unfold td_32; rw [hn]; rfl
    rw [← h2]; exact nk_32_9
  | 10, hn =>
    have h2 : td_32 10 = b := by unfold td_32; rw [hn]; rfl
    rw [← h2]; exact nk_32_10
  | 11, hn =>
    have h2 : td_32 11 = b := by unfold td_32; rw [hn]; rfl
    rw [← h2]; exact nk_32_11
  | 12, hn =>
    have h2 : td_32 12 = b := by unfold td_32; rw [hn]; rfl
    rw [← h2]; exact nk_32_12
  | 13, hn =>
    have h2 : td_32 13 = b := by unfold td_32; rw [hn]; rfl
    rw [← h2]; exact nk_32_13
  | 14, hn =>
    have h2 : td_32 14 = b := by unfold td_32; rw [hn]; rfl
    rw [← h2]; exact nk_32_14
  | 15, hn =>
    have h2 : td_32 15 = b := by unfold td_32; rw [hn]; rfl
    rw [← h2]; exact nk_32_15
  | 16, hn =>
    have h2 : td_32 16 = b := by unfold td_32; rw [hn]; rfl
    rw [← h2]; exact nk_32_16
  | n + 17, hn =>
    rw [pe_at_eq] at hn
    exact absurd (List.getElem?_eq_some_iff.mp hn).1 (by show ¬ n + 17 < 17; omega)
theorem nk_32 : pe_okM (pe_GL []) pe_cl pe_ckS tn_32 = true := pe_okM_mk (pe_w_of (by rfl) (by rfl)) (by decide +kernel) nk_32_a
set_option maxRecDepth 40000 in
theorem nk_33 : pe_okM (pe_GL []) pe_cl pe_ckS tn_33 = true := by decide +kernel
set_option maxRecDepth 40000 in
theorem nk_34 : pe_okM (pe_GL []) pe_cl pe_ckS tn_34 = true := by decide +kernel
set_option maxRecDepth 40000 in
theorem nk_35 : pe_okM (pe_GL []) pe_cl pe_ckS tn_35 = true := by decide +kernel
theorem pe_msL_ok (c : List Int32) : ∀ mi mt, pe_at (pe_GL c).ms mi = some mt → pe_okM (pe_GL c) pe_cl pe_ckS mt = true := by
  intro mi mt h
  match mi, h with
  | 0, h =>
    have h2 : some tn_0 = some mt := h
    cases h2
    exact pe_okM_xs nk_0
  | 1, h =>
    have h2 : some tn_1 = some mt := h
    cases h2
    exact pe_okM_xs nk_1
  | 2, h =>
    have h2 : some tn_2 = some mt := h
    cases h2
    exact pe_okM_xs nk_2
  | 3, h =>
    have h2 : some tn_3 = some mt := h
    cases h2
    exact pe_okM_xs nk_3
  | 4, h =>
    have h2 : some tn_4 = some mt := h
    cases h2
    exact pe_okM_xs nk_4
  | 5, h =>
    have h2 : some tn_5 = some mt := h
    cases h2
    exact pe_okM_xs nk_5
  | 6, h =>
    have h2 : some tn_6 = some mt := h
    cases h2
    exact pe_okM_xs nk_6
  | 7, h =>
    have h2 : some tn_7 = some mt := h
    cases h2
    exact pe_okM_xs nk_7
  | 8, h =>
    have h2 : some tn_8 = some mt := h
    cases h2
    exact pe_okM_xs nk_8
  | 9, h =>
    have h2 : some tn_9 = some mt := h
    cases h2
    exact pe_okM_xs nk_9
  | 10, h =>
    have h2 : some tn_10 = some mt := h
    cases h2
    exact pe_okM_xs nk_10
  | 11, h =>
    have h2 : some tn_11 = some mt := h
    cases h2
    exact pe_okM_xs nk_11
  | 12, h =>
    have h2 : some tn_12 = some mt := h
    cases h2
    exact pe_okM_xs nk_12
  | 13, h =>
    have h2 : some tn_13 = some mt := h
    cases h2
    exact pe_okM_xs nk_13
  | 14, h =>
    have h2 : some tn_14 = some mt := h
    cases h2
    exact pe_okM_xs nk_14
  | 15, h =>
    have h2 : some tn_15 = some mt := h
    cases h2
    exact pe_okM_xs nk_15
  | 16, h =>
    have h2 : some tn_16 = some mt := h
    cases h2
    exact pe_okM_xs nk_16
  | 17, h =>
    have h2 : some tn_17 = some mt := h
    cases h2
    exact pe_okM_xs nk_17
  | 18, h =>
    have h2 : some tn_18 = some mt := h
    cases h2
    exact pe_okM_xs nk_18
  | 19, h =>
    have h2 : some tn_19 = some mt := h
    cases h2
    exact pe_okM_xs nk_19
  | 20, h =>
    have h2 : some tn_20 = some mt := h
    cases h2
    exact pe_okM_xs nk_20
  | 21, h =>
    have h2 : some tn_21 = some mt := h
    cases h2
    exact pe_okM_xs nk_21
  | 22, h =>
    have h2 : some tn_22 = some mt := h
    cases h2
    exact pe_okM_xs nk_22
  | 23, h =>
    have h2 : some tn_23 = some mt := h
    cases h2
    exact pe_okM_xs nk_23
  | 24, h =>
    have h2 : some tn_24 = some mt := h
    cases h2
    exact pe_okM_xs nk_24
  | 25, h =>
    have h2 : some tn_25 = some mt := h
    cases h2
    exact pe_okM_xs nk_25
  | 26, h =>
    have h2 : some tn_26 = some mt := h
    cases h2
    exact pe_okM_xs nk_26
  | 27, h =>
    have h2 : some tn_27 = some mt := h
    cases h2
    exact pe_okM_xs nk_27
  | 28, h =>
    have h2 : some tn_28 = some mt := h
    cases h2
    exact pe_okM_xs nk_28
  | 29, h =>
    have h2 : some tn_29 = some mt := h
    cases h2
    exact pe_okM_xs nk_29
  | 30, h =>
    have h2 : some tn_30 = some mt := h
    cases h2
    exact pe_okM_xs nk_30
  | 31, h =>
    have h2 : some tn_31 = some mt := h
    cases h2
    exact pe_okM_xs nk_31
  | 32, h =>
    have h2 : some tn_32 = some mt := h
    cases h2
    exact pe_okM_xs nk_32
  | 33, h =>
    have h2 : some tn_33 = some mt := h
    cases h2
    exact pe_okM_xs nk_33
  | 34, h =>
    have h2 : some tn_34 = some mt := h
    cases h2
    exact pe_okM_xs nk_34
  | 35, h =>
    have h2 : some tn_35 = some mt := h
    cases h2
    exact pe_okM_xs nk_35
  | n + 36, h =>
    rw [pe_at_eq] at h
    exact absurd (List.getElem?_eq_some_iff.mp h).1 (by show ¬ n + 36 < 36; omega)
