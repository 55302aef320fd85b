/-! PART 26: the methods that the constructor of the class reaches. -/
def tm_0 : pe_Mt := (⟨"LinkedTongue", "<init>", "()V"⟩, prog_1_method_1_code, 2, (Option.none : Option Jvm.ClassFile.FieldType), [], 37, [
    (0, [.inl (.aload_n 0), .inr (.inr (.inr (.inr (.inr (.inr (.inr (.inr (.inr (.inr (.inr (.inr (.inr (.inr (.inl (1, [38, 39, 40]))))))))))))))), .inl (.aload_n 0), .inl (.sipush (256)), .inl (.newarray .byte), .inr (.inr (.inr (.inr (.inl (7, 10, 0, 2, none, 3089))))), .inl (.aload_n 0), .inr (.inr (.inr (.inr (.inr (.inr (.inr (.inr (.inr (.inr (.inr (.inr (.inl (13, 9, [41, 42, 2]))))))))))))), .inl .dup, .inl (.sipush (1024)), .inr (.inr (.inr (.inr (.inr (.inr (.inr (.inr (.inr (.inr (.inr (.inr (.inr (.inr (.inr (.inl (.inl (false, 15, 0))))))))))))))))), .inr (.inr (.inr (.inr (.inr (.inr (.inr (.inl (17, 2, 2, [44, 45, 2])))))))), .inr (.inr (.inr (.inr (.inl (20, 10, 2, 2, none, 3091))))), .inl (.aload_n 0), .inr (.inr (.inr (.inr (.inr (.inr (.inr (.inr (.inr (.inr (.inr (.inr (.inl (24, 6, [220, 221, 10]))))))))))))), .inl .dup, .inr (.inr (.inr (.inr (.inr (.inr (.inr (.inl (26, 3, 0, [222, 223, 10])))))))), .inr (.inr (.inr (.inr (.inl (27, 10, 3, 2, none, 3092))))), .inl (.aload_n 0), .inr (.inr (.inr (.inr (.inr (.inr (.inr (.inr (.inr (.inr (.inr (.inr (.inl (31, 0, [1023, 1024, 11]))))))))))))), .inl .dup, .inr (.inr (.inr (.inr (.inr (.inr (.inr (.inl (33, 4, 0, [1025, 1026, 11])))))))), .inr (.inr (.inr (.inr (.inl (34, 10, 4, 2, none, 3093))))), .inl (.aload_n 0), .inr (.inr (.inr (.inr (.inr (.inr (.inr (.inr (.inr (.inr (.inr (.inr (.inl (38, 4, [1110, 1111, 12]))))))))))))), .inl .dup, .inl (.aload_n 0), .inr (.inl (27, 10, 3, none, 3092)), .inr (.inr (.inr (.inr (.inr (.inr (.inr (.inl (40, 5, 1, [1112, 1113, 12])))))))), .inr (.inr (.inr (.inr (.inl (43, 10, 5, 2, none, 3094))))), .inl (.aload_n 0), .inr (.inr (.inr (.inr (.inr (.inr (.inr (.inr (.inr (.inr (.inr (.inr (.inl (47, 1, [1132, 1133, 13]))))))))))))), .inl .dup, .inl (.aload_n 0), .inr (.inl (27, 10, 3, none, 3092)), .inl (.aload_n 0), .inr (.inl (20, 10, 2, none, 3091)), .inl (.aload_n 0), .inr (.inl (34, 10, 4, none, 3093)), .inr (.inr (.inr (.inr (.inr (.inr (.inr (.inl (49, 6, 3, [1134, 1135, 13])))))))), .inr (.inr (.inr (.inr (.inr (.inr (.inr (.inr (.inl 1))))))))]),
    (86, [.inr (.inr (.inr (.inr (.inl (52, 10, 6, 2, none, 3095))))), .inl (.aload_n 0), .inr (.inr (.inr (.inr (.inr (.inr (.inr (.inr (.inr (.inr (.inr (.inr (.inl (56, 2, [1194, 1195, 14]))))))))))))), .inl .dup, .inl (.aload_n 0), .inr (.inl (20, 10, 2, none, 3091)), .inr (.inr (.inr (.inr (.inr (.inr (.inr (.inl (58, 7, 1, [1196, 1197, 14])))))))), .inr (.inr (.inr (.inr (.inl (61, 10, 7, 2, none, 3096))))), .inl (.aload_n 0), .inr (.inr (.inr (.inr (.inr (.inr (.inr (.inr (.inr (.inr (.inr (.inr (.inl (65, 5, [2177, 2178, 17]))))))))))))), .inl .dup, .inl (.aload_n 0), .inr (.inl (61, 10, 7, none, 3096)), .inl (.aload_n 0), .inr (.inl (34, 10, 4, none, 3093)), .inr (.inr (.inr (.inr (.inr (.inr (.inr (.inl (67, 8, 2, [2179, 2180, 17])))))))), .inr (.inr (.inr (.inr (.inl (70, 10, 8, 2, none, 3097))))), .inl (.aload_n 0), .inl (.iconst (2)), .inr (.inr (.inr (.inr (.inr (.inr (.inr (.inr (.inr (.inr (.inr (.inr (.inr (.inl (74, 14, [3014, 3015])))))))))))))), .inr (.inr (.inr (.inr (.inl (76, 10, 9, 2, none, 3098))))), .inl (.aload_n 0), .inr (.inr (.inr (.inr (.inr (.inr (.inr (.inr (.inr (.inr (.inr (.inr (.inl (80, 3, [3016, 1201, 15]))))))))))))), .inl .dup, .inr (.inr (.inr (.inr (.inr (.inr (.inr (.inl (82, 9, 0, [3017, 1203, 15])))))))), .inr (.inr (.inr (.inr (.inl (83, 10, 10, 2, none, 3099))))), .inl (.iconst (0)), .inl (.istore_n 1), .inr (.inr (.inr (.inr (.inr (.inr (.inr (.inr (.inl 2))))))))]),
    (144, [.inl (.iload_n 1), .inl (.iconst (2)), .inr (.inr (.inl ((.if_icmp .ge (34)), 3))), .inl (.aload_n 0), .inr (.inl (76, 10, 9, none, 3098)), .inl (.iload_n 1), .inr (.inr (.inr (.inr (.inr (.inr (.inr (.inr (.inr (.inr (.inr (.inr (.inl (74, 8, [3014, 3018, 18]))))))))))))), .inl .dup, .inl (.aload_n 0), .inr (.inl (61, 10, 7, none, 3096)), .inl (.aload_n 0), .inr (.inl (34, 10, 4, none, 3093)), .inl (.aload_n 0), .inr (.inl (70, 10, 8, none, 3097)), .inr (.inr (.inr (.inr (.inr (.inr (.inr (.inl (87, 10, 3, [3019, 3020, 18])))))))), .inl .aastore, .inl (.iinc 1 (1)), .inr (.inr (.inl ((.goto (-33)), 2)))]),
    (180, [.inr (.inr (.inr (.inr (.inr (.inr (.inr (.inr (.inr (.inl .return_)))))))))])])
def tm_1 : pe_Mt := (⟨"LinkedTongueModel", "<init>", "()V"⟩, prog_13_method_1_code, 1, (Option.none : Option Jvm.ClassFile.FieldType), [], 9035, [
    (0, [.inl (.aload_n 0), .inr (.inr (.inr (.inr (.inr (.inr (.inr (.inr (.inr (.inr (.inr (.inr (.inr (.inr (.inl (3, [9036, 39, 40]))))))))))))))), .inl (.aload_n 0), .inr (.inr (.inr (.inr (.inr (.inr (.inr (.inr (.inr (.inr (.inr (.inr (.inr (.inr (.inr (.inl (.inr (.inr (.inr (.inr (.inr (.inr (.inl (9, 11, [9037, 9038, 23, 9046]))))))))))))))))))))))), .inr (.inr (.inr (.inr (.inl (12, 15, 1, 2, none, 9191))))), .inl (.aload_n 0), .inr (.inr (.inr (.inl (false, 16, (65552), 9066)))), .inl (.newarray .byte), .inr (.inr (.inr (.inr (.inl (17, 15, 2, 2, none, 9192))))), .inl (.aload_n 0), .inl (.bipush (64)), .inl (.newarray .byte), .inr (.inr (.inr (.inr (.inl (21, 15, 11, 2, none, 9201))))), .inl (.aload_n 0), .inr (.inr (.inr (.inr (.inr (.inr (.inr (.inr (.inr (.inr (.inr (.inr (.inl (24, 12, [9067, 9068, 24]))))))))))))), .inl .dup, .inr (.inr (.inr (.inr (.inr (.inr (.inr (.inl (26, 11, 0, [9069, 9070, 24])))))))), .inr (.inr (.inr (.inr (.inl (27, 15, 13, 2, none, 9203))))), .inl (.aload_n 0), .inr (.inr (.inr (.inr (.inr (.inr (.inr (.inr (.inr (.inr (.inr (.inr (.inl (24, 12, [9067, 9068, 24]))))))))))))), .inl .dup, .inr (.inr (.inr (.inr (.inr (.inr (.inr (.inl (26, 11, 0, [9069, 9070, 24])))))))), .inr (.inr (.inr (.inr (.inl (31, 15, 14, 2, none, 9204))))), .inl (.aload_n 0), .inr (.inr (.inr (.inl (false, 34, (240000), 9157)))), .inl (.newarray .byte), .inr (.inr (.inr (.inr (.inl (35, 15, 17, 2, none, 9207))))), .inl (.aload_n 0), .inl (.sipush (4000)), .inl (.newarray .int), .inr (.inr (.inr (.inr (.inl (38, 15, 18, 2, none, 9208))))), .inl (.aload_n 0), .inr (.inr (.inr (.inl (false, 42, (269632), 9158)))), .inl (.newarray .byte), .inr (.inr (.inr (.inr (.inl (43, 15, 21, 2, none, 9211))))), .inl (.aload_n 0), .inl (.sipush (16000)), .inl (.newarray .int), .inr (.inr (.inr (.inr (.inr (.inr (.inr (.inr (.inl 1))))))))]),
    (84, [.inr (.inr (.inr (.inr (.inl (46, 15, 22, 2, none, 9212))))), .inl (.aload_n 0), .inl (.sipush (16000)), .inl (.newarray .int), .inr (.inr (.inr (.inr (.inl (49, 15, 23, 2, none, 9213))))), .inl (.aload_n 0), .inl (.sipush (400)), .inr (.inr (.inr (.inr (.inr (.inr (.inr (.inr (.inr (.inr (.inr (.inr (.inr (.inl (52, 20, [9159, 9160])))))))))))))), .inr (.inr (.inr (.inr (.inl (54, 15, 24, 2, none, 9214))))), .inl (.aload_n 0), .inr (.inr (.inr (.inr (.inr (.inr (.inr (.inr (.inr (.inr (.inr (.inr (.inl (58, 13, [9161, 9162, 25]))))))))))))), .inl .dup, .inl (.sipush (4000)), .inr (.inr (.inr (.inr (.inr (.inr (.inr (.inl (60, 12, 1, [9163, 9164, 25])))))))), .inr (.inr (.inr (.inr (.inl (63, 15, 30, 2, none, 9220))))), .inl (.aload_n 0), .inr (.inr (.inr (.inr (.inr (.inr (.inr (.inr (.inr (.inr (.inr (.inr (.inl (58, 13, [9161, 9162, 25]))))))))))))), .inl .dup, .inl (.sipush (4000)), .inr (.inr (.inr (.inr (.inr (.inr (.inr (.inl (60, 12, 1, [9163, 9164, 25])))))))), .inr (.inr (.inr (.inr (.inl (67, 15, 31, 2, none, 9221))))), .inl (.aload_n 0), .inr (.inr (.inr (.inr (.inr (.inr (.inr (.inr (.inr (.inr (.inr (.inr (.inl (58, 13, [9161, 9162, 25]))))))))))))), .inl .dup, .inl (.sipush (4000)), .inr (.inr (.inr (.inr (.inr (.inr (.inr (.inl (60, 12, 1, [9163, 9164, 25])))))))), .inr (.inr (.inr (.inr (.inl (70, 15, 32, 2, none, 9222))))), .inl (.aload_n 0), .inl (.sipush (400)), .inl (.newarray .int), .inr (.inr (.inr (.inr (.inl (73, 15, 35, 2, none, 9225))))), .inl (.aload_n 0), .inl (.bipush (16)), .inl (.newarray .int), .inr (.inr (.inr (.inr (.inl (76, 15, 36, 2, none, 9226))))), .inl (.aload_n 0), .inl (.sipush (400)), .inl (.newarray .int), .inr (.inr (.inr (.inr (.inl (79, 15, 37, 2, none, 9227))))), .inl (.aload_n 0), .inr (.inr (.inr (.inr (.inr (.inr (.inr (.inr (.inl 2))))))))]),
    (175, [.inl (.sipush (400)), .inl (.newarray .int), .inr (.inr (.inr (.inr (.inl (82, 15, 38, 2, none, 9228))))), .inl (.aload_n 0), .inl (.sipush (400)), .inl (.newarray .int), .inr (.inr (.inr (.inr (.inl (85, 15, 39, 2, none, 9229))))), .inl (.aload_n 0), .inl (.sipush (400)), .inl (.newarray .int), .inr (.inr (.inr (.inr (.inl (88, 15, 40, 2, none, 9230))))), .inl (.aload_n 0), .inl (.sipush (400)), .inl (.newarray .int), .inr (.inr (.inr (.inr (.inl (91, 15, 41, 2, none, 9231))))), .inl (.aload_n 0), .inl (.sipush (400)), .inl (.newarray .int), .inr (.inr (.inr (.inr (.inl (94, 15, 42, 2, none, 9232))))), .inl (.aload_n 0), .inl (.sipush (20000)), .inl (.newarray .int), .inr (.inr (.inr (.inr (.inl (97, 15, 44, 2, none, 9234))))), .inl (.aload_n 0), .inl (.sipush (20000)), .inl (.newarray .int), .inr (.inr (.inr (.inr (.inl (100, 15, 45, 2, none, 9235))))), .inl (.aload_n 0), .inl (.sipush (20000)), .inl (.newarray .int), .inr (.inr (.inr (.inr (.inl (103, 15, 46, 2, none, 9236))))), .inl (.aload_n 0), .inl (.sipush (4000)), .inl (.newarray .int), .inr (.inr (.inr (.inr (.inl (106, 15, 49, 2, none, 9239))))), .inl (.aload_n 0), .inl (.sipush (4000)), .inl (.newarray .int), .inr (.inr (.inr (.inr (.inl (109, 15, 50, 2, none, 10000))))), .inl (.aload_n 0), .inr (.inr (.inr (.inr (.inr (.inr (.inr (.inr (.inl 3))))))))]),
    (265, [.inl (.sipush (4000)), .inl (.newarray .int), .inr (.inr (.inr (.inr (.inl (112, 15, 51, 2, none, 10001))))), .inl (.aload_n 0), .inl (.sipush (4000)), .inl (.newarray .int), .inr (.inr (.inr (.inr (.inl (115, 15, 52, 2, none, 10002))))), .inl (.aload_n 0), .inl (.sipush (4000)), .inl (.newarray .int), .inr (.inr (.inr (.inr (.inl (118, 15, 53, 2, none, 10003))))), .inl (.aload_n 0), .inl (.sipush (4000)), .inl (.newarray .int), .inr (.inr (.inr (.inr (.inl (121, 15, 54, 2, none, 10004))))), .inl (.aload_n 0), .inl (.sipush (4000)), .inl (.newarray .int), .inr (.inr (.inr (.inr (.inl (124, 15, 55, 2, none, 10005))))), .inl (.aload_n 0), .inl (.sipush (4000)), .inl (.newarray .int), .inr (.inr (.inr (.inr (.inl (127, 15, 56, 2, none, 10006))))), .inl (.aload_n 0), .inl (.sipush (4000)), .inl (.newarray .int), .inr (.inr (.inr (.inr (.inl (130, 15, 57, 2, none, 10007))))), .inl (.aload_n 0), .inl (.sipush (4000)), .inl (.newarray .boolean), .inr (.inr (.inr (.inr (.inl (133, 15, 58, 2, none, 10008))))), .inl (.aload_n 0), .inl (.sipush (8000)), .inl (.newarray .int), .inr (.inr (.inr (.inr (.inl (137, 15, 70, 2, none, 10020))))), .inl (.aload_n 0), .inl (.sipush (8000)), .inl (.newarray .int), .inr (.inr (.inr (.inr (.inl (140, 15, 71, 2, none, 10021))))), .inl (.aload_n 0), .inr (.inr (.inr (.inr (.inr (.inr (.inr (.inr (.inl 4))))))))]),
    (355, [.inl (.sipush (8000)), .inl (.newarray .int), .inr (.inr (.inr (.inr (.inl (143, 15, 72, 2, none, 10022))))), .inl (.aload_n 0), .inl (.sipush (8000)), .inl (.newarray .int), .inr (.inr (.inr (.inr (.inl (146, 15, 73, 2, none, 10023))))), .inl (.aload_n 0), .inl (.sipush (8000)), .inl (.newarray .int), .inr (.inr (.inr (.inr (.inl (149, 15, 74, 2, none, 10024))))), .inl (.aload_n 0), .inl (.sipush (8000)), .inl (.newarray .int), .inr (.inr (.inr (.inr (.inl (152, 15, 75, 2, none, 10025))))), .inl (.aload_n 0), .inl (.sipush (8000)), .inl (.newarray .int), .inr (.inr (.inr (.inr (.inl (155, 15, 76, 2, none, 10026))))), .inl (.aload_n 0), .inl (.sipush (8000)), .inl (.newarray .int), .inr (.inr (.inr (.inr (.inl (158, 15, 77, 2, none, 10027))))), .inl (.aload_n 0), .inl (.sipush (8000)), .inl (.newarray .boolean), .inr (.inr (.inr (.inr (.inl (161, 15, 78, 2, none, 10028))))), .inl (.aload_n 0), .inl (.sipush (8000)), .inl (.newarray .int), .inr (.inr (.inr (.inr (.inl (164, 15, 79, 2, none, 10029))))), .inl (.aload_n 0), .inl (.sipush (8000)), .inl (.newarray .int), .inr (.inr (.inr (.inr (.inl (167, 15, 80, 2, none, 10030))))), .inl (.aload_n 0), .inr (.inr (.inr (.inl (false, 170, (60000), 9180)))), .inl (.newarray .int), .inr (.inr (.inr (.inr (.inl (171, 15, 83, 2, none, 10033))))), .inl (.aload_n 0), .inr (.inr (.inr (.inr (.inr (.inr (.inr (.inr (.inl 5))))))))]),
    (444, [.inr (.inr (.inr (.inl (false, 170, (60000), 9180)))), .inl (.newarray .long), .inr (.inr (.inr (.inr (.inl (174, 15, 84, 2, none, 10034))))), .inl (.aload_n 0), .inr (.inr (.inr (.inl (false, 170, (60000), 9180)))), .inl (.newarray .int), .inr (.inr (.inr (.inr (.inl (178, 15, 85, 2, none, 10035))))), .inl (.aload_n 0), .inr (.inr (.inr (.inl (false, 170, (60000), 9180)))), .inl (.newarray .int), .inr (.inr (.inr (.inr (.inl (181, 15, 86, 2, none, 10036))))), .inl (.aload_n 0), .inl (.sipush (4001)), .inl (.newarray .int), .inr (.inr (.inr (.inr (.inl (184, 15, 88, 2, none, 10038))))), .inl (.aload_n 0), .inl (.sipush (4001)), .inl (.newarray .int), .inr (.inr (.inr (.inr (.inl (187, 15, 89, 2, none, 10039))))), .inl (.aload_n 0), .inl (.sipush (4001)), .inl (.newarray .int), .inr (.inr (.inr (.inr (.inl (190, 15, 90, 2, none, 10040))))), .inl (.aload_n 0), .inl (.sipush (4001)), .inl (.newarray .int), .inr (.inr (.inr (.inr (.inl (193, 15, 91, 2, none, 10041))))), .inl (.aload_n 0), .inl (.sipush (8000)), .inl (.newarray .int), .inr (.inr (.inr (.inr (.inl (196, 15, 92, 2, none, 10042))))), .inl (.aload_n 0), .inl (.sipush (8000)), .inl (.newarray .int), .inr (.inr (.inr (.inr (.inl (199, 15, 93, 2, none, 10043))))), .inl (.aload_n 0), .inr (.inr (.inr (.inl (false, 170, (60000), 9180)))), .inl (.newarray .int), .inr (.inr (.inr (.inr (.inl (202, 15, 95, 2, none, 10045))))), .inl (.aload_n 0), .inr (.inr (.inr (.inr (.inr (.inr (.inr (.inr (.inl 6))))))))]),
    (530, [.inr (.inr (.inr (.inl (false, 170, (60000), 9180)))), .inl (.newarray .long), .inr (.inr (.inr (.inr (.inl (205, 15, 96, 2, none, 10046))))), .inl (.aload_n 0), .inl (.sipush (4000)), .inl (.newarray .boolean), .inr (.inr (.inr (.inr (.inl (208, 15, 97, 2, none, 10047))))), .inl (.aload_n 0), .inl (.sipush (4000)), .inl (.newarray .int), .inr (.inr (.inr (.inr (.inl (211, 15, 98, 2, none, 10048))))), .inl (.aload_n 0), .inl (.sipush (4000)), .inl (.newarray .long), .inr (.inr (.inr (.inr (.inl (214, 15, 99, 2, none, 10049))))), .inl (.aload_n 0), .inl (.sipush (400)), .inl (.newarray .int), .inr (.inr (.inr (.inr (.inl (217, 15, 100, 2, none, 10050))))), .inl (.aload_n 0), .inl (.sipush (400)), .inl (.newarray .long), .inr (.inr (.inr (.inr (.inl (220, 15, 101, 2, none, 10051))))), .inl (.aload_n 0), .inr (.inr (.inr (.inl (false, 223, (65536), 9181)))), .inl (.newarray .byte), .inr (.inr (.inr (.inr (.inl (224, 15, 105, 2, none, 10055))))), .inl (.aload_n 0), .inr (.inr (.inr (.inl (false, 227, (100000), 9182)))), .inl (.newarray .int), .inr (.inr (.inr (.inr (.inl (228, 15, 107, 2, none, 10057))))), .inl (.aload_n 0), .inl (.iconst (4)), .inl (.newarray .int), .inr (.inr (.inr (.inr (.inl (231, 15, 109, 2, none, 10059))))), .inl (.aload_n 0), .inl (.sipush (256)), .inl (.newarray .byte), .inr (.inr (.inr (.inr (.inl (234, 15, 112, 2, none, 10062))))), .inl (.aload_n 0), .inr (.inr (.inr (.inr (.inr (.inr (.inr (.inr (.inl 7))))))))]),
    (615, [.inl (.sipush (2000)), .inl (.newarray .int), .inr (.inr (.inr (.inr (.inl (237, 15, 116, 2, none, 10066))))), .inl (.aload_n 0), .inl (.sipush (2000)), .inl (.newarray .int), .inr (.inr (.inr (.inr (.inl (240, 15, 117, 2, none, 10067))))), .inl (.aload_n 0), .inl (.sipush (2000)), .inl (.newarray .int), .inr (.inr (.inr (.inr (.inl (243, 15, 118, 2, none, 10068))))), .inl (.aload_n 0), .inl (.sipush (2000)), .inl (.newarray .int), .inr (.inr (.inr (.inr (.inl (246, 15, 119, 2, none, 10069))))), .inl (.aload_n 0), .inl (.sipush (16000)), .inl (.newarray .int), .inr (.inr (.inr (.inr (.inl (249, 15, 120, 2, none, 10070))))), .inl (.aload_n 0), .inl (.sipush (2000)), .inl (.newarray .int), .inr (.inr (.inr (.inr (.inl (252, 15, 121, 2, none, 10071))))), .inl (.aload_n 0), .inl (.bipush (8)), .inl (.newarray .int), .inr (.inr (.inr (.inr (.inl (255, 15, 123, 2, none, 10073))))), .inl (.aload_n 0), .inl (.bipush (60)), .inl (.newarray .int), .inr (.inr (.inr (.inr (.inl (258, 15, 125, 2, none, 10075))))), .inl (.aload_n 0), .inl (.bipush (72)), .inl (.newarray .byte), .inr (.inr (.inr (.inr (.inl (261, 15, 127, 2, none, 10077))))), .inl (.aload_n 0), .inl (.sipush (400)), .inl (.newarray .int), .inr (.inr (.inr (.inr (.inl (264, 15, 129, 2, none, 10079))))), .inl (.aload_n 0), .inr (.inr (.inr (.inr (.inr (.inr (.inr (.inr (.inl 8))))))))]),
    (702, [.inl (.sipush (400)), .inl (.newarray .int), .inr (.inr (.inr (.inr (.inl (267, 15, 131, 2, none, 10081))))), .inl (.aload_n 0), .inl (.iconst (2)), .inl (.newarray .int), .inr (.inr (.inr (.inr (.inl (270, 15, 132, 2, none, 10082))))), .inl (.aload_n 0), .inl (.iconst (2)), .inl (.newarray .int), .inr (.inr (.inr (.inr (.inl (273, 15, 133, 2, none, 10083))))), .inl (.aload_n 0), .inl (.iconst (2)), .inl (.newarray .int), .inr (.inr (.inr (.inr (.inl (276, 15, 134, 2, none, 10084))))), .inl (.aload_n 0), .inl (.iconst (2)), .inl (.newarray .int), .inr (.inr (.inr (.inr (.inl (279, 15, 135, 2, none, 10085))))), .inl (.aload_n 0), .inl (.iconst (2)), .inl (.newarray .int), .inr (.inr (.inr (.inr (.inl (282, 15, 136, 2, none, 10086))))), .inl (.aload_n 0), .inl (.iconst (2)), .inl (.newarray .long), .inr (.inr (.inr (.inr (.inl (285, 15, 137, 2, none, 10087))))), .inl (.aload_n 0), .inl (.sipush (4200)), .inl (.newarray .int), .inr (.inr (.inr (.inr (.inl (288, 15, 138, 2, none, 10088))))), .inl (.aload_n 0), .inl (.sipush (4200)), .inl (.newarray .long), .inr (.inr (.inr (.inr (.inl (291, 15, 139, 2, none, 10089))))), .inl (.aload_n 0), .inl (.sipush (400)), .inl (.newarray .int), .inr (.inr (.inr (.inr (.inl (294, 15, 140, 2, none, 10090))))), .inl (.aload_n 0), .inr (.inr (.inr (.inr (.inr (.inr (.inr (.inr (.inl 9))))))))]),
    (780, [.inl (.sipush (400)), .inl (.newarray .int), .inr (.inr (.inr (.inr (.inl (297, 15, 141, 2, none, 10091))))), .inl (.aload_n 0), .inl (.sipush (400)), .inl (.newarray .int), .inr (.inr (.inr (.inr (.inl (300, 15, 142, 2, none, 10092))))), .inl (.aload_n 0), .inl (.sipush (400)), .inl (.newarray .int), .inr (.inr (.inr (.inr (.inl (303, 15, 143, 2, none, 10093))))), .inl (.aload_n 0), .inl (.sipush (400)), .inl (.newarray .long), .inr (.inr (.inr (.inr (.inl (306, 15, 144, 2, none, 10094))))), .inl (.aload_n 0), .inl (.sipush (400)), .inl (.newarray .int), .inr (.inr (.inr (.inr (.inl (309, 15, 145, 2, none, 10095))))), .inl (.aload_n 0), .inl (.sipush (400)), .inl (.newarray .int), .inr (.inr (.inr (.inr (.inl (312, 15, 146, 2, none, 10096))))), .inl (.aload_n 0), .inl (.sipush (400)), .inl (.newarray .int), .inr (.inr (.inr (.inr (.inl (315, 15, 147, 2, none, 10097))))), .inl (.aload_n 0), .inl (.sipush (20000)), .inl (.newarray .int), .inr (.inr (.inr (.inr (.inl (318, 15, 148, 2, none, 10098))))), .inl (.aload_n 0), .inl (.sipush (20000)), .inl (.newarray .int), .inr (.inr (.inr (.inr (.inl (321, 15, 149, 2, none, 10099))))), .inl (.aload_n 0), .inl (.sipush (20000)), .inl (.newarray .int), .inr (.inr (.inr (.inr (.inl (324, 15, 150, 2, none, 10100))))), .inl (.aload_n 0), .inr (.inr (.inr (.inr (.inr (.inr (.inr (.inr (.inl 10))))))))]),
    (870, [.inl (.sipush (4000)), .inl (.newarray .int), .inr (.inr (.inr (.inr (.inl (327, 15, 156, 2, none, 10106))))), .inl (.aload_n 0), .inl (.sipush (20000)), .inl (.newarray .int), .inr (.inr (.inr (.inr (.inl (330, 15, 157, 2, none, 10107))))), .inl (.aload_n 0), .inl (.sipush (20000)), .inl (.newarray .int), .inr (.inr (.inr (.inr (.inl (333, 15, 158, 2, none, 10108))))), .inl (.aload_n 0), .inl (.sipush (20000)), .inl (.newarray .int), .inr (.inr (.inr (.inr (.inl (336, 15, 159, 2, none, 10109))))), .inl (.aload_n 0), .inl (.sipush (20000)), .inl (.newarray .int), .inr (.inr (.inr (.inr (.inl (339, 15, 160, 2, none, 10110))))), .inl (.aload_n 0), .inl (.sipush (20000)), .inl (.newarray .int), .inr (.inr (.inr (.inr (.inl (342, 15, 161, 2, none, 10111))))), .inl (.aload_n 0), .inl (.sipush (20000)), .inl (.newarray .int), .inr (.inr (.inr (.inr (.inl (345, 15, 162, 2, none, 10112))))), .inl (.aload_n 0), .inl (.sipush (20000)), .inl (.newarray .int), .inr (.inr (.inr (.inr (.inl (348, 15, 163, 2, none, 10113))))), .inl (.aload_n 0), .inl (.sipush (20000)), .inl (.newarray .int), .inr (.inr (.inr (.inr (.inl (351, 15, 164, 2, none, 10114))))), .inl (.aload_n 0), .inl (.sipush (20000)), .inl (.newarray .long), .inr (.inr (.inr (.inr (.inl (354, 15, 165, 2, none, 10115))))), .inl (.aload_n 0), .inr (.inr (.inr (.inr (.inr (.inr (.inr (.inr (.inl 11))))))))]),
    (960, [.inl (.sipush (400)), .inl (.newarray .boolean), .inr (.inr (.inr (.inr (.inl (357, 15, 178, 2, none, 10127))))), .inl (.aload_n 0), .inl (.bipush (18)), .inl (.newarray .int), .inr (.inr (.inr (.inr (.inl (360, 15, 179, 2, none, 10128))))), .inl (.aload_n 0), .inr (.inr (.inr (.inr (.inr (.inl (363, 13, 0, 15, [9183, 9185, 19, 150, 1])))))), .inr (.inr (.inr (.inr (.inr (.inr (.inr (.inr (.inr (.inl .return_)))))))))])])
def tm_2 : pe_Mt := (⟨"LinkedTongue$Words", "<init>", "(ILjava/lang/String;)V"⟩, prog_11_method_1_code, 3, (Option.none : Option Jvm.ClassFile.FieldType), [], 46, [
    (0, [.inl (.aload_n 0), .inr (.inr (.inr (.inr (.inr (.inr (.inr (.inr (.inr (.inr (.inr (.inr (.inr (.inr (.inl (3, [47, 39, 40]))))))))))))))), .inl (.aload_n 0), .inl (.sipush (1024)), .inl (.newarray .byte), .inr (.inr (.inr (.inr (.inl (9, 9, 0, 2, none, 148))))), .inl (.aload_n 0), .inl (.bipush (64)), .inl (.newarray .int), .inr (.inr (.inr (.inr (.inl (15, 9, 2, 2, none, 156))))), .inl (.aload_n 0), .inl (.bipush (64)), .inl (.newarray .int), .inr (.inr (.inr (.inr (.inl (19, 9, 3, 2, none, 161))))), .inl (.aload_n 0), .inl (.bipush (64)), .inl (.newarray .int), .inr (.inr (.inr (.inr (.inl (22, 9, 4, 2, none, 166))))), .inl (.aload_n 0), .inl (.bipush (64)), .inl (.newarray .int), .inr (.inr (.inr (.inr (.inl (25, 9, 5, 2, none, 167))))), .inl (.aload_n 0), .inl (.bipush (64)), .inl (.newarray .int), .inr (.inr (.inr (.inr (.inl (28, 9, 6, 2, none, 169))))), .inl (.aload_n 0), .inl (.bipush (64)), .inl (.newarray .int), .inr (.inr (.inr (.inr (.inl (31, 9, 9, 2, none, 172))))), .inl (.aload_n 0), .inl (.bipush (64)), .inl (.newarray .int), .inr (.inr (.inr (.inr (.inl (34, 9, 11, 2, none, 178))))), .inl (.aload_n 0), .inl (.iconst (4)), .inl (.newarray .int), .inr (.inr (.inr (.inr (.inl (37, 9, 13, 2, none, 182))))), .inl (.aload_n 0), .inl (.iload_n 1), .inl (.newarray .int), .inr (.inr (.inr (.inr (.inl (40, 9, 8, 2, none, 171))))), .inl (.aload_n 0), .inl (.aload_n 2), .inr (.inr (.inr (.inr (.inr (.inl (43, 14, 1, 9, [48, 50, 2, 0, 1])))))), .inl (.aload_n 0), .inl (.aload_n 0), .inr (.inl (47, 9, 7, none, 170)), .inr (.inr (.inr (.inr (.inl (51, 9, 14, 0, none, 183))))), .inl (.aload_n 0), .inl (.aload_n 0), .inr (.inl (54, 9, 1, none, 154)), .inr (.inr (.inr (.inr (.inl (57, 9, 15, 0, none, 184))))), .inr (.inr (.inr (.inr (.inr (.inr (.inr (.inr (.inr (.inl .return_)))))))))])])
def tm_3 : pe_Mt := (⟨"LinkedTongue$Reader", "<init>", "()V"⟩, prog_8_method_1_code, 1, (Option.none : Option Jvm.ClassFile.FieldType), [], 224, [
    (0, [.inl (.aload_n 0), .inr (.inr (.inr (.inr (.inr (.inr (.inr (.inr (.inr (.inr (.inr (.inr (.inr (.inr (.inl (3, [225, 39, 40]))))))))))))))), .inl (.aload_n 0), .inl (.bipush (64)), .inl (.newarray .byte), .inr (.inr (.inr (.inr (.inl (9, 6, 0, 2, none, 226))))), .inl (.aload_n 0), .inl (.bipush (64)), .inl (.newarray .int), .inr (.inr (.inr (.inr (.inl (15, 6, 1, 2, none, 227))))), .inl (.aload_n 0), .inl (.bipush (64)), .inl (.newarray .int), .inr (.inr (.inr (.inr (.inl (19, 6, 2, 2, none, 230))))), .inl (.aload_n 0), .inl (.bipush (60)), .inl (.newarray .byte), .inr (.inr (.inr (.inr (.inl (22, 6, 9, 2, none, 1001))))), .inr (.inr (.inr (.inr (.inr (.inr (.inr (.inr (.inr (.inl .return_)))))))))])])
def tm_4 : pe_Mt := (⟨"LinkedTongue$Code", "<init>", "()V"⟩, prog_2_method_1_code, 1, (Option.none : Option Jvm.ClassFile.FieldType), [], 1027, [
    (0, [.inl (.aload_n 0), .inr (.inr (.inr (.inr (.inr (.inr (.inr (.inr (.inr (.inr (.inr (.inr (.inr (.inr (.inl (3, [1028, 39, 40]))))))))))))))), .inl (.aload_n 0), .inl (.bipush (9)), .inl (.sipush (400)), .inr (.inr (.inr (.inr (.inr (.inr (.inr (.inr (.inr (.inr (.inr (.inr (.inr (.inr (.inr (.inl (.inr (.inr (.inr (.inr (.inr (.inl (9, [1029, 1030, 219])))))))))))))))))))))), .inr (.inr (.inr (.inr (.inl (11, 0, 0, 2, none, 1031))))), .inl (.aload_n 0), .inl (.bipush (16)), .inl (.newarray .int), .inr (.inr (.inr (.inr (.inl (16, 0, 2, 2, none, 1038))))), .inl (.aload_n 0), .inl (.sipush (256)), .inl (.newarray .int), .inr (.inr (.inr (.inr (.inl (20, 0, 4, 2, none, 1044))))), .inl (.aload_n 0), .inl (.sipush (256)), .inl (.newarray .int), .inr (.inr (.inr (.inr (.inl (23, 0, 5, 2, none, 1048))))), .inl (.aload_n 0), .inl (.sipush (256)), .inl (.newarray .int), .inr (.inr (.inr (.inr (.inl (26, 0, 6, 2, none, 1052))))), .inl (.aload_n 0), .inl (.bipush (12)), .inl (.bipush (64)), .inr (.inr (.inr (.inr (.inr (.inr (.inr (.inr (.inr (.inr (.inr (.inr (.inr (.inr (.inr (.inl (.inr (.inr (.inr (.inr (.inr (.inl (9, [1029, 1030, 219])))))))))))))))))))))), .inr (.inr (.inr (.inr (.inl (29, 0, 8, 2, none, 1060))))), .inl (.aload_n 0), .inl (.bipush (10)), .inl (.bipush (64)), .inr (.inr (.inr (.inr (.inr (.inr (.inr (.inr (.inr (.inr (.inr (.inr (.inr (.inr (.inr (.inl (.inr (.inr (.inr (.inr (.inr (.inl (9, [1029, 1030, 219])))))))))))))))))))))), .inr (.inr (.inr (.inr (.inl (32, 0, 10, 2, none, 1066))))), .inl (.aload_n 0), .inl (.iconst (-1)), .inr (.inr (.inr (.inr (.inl (35, 0, 12, 0, none, 1069))))), .inl (.aload_n 0), .inl (.bipush (64)), .inl (.newarray .int), .inr (.inr (.inr (.inr (.inl (39, 0, 13, 2, none, 1070))))), .inl (.aload_n 0), .inl (.bipush (64)), .inl (.newarray .int), .inr (.inr (.inr (.inr (.inl (42, 0, 14, 2, none, 1071))))), .inl (.aload_n 0), .inl (.sipush (256)), .inl (.newarray .int), .inr (.inr (.inr (.inr (.inl (45, 0, 15, 2, none, 1072))))), .inr (.inr (.inr (.inr (.inr (.inr (.inr (.inr (.inr (.inl .return_)))))))))])])
def tm_5 : pe_Mt := (⟨"LinkedTongue$HostReader", "<init>", "(LLinkedTongue$Reader;)V"⟩, prog_6_method_1_code, 2, (Option.none : Option Jvm.ClassFile.FieldType), [], 1114, [
    (0, [.inl (.aload_n 0), .inr (.inr (.inr (.inr (.inr (.inr (.inr (.inr (.inr (.inr (.inr (.inr (.inr (.inr (.inl (3, [1115, 39, 40]))))))))))))))), .inl (.aload_n 0), .inl (.bipush (60)), .inl (.newarray .int), .inr (.inr (.inr (.inr (.inl (9, 4, 3, 2, none, 1119))))), .inl (.aload_n 0), .inl (.aload_n 1), .inr (.inr (.inr (.inr (.inl (15, 4, 0, 2, none, 1116))))), .inr (.inr (.inr (.inr (.inr (.inr (.inr (.inr (.inr (.inl .return_)))))))))])])
def tm_6 : pe_Mt := (⟨"LinkedTongue$Compiler", "<init>", "(LLinkedTongue$Reader;LLinkedTongue$Words;LLinkedTongue$Code;)V"⟩, prog_3_method_1_code, 4, (Option.none : Option Jvm.ClassFile.FieldType), [], 1136, [
    (0, [.inl (.aload_n 0), .inr (.inr (.inr (.inr (.inr (.inr (.inr (.inr (.inr (.inr (.inr (.inr (.inr (.inr (.inl (3, [1137, 39, 40]))))))))))))))), .inl (.aload_n 0), .inl (.sipush (256)), .inl (.newarray .int), .inr (.inr (.inr (.inr (.inl (9, 1, 3, 2, none, 1142))))), .inl (.aload_n 0), .inl (.sipush (256)), .inl (.newarray .int), .inr (.inr (.inr (.inr (.inl (15, 1, 4, 2, none, 1143))))), .inl (.aload_n 0), .inl (.sipush (256)), .inl (.newarray .int), .inr (.inr (.inr (.inr (.inl (18, 1, 5, 2, none, 1144))))), .inl (.aload_n 0), .inl (.sipush (256)), .inl (.newarray .int), .inr (.inr (.inr (.inr (.inl (21, 1, 6, 2, none, 1145))))), .inl (.aload_n 0), .inl (.iconst (2)), .inl (.bipush (64)), .inr (.inr (.inr (.inr (.inr (.inr (.inr (.inr (.inr (.inr (.inr (.inr (.inr (.inr (.inr (.inl (.inr (.inr (.inr (.inr (.inr (.inl (24, [1138, 1030, 219])))))))))))))))))))))), .inr (.inr (.inr (.inr (.inl (26, 1, 12, 2, none, 1151))))), .inl (.aload_n 0), .inl (.sipush (1024)), .inl (.newarray .int), .inr (.inr (.inr (.inr (.inl (29, 1, 14, 2, none, 1153))))), .inl (.aload_n 0), .inl (.aload_n 1), .inr (.inr (.inr (.inr (.inl (32, 1, 0, 2, none, 1139))))), .inl (.aload_n 0), .inl (.aload_n 2), .inr (.inr (.inr (.inr (.inl (36, 1, 1, 2, none, 1140))))), .inl (.aload_n 0), .inl (.aload_n 3), .inr (.inr (.inr (.inr (.inl (40, 1, 2, 2, none, 1141))))), .inl (.aload_n 0), .inl (.aload_n 3), .inr (.inl (44, 0, 0, none, 1032)), .inr (.inr (.inr (.inr (.inl (49, 1, 9, 2, none, 1148))))), .inr (.inr (.inr (.inr (.inr (.inr (.inr (.inr (.inr (.inl .return_)))))))))])])
def tm_7 : pe_Mt := (⟨"LinkedTongue$Heap", "<init>", "(LLinkedTongue$Words;)V"⟩, prog_4_method_1_code, 2, (Option.none : Option Jvm.ClassFile.FieldType), [], 1198, [
    (0, [.inl (.aload_n 0), .inr (.inr (.inr (.inr (.inr (.inr (.inr (.inr (.inr (.inr (.inr (.inr (.inr (.inr (.inl (3, [1199, 39, 40]))))))))))))))), .inl (.aload_n 0), .inr (.inr (.inr (.inr (.inr (.inr (.inr (.inr (.inr (.inr (.inr (.inr (.inl (9, 3, [1200, 1201, 15]))))))))))))), .inl .dup, .inr (.inr (.inr (.inr (.inr (.inr (.inr (.inl (11, 9, 0, [1202, 1203, 15])))))))), .inr (.inr (.inr (.inr (.inl (12, 2, 1, 2, none, 2094))))), .inl (.aload_n 0), .inl (.bipush (10)), .inl (.bipush (64)), .inr (.inr (.inr (.inr (.inr (.inr (.inr (.inr (.inr (.inr (.inr (.inr (.inr (.inr (.inr (.inl (.inr (.inr (.inr (.inr (.inr (.inl (18, [2080, 1030, 219])))))))))))))))))))))), .inr (.inr (.inr (.inr (.inl (20, 2, 2, 2, none, 2098))))), .inl (.aload_n 0), .inl (.iconst (2)), .inl (.bipush (64)), .inr (.inr (.inr (.inr (.inr (.inr (.inr (.inr (.inr (.inr (.inr (.inr (.inr (.inr (.inr (.inl (.inr (.inr (.inr (.inr (.inr (.inl (18, [2080, 1030, 219])))))))))))))))))))))), .inr (.inr (.inr (.inr (.inl (23, 2, 4, 2, none, 2105))))), .inl (.aload_n 0), .inr (.inr (.inr (.inr (.inr (.inr (.inr (.inr (.inr (.inr (.inr (.inr (.inl (26, 7, [2081, 1211, 16]))))))))))))), .inl .dup, .inl (.sipush (256)), .inr (.inr (.inr (.inr (.inr (.inr (.inr (.inl (28, 15, 1, [2082, 1213, 16])))))))), .inr (.inr (.inr (.inr (.inl (31, 2, 6, 2, none, 2109))))), .inl (.aload_n 0), .inl (.iconst (5)), .inl (.bipush (64)), .inr (.inr (.inr (.inr (.inr (.inr (.inr (.inr (.inr (.inr (.inr (.inr (.inr (.inr (.inr (.inl (.inr (.inr (.inr (.inr (.inr (.inl (18, [2080, 1030, 219])))))))))))))))))))))), .inr (.inr (.inr (.inr (.inl (35, 2, 7, 2, none, 2113))))), .inl (.aload_n 0), .inl (.sipush (1024)), .inl (.newarray .int), .inr (.inr (.inr (.inr (.inl (38, 2, 9, 2, none, 2117))))), .inl (.aload_n 0), .inr (.inr (.inr (.inr (.inr (.inr (.inr (.inr (.inr (.inr (.inr (.inr (.inr (.inr (.inr (.inl (.inr (.inr (.inr (.inr (.inl (42, 1, (some "LinkedTongue"), 2083))))))))))))))))))))), .inl .arraylength, .inl (.newarray .int), .inr (.inr (.inr (.inr (.inl (45, 2, 10, 2, none, 2118))))), .inl (.aload_n 0), .inl (.sipush (256)), .inl (.newarray .byte), .inr (.inr (.inr (.inr (.inl (48, 2, 12, 2, none, 2121))))), .inl (.aload_n 0), .inl (.sipush (256)), .inl (.newarray .int), .inr (.inr (.inr (.inr (.inl (52, 2, 14, 2, none, 2125))))), .inl (.aload_n 0), .inr (.inr (.inr (.inr (.inr (.inr (.inr (.inr (.inr (.inr (.inr (.inr (.inl (26, 7, [2081, 1211, 16]))))))))))))), .inl .dup, .inl (.bipush (64)), .inr (.inr (.inr (.inr (.inr (.inr (.inr (.inl (28, 15, 1, [2082, 1213, 16])))))))), .inr (.inr (.inr (.inr (.inl (55, 2, 16, 2, none, 2130))))), .inl (.aload_n 0), .inl (.bipush (65)), .inl (.newarray .int), .inr (.inr (.inr (.inr (.inl (58, 2, 17, 2, none, 2133))))), .inl (.aload_n 0), .inl (.bipush (64)), .inl (.newarray .byte), .inr (.inr (.inr (.inr (.inl (61, 2, 18, 2, none, 2134))))), .inl (.aload_n 0), .inl (.aload_n 1), .inr (.inr (.inr (.inr (.inl (64, 2, 0, 2, none, 2091))))), .inl (.aload_n 0), .inl (.iconst (-1)), .inl (.iconst (-1)), .inl (.iconst (-1)), .inr (.inr (.inr (.inr (.inr (.inl (68, 16, 3, 2, [2084, 2086, 14, 3, 1])))))), .inl .pop, .inr (.inr (.inr (.inr (.inr (.inr (.inr (.inr (.inr (.inl .return_)))))))))])])
def tm_8 : pe_Mt := (⟨"LinkedTongue$Linker", "<init>", "(LLinkedTongue$Heap;LLinkedTongue$Code;)V"⟩, prog_7_method_1_code, 3, (Option.none : Option Jvm.ClassFile.FieldType), [], 2181, [
    (0, [.inl (.aload_n 0), .inr (.inr (.inr (.inr (.inr (.inr (.inr (.inr (.inr (.inr (.inr (.inr (.inr (.inr (.inl (3, [2182, 39, 40]))))))))))))))), .inl (.aload_n 0), .inl (.bipush (64)), .inl (.newarray .byte), .inr (.inr (.inr (.inr (.inl (9, 5, 15, 2, none, 2206))))), .inl (.aload_n 0), .inl (.iconst (4)), .inl (.newarray .int), .inr (.inr (.inr (.inr (.inl (15, 5, 18, 2, none, 2209))))), .inl (.aload_n 0), .inl (.aload_n 1), .inr (.inr (.inr (.inr (.inl (19, 5, 0, 2, none, 2191))))), .inl (.aload_n 0), .inl (.aload_n 2), .inr (.inr (.inr (.inr (.inl (23, 5, 1, 2, none, 2192))))), .inl (.aload_n 0), .inl (.aload_n 2), .inr (.inl (27, 0, 8, none, 1059)), .inr (.inr (.inr (.inr (.inl (33, 5, 2, 2, none, 2193))))), .inl (.aload_n 0), .inl (.aload_n 2), .inr (.inl (34, 0, 10, none, 1065)), .inr (.inr (.inr (.inr (.inl (37, 5, 3, 2, none, 2194))))), .inl (.aload_n 0), .inl (.aload_n 2), .inr (.inr (.inr (.inr (.inr (.inl (38, 17, 0, 0, [2183, 2184, 11, 2185, 0])))))), .inr (.inr (.inr (.inr (.inl (42, 5, 14, 0, none, 2205))))), .inr (.inr (.inr (.inr (.inr (.inr (.inr (.inr (.inr (.inl .return_)))))))))])])
def tm_9 : pe_Mt := (⟨"LinkedTongue$Host", "<init>", "()V"⟩, prog_5_method_1_code, 1, (Option.none : Option Jvm.ClassFile.FieldType), [], 1204, [
    (0, [.inl (.aload_n 0), .inr (.inr (.inr (.inr (.inr (.inr (.inr (.inr (.inr (.inr (.inr (.inr (.inr (.inr (.inl (3, [1205, 39, 40]))))))))))))))), .inl (.aload_n 0), .inr (.inr (.inr (.inr (.inr (.inr (.inr (.inr (.inr (.inr (.inr (.inr (.inl (9, 9, [1206, 42, 2]))))))))))))), .inl .dup, .inl (.bipush (64)), .inr (.inr (.inr (.inr (.inr (.inr (.inr (.inr (.inr (.inr (.inr (.inr (.inr (.inr (.inr (.inl (.inl (false, 11, 2))))))))))))))))), .inr (.inr (.inr (.inr (.inr (.inr (.inr (.inl (13, 2, 2, [1208, 45, 2])))))))), .inr (.inr (.inr (.inr (.inl (16, 3, 0, 2, none, 2002))))), .inl (.aload_n 0), .inl (.bipush (9)), .inl (.bipush (60)), .inr (.inr (.inr (.inr (.inr (.inr (.inr (.inr (.inr (.inr (.inr (.inr (.inr (.inr (.inr (.inl (.inr (.inr (.inr (.inr (.inr (.inl (22, [1209, 1030, 219])))))))))))))))))))))), .inr (.inr (.inr (.inr (.inl (24, 3, 1, 2, none, 2007))))), .inl (.aload_n 0), .inl (.bipush (17)), .inl (.sipush (400)), .inr (.inr (.inr (.inr (.inr (.inr (.inr (.inr (.inr (.inr (.inr (.inr (.inr (.inr (.inr (.inl (.inr (.inr (.inr (.inr (.inr (.inl (22, [1209, 1030, 219])))))))))))))))))))))), .inr (.inr (.inr (.inr (.inl (27, 3, 3, 2, none, 2015))))), .inl (.aload_n 0), .inl (.sipush (3600)), .inl (.newarray .int), .inr (.inr (.inr (.inr (.inl (30, 3, 5, 2, none, 2022))))), .inl (.aload_n 0), .inl (.bipush (60)), .inl (.newarray .long), .inr (.inr (.inr (.inr (.inl (34, 3, 6, 2, none, 2023))))), .inl (.aload_n 0), .inr (.inr (.inr (.inr (.inr (.inr (.inr (.inr (.inr (.inr (.inr (.inr (.inl (38, 7, [1210, 1211, 16]))))))))))))), .inl .dup, .inl (.bipush (16)), .inr (.inr (.inr (.inr (.inr (.inr (.inr (.inl (40, 15, 1, [1212, 1213, 16])))))))), .inr (.inr (.inr (.inr (.inl (43, 3, 7, 2, none, 2024))))), .inl (.aload_n 0), .inl (.bipush (30)), .inl (.newarray .byte), .inr (.inr (.inr (.inr (.inl (47, 3, 8, 2, none, 2026))))), .inl (.aload_n 0), .inl (.bipush (64)), .inl (.newarray .int), .inr (.inr (.inr (.inr (.inl (51, 3, 9, 2, none, 2027))))), .inl (.aload_n 0), .inl (.bipush (64)), .inl (.newarray .int), .inr (.inr (.inr (.inr (.inl (54, 3, 11, 2, none, 2029))))), .inl (.aload_n 0), .inl (.bipush (64)), .inl (.newarray .long), .inr (.inr (.inr (.inr (.inl (57, 3, 12, 2, none, 2030))))), .inl (.aload_n 0), .inl (.bipush (64)), .inl (.newarray .int), .inr (.inr (.inr (.inr (.inl (60, 3, 13, 2, none, 2031))))), .inl (.aload_n 0), .inl (.bipush (64)), .inl (.newarray .int), .inr (.inr (.inr (.inr (.inl (63, 3, 14, 2, none, 2032))))), .inl (.aload_n 0), .inl (.sipush (128)), .inl (.newarray .int), .inr (.inr (.inr (.inr (.inl (66, 3, 15, 2, none, 2033))))), .inl (.aload_n 0), .inr (.inr (.inr (.inr (.inr (.inr (.inr (.inr (.inr (.inr (.inr (.inr (.inr (.inr (.inr (.inl (.inr (.inr (.inr (.inr (.inl (69, 1, (some "LinkedTongue"), 2000))))))))))))))))))))), .inl (.iconst (5)), .inl .iaload, .inr (.inr (.inr (.inr (.inl (72, 3, 17, 0, none, 2037))))), .inr (.inr (.inr (.inr (.inr (.inr (.inr (.inr (.inr (.inl .return_)))))))))])])
def tm_10 : pe_Mt := (⟨"LinkedTongue$Task", "<init>", "(LLinkedTongue$Heap;LLinkedTongue$Code;LLinkedTongue$Linker;)V"⟩, prog_10_method_1_code, 4, (Option.none : Option Jvm.ClassFile.FieldType), [], 3021, [
    (0, [.inl (.aload_n 0), .inr (.inr (.inr (.inr (.inr (.inr (.inr (.inr (.inr (.inr (.inr (.inr (.inr (.inr (.inl (3, [3022, 39, 40]))))))))))))))), .inl (.aload_n 0), .inr (.inr (.inr (.inr (.inr (.inr (.inr (.inr (.inr (.inr (.inr (.inr (.inl (9, 7, [3023, 1211, 16]))))))))))))), .inl .dup, .inl (.bipush (64)), .inr (.inr (.inr (.inr (.inr (.inr (.inr (.inl (11, 15, 1, [3024, 1213, 16])))))))), .inr (.inr (.inr (.inr (.inl (14, 8, 3, 2, none, 3028))))), .inl (.aload_n 0), .inl (.sipush (200)), .inl (.newarray .int), .inr (.inr (.inr (.inr (.inl (20, 8, 5, 2, none, 3034))))), .inl (.aload_n 0), .inl (.sipush (200)), .inl (.newarray .int), .inr (.inr (.inr (.inr (.inl (24, 8, 6, 2, none, 3036))))), .inl (.aload_n 0), .inl (.sipush (200)), .inl (.newarray .int), .inr (.inr (.inr (.inr (.inl (27, 8, 7, 2, none, 3039))))), .inl (.aload_n 0), .inl (.sipush (200)), .inl (.newarray .byte), .inr (.inr (.inr (.inr (.inl (30, 8, 8, 2, none, 3040))))), .inl (.aload_n 0), .inl (.sipush (200)), .inl (.newarray .long), .inr (.inr (.inr (.inr (.inl (34, 8, 9, 2, none, 3041))))), .inl (.aload_n 0), .inl (.sipush (200)), .inl (.newarray .boolean), .inr (.inr (.inr (.inr (.inl (38, 8, 10, 2, none, 3042))))), .inl (.aload_n 0), .inl (.bipush (48)), .inl (.newarray .int), .inr (.inr (.inr (.inr (.inl (42, 8, 11, 2, none, 3043))))), .inl (.aload_n 0), .inl (.iconst (0)), .inr (.inr (.inr (.inr (.inl (45, 8, 13, 0, none, 3045))))), .inl (.aload_n 0), .inl (.aload_n 1), .inr (.inr (.inr (.inr (.inl (49, 8, 0, 2, none, 3025))))), .inl (.aload_n 0), .inl (.aload_n 2), .inr (.inr (.inr (.inr (.inl (53, 8, 1, 2, none, 3026))))), .inl (.aload_n 0), .inl (.aload_n 3), .inr (.inr (.inr (.inr (.inl (57, 8, 2, 2, none, 3027))))), .inr (.inr (.inr (.inr (.inr (.inr (.inr (.inr (.inr (.inl .return_)))))))))])])
def tm_11 : pe_Mt := (⟨"LinkedTongueModel$Host", "<init>", "()V"⟩, prog_15_method_1_code, 1, (Option.none : Option Jvm.ClassFile.FieldType), [], 9071, [
    (0, [.inl (.aload_n 0), .inr (.inr (.inr (.inr (.inr (.inr (.inr (.inr (.inr (.inr (.inr (.inr (.inr (.inr (.inl (3, [9072, 39, 40]))))))))))))))), .inl (.aload_n 0), .inr (.inr (.inr (.inl (false, 9, (65536), 9073)))), .inl (.newarray .byte), .inr (.inr (.inr (.inr (.inl (10, 12, 0, 2, none, 9074))))), .inl (.aload_n 0), .inl (.bipush (60)), .inl (.newarray .boolean), .inr (.inr (.inr (.inr (.inl (16, 12, 2, 2, none, 9077))))), .inl (.aload_n 0), .inl (.bipush (60)), .inl (.newarray .int), .inr (.inr (.inr (.inr (.inl (20, 12, 3, 2, none, 9079))))), .inl (.aload_n 0), .inl (.bipush (60)), .inl (.newarray .int), .inr (.inr (.inr (.inr (.inl (24, 12, 4, 2, none, 9081))))), .inl (.aload_n 0), .inl (.sipush (3600)), .inl (.newarray .int), .inr (.inr (.inr (.inr (.inl (27, 12, 5, 2, none, 9083))))), .inl (.aload_n 0), .inl (.bipush (60)), .inl (.newarray .long), .inr (.inr (.inr (.inr (.inl (30, 12, 6, 2, none, 9085))))), .inl (.aload_n 0), .inl (.bipush (60)), .inl (.newarray .int), .inr (.inr (.inr (.inr (.inl (34, 12, 7, 2, none, 9087))))), .inl (.aload_n 0), .inl (.bipush (60)), .inl (.newarray .int), .inr (.inr (.inr (.inr (.inl (37, 12, 8, 2, none, 9089))))), .inl (.aload_n 0), .inl (.bipush (60)), .inl (.newarray .int), .inr (.inr (.inr (.inr (.inl (40, 12, 9, 2, none, 9091))))), .inl (.aload_n 0), .inl (.bipush (60)), .inl (.newarray .int), .inr (.inr (.inr (.inr (.inl (43, 12, 10, 2, none, 9093))))), .inl (.aload_n 0), .inl (.sipush (400)), .inl (.newarray .int), .inr (.inr (.inr (.inr (.inl (46, 12, 12, 2, none, 9096))))), .inl (.aload_n 0), .inl (.sipush (400)), .inl (.newarray .int), .inr (.inr (.inr (.inr (.inl (49, 12, 13, 2, none, 9098))))), .inl (.aload_n 0), .inl (.sipush (400)), .inl (.newarray .boolean), .inr (.inr (.inr (.inr (.inl (52, 12, 14, 2, none, 9100))))), .inl (.aload_n 0), .inl (.sipush (400)), .inl (.newarray .int), .inr (.inr (.inr (.inr (.inl (55, 12, 15, 2, none, 9102))))), .inl (.aload_n 0), .inl (.sipush (400)), .inl (.newarray .int), .inr (.inr (.inr (.inr (.inl (58, 12, 16, 2, none, 9104))))), .inl (.aload_n 0), .inl (.sipush (400)), .inl (.newarray .boolean), .inr (.inr (.inr (.inr (.inl (61, 12, 17, 2, none, 9106))))), .inl (.aload_n 0), .inl (.sipush (3200)), .inl (.newarray .int), .inr (.inr (.inr (.inr (.inl (64, 12, 18, 2, none, 9108))))), .inl (.aload_n 0), .inl (.sipush (400)), .inl (.newarray .int), .inr (.inr (.inr (.inr (.inl (67, 12, 19, 2, none, 9110))))), .inl (.aload_n 0), .inl (.sipush (400)), .inl (.newarray .int), .inr (.inr (.inr (.inr (.inl (70, 12, 20, 2, none, 9112))))), .inr (.inr (.inr (.inr (.inr (.inr (.inr (.inr (.inr (.inl .return_)))))))))])])
def tm_12 : pe_Mt := (⟨"LinkedTongueModel$Ints", "<init>", "(I)V"⟩, prog_16_method_1_code, 2, (Option.none : Option Jvm.ClassFile.FieldType), [], 9165, [
    (0, [.inl (.aload_n 0), .inr (.inr (.inr (.inr (.inr (.inr (.inr (.inr (.inr (.inr (.inr (.inr (.inr (.inr (.inl (1, [9166, 39, 40]))))))))))))))), .inl (.aload_n 0), .inl (.bipush (16)), .inl (.newarray .int), .inr (.inr (.inr (.inr (.inl (7, 13, 1, 2, none, 9168))))), .inl (.aload_n 0), .inl (.iload_n 1), .inr (.inr (.inr (.inr (.inl (13, 13, 0, 0, none, 9167))))), .inr (.inr (.inr (.inr (.inr (.inr (.inr (.inr (.inr (.inl .return_)))))))))])])
def tm_13 : pe_Mt := (⟨"LinkedTongueModel", "anew", "()V"⟩, prog_13_method_83_code, 2, (Option.none : Option Jvm.ClassFile.FieldType), [], 9186, [
    (0, [.inl (.aload_n 0), .inl (.iconst (0)), .inr (.inr (.inr (.inr (.inl (607, 15, 16, 0, none, 9206))))), .inl (.aload_n 0), .inl (.iconst (0)), .inr (.inr (.inr (.inr (.inl (613, 15, 19, 0, none, 9209))))), .inl (.aload_n 0), .inl (.iconst (0)), .inr (.inr (.inr (.inr (.inl (616, 15, 20, 0, none, 9210))))), .inl (.aload_n 0), .inl (.iconst (0)), .inr (.inr (.inr (.inr (.inl (610, 15, 33, 0, none, 9223))))), .inl (.aload_n 0), .inl (.iconst (0)), .inr (.inr (.inr (.inr (.inl (655, 15, 34, 0, none, 9224))))), .inl (.aload_n 0), .inl (.iconst (0)), .inr (.inr (.inr (.inr (.inl (842, 15, 43, 0, none, 9233))))), .inl (.aload_n 0), .inl (.iconst (0)), .inr (.inr (.inr (.inr (.inl (845, 15, 47, 0, none, 9237))))), .inl (.aload_n 0), .inl (.iconst (0)), .inr (.inr (.inr (.inr (.inl (862, 15, 48, 0, none, 9238))))), .inl (.aload_n 0), .inl (.iconst (0)), .inr (.inr (.inr (.inr (.inl (870, 15, 68, 0, none, 10018))))), .inl (.aload_n 0), .inl (.iconst (0)), .inr (.inr (.inr (.inr (.inl (873, 15, 69, 0, none, 10019))))), .inl (.aload_n 0), .inl (.iconst (0)), .inr (.inr (.inr (.inr (.inl (876, 15, 81, 0, none, 10031))))), .inl (.aload_n 0), .inl (.iconst (0)), .inr (.inr (.inr (.inr (.inl (879, 15, 82, 0, none, 10032))))), .inl (.aload_n 0), .inl (.iconst (1)), .inr (.inr (.inr (.inr (.inl (882, 15, 87, 0, none, 10037))))), .inl (.aload_n 0), .inr (.inr (.inr (.inr (.inr (.inr (.inr (.inr (.inl 1))))))))]),
    (66, [.inr (.inl (184, 15, 88, none, 10038)), .inl (.iconst (0)), .inl (.iconst (-1)), .inl .iastore, .inl (.aload_n 0), .inr (.inl (187, 15, 89, none, 10039)), .inl (.iconst (0)), .inl (.iconst (-1)), .inl .iastore, .inl (.aload_n 0), .inr (.inl (190, 15, 90, none, 10040)), .inl (.iconst (0)), .inl (.iconst (-1)), .inl .iastore, .inl (.aload_n 0), .inr (.inl (193, 15, 91, none, 10041)), .inl (.iconst (0)), .inl (.iconst (0)), .inl .iastore, .inl (.aload_n 0), .inl (.iconst (0)), .inr (.inr (.inr (.inr (.inl (885, 15, 94, 0, none, 10044))))), .inl (.aload_n 0), .inl (.iconst (0)), .inr (.inr (.inr (.inr (.inl (886, 15, 102, 0, none, 10052))))), .inl (.aload_n 0), .inl (.iconst (0)), .inr (.inr (.inr (.inr (.inl (889, 15, 103, 0, none, 10053))))), .inl (.aload_n 0), .inl (.iconst (0)), .inr (.inr (.inr (.inr (.inl (892, 15, 104, 0, none, 10054))))), .inl (.aload_n 0), .inl (.iconst (0)), .inr (.inr (.inr (.inr (.inl (895, 15, 106, 0, none, 10056))))), .inl (.aload_n 0), .inl (.iconst (0)), .inr (.inr (.inr (.inr (.inl (898, 15, 108, 0, none, 10058))))), .inl (.aload_n 0), .inl (.iconst (0)), .inr (.inr (.inr (.inr (.inl (901, 15, 114, 0, none, 10064))))), .inr (.inr (.inr (.inr (.inr (.inr (.inr (.inr (.inl 2))))))))]),
    (128, [.inl (.aload_n 0), .inl (.iconst (0)), .inr (.inr (.inr (.inr (.inl (904, 15, 115, 0, none, 10065))))), .inl (.iconst (0)), .inl (.istore_n 1), .inr (.inr (.inr (.inr (.inr (.inr (.inr (.inr (.inl 3))))))))]),
    (135, [.inl (.iload_n 1), .inl (.iconst (4)), .inr (.inr (.inl ((.if_icmp .ge (16)), 4))), .inl (.aload_n 0), .inr (.inl (231, 15, 109, none, 10059)), .inl (.iload_n 1), .inl (.iconst (0)), .inl .iastore, .inl (.iinc 1 (1)), .inr (.inr (.inl ((.goto (-15)), 3)))]),
    (153, [.inl (.iconst (0)), .inl (.istore_n 1), .inr (.inr (.inr (.inr (.inr (.inr (.inr (.inr (.inl 5))))))))]),
    (155, [.inr (.inr (.inr (.inr (.inr (.inr (.inr (.inr (.inr (.inr (.inr (.inr (.inr (.inr (.inr (.inl (.inr (.inr (.inr (.inr (.inr (.inr (.inr (.inl (208, [10047])))))))))))))))))))))))), .inr (.inr (.inr (.inr (.inr (.inr (.inr (.inr (.inl 7))))))))]),
    (175, [.inl (.iconst (0)), .inl (.istore_n 1), .inr (.inr (.inr (.inr (.inr (.inr (.inr (.inr (.inl 7))))))))]),
    (177, [.inl (.iload_n 1), .inl (.aload_n 0), .inr (.inl (27, 15, 13, none, 9203)), .inr (.inl (489, 12, 11, (some "LinkedTongueModel"), 9095)), .inr (.inr (.inl ((.if_icmp .ge (34)), 8))), .inl (.aload_n 0), .inr (.inl (217, 15, 100, none, 10050)), .inl (.iload_n 1), .inl (.aload_n 0), .inr (.inl (27, 15, 13, none, 9203)), .inr (.inl (574, 12, 15, (some "LinkedTongueModel"), 9103)), .inl (.iload_n 1), .inl .iaload, .inr (.inr (.inr (.inr (.inr (.inr (.inl (907, 18, 1, [9187, 9188, 19]))))))), .inl .iastore, .inl (.aload_n 0), .inr (.inl (220, 15, 101, none, 10051)), .inl (.iload_n 1), .inl (.lconst 0), .inl .lastore, .inl (.iinc 1 (1)), .inr (.inr (.inl ((.goto (-39)), 7)))]),
    (219, [.inl (.iconst (0)), .inl (.istore_n 1), .inr (.inr (.inr (.inr (.inr (.inr (.inr (.inr (.inl 9))))))))]),
    (221, [.inl (.iload_n 1), .inl (.iconst (2)), .inr (.inr (.inl ((.if_icmp .ge (37)), 10))), .inl (.aload_n 0), .inr (.inl (270, 15, 132, none, 10082)), .inl (.iload_n 1), .inl (.iconst (0)), .inl .iastore, .inl (.aload_n 0), .inr (.inl (273, 15, 133, none, 10083)), .inl (.iload_n 1), .inl (.iconst (0)), .inl .iastore, .inl (.aload_n 0), .inr (.inl (276, 15, 134, none, 10084)), .inl (.iload_n 1), .inl (.iconst (0)), .inl .iastore, .inl (.aload_n 0), .inr (.inl (279, 15, 135, none, 10085)), .inl (.iload_n 1), .inl (.iconst (0)), .inl .iastore, .inl (.iinc 1 (1)), .inr (.inr (.inl ((.goto (-36)), 9)))]),
    (260, [.inr (.inr (.inr (.inr (.inr (.inr (.inr (.inr (.inr (.inl .return_)))))))))])])
def tm_14 : pe_Mt := (⟨"LinkedTongue$Words", "addAll", "(Ljava/lang/String;)V"⟩, prog_11_method_4_code, 6, (Option.none : Option Jvm.ClassFile.FieldType), [], 51, [
    (0, [.inl (.aload_n 1), .inr (.inr (.inr (.inr (.inr (.inr (.inr (.inr (.inr (.inr (.inr (.inr (.inr (.inr (.inr (.inl (.inr (.inr (.inr (.inl (81, [52])))))))))))))))))))), .inl (.istore_n 2), .inl (.iload_n 2), .inl (.newarray .byte), .inl (.astore_n 3), .inl (.iconst (0)), .inl (.istore 4), .inl (.iconst (0)), .inl (.istore 5), .inr (.inr (.inr (.inr (.inr (.inr (.inr (.inr (.inl 1))))))))]),
    (15, [.inl (.iload 5), .inl (.iload_n 2), .inr (.inr (.inl ((.if_icmp .ge (48)), 3))), .inl (.aload_n 3), .inl (.iload 5), .inl (.aload_n 1), .inl (.iload 5), .inr (.inr (.inr (.inr (.inr (.inr (.inr (.inr (.inr (.inr (.inr (.inr (.inr (.inr (.inr (.inl (.inr (.inl (87, [62])))))))))))))))))), .inl .i2b, .inl .bastore, .inl (.aload_n 3), .inl (.iload 5), .inl .baload, .inl (.bipush (32)), .inr (.inr (.inl ((.if_icmp .ne (22)), 2))), .inl (.aload_n 0), .inl (.aload_n 3), .inl (.iload 4), .inl (.iload 5), .inl (.iload 4), .inl .isub, .inr (.inr (.inr (.inr (.inr (.inl (91, 19, 3, 9, [100, 101, 2, 102, 0])))))), .inl .pop, .inl (.iload 5), .inl (.iconst (1)), .inl .iadd, .inl (.istore 4), .inr (.inr (.inr (.inr (.inr (.inr (.inr (.inr (.inl 2))))))))]),
    (60, [.inl (.iinc 5 (1)), .inr (.inr (.inl ((.goto (-48)), 1)))]),
    (66, [.inl (.aload_n 0), .inl (.aload_n 3), .inl (.iload 4), .inl (.iload_n 2), .inl (.iload 4), .inl .isub, .inr (.inr (.inr (.inr (.inr (.inl (91, 19, 3, 9, [100, 101, 2, 102, 0])))))), .inl .pop, .inr (.inr (.inr (.inr (.inr (.inr (.inr (.inr (.inr (.inl .return_)))))))))])])
def tm_15 : pe_Mt := (⟨"LinkedTongue$Row", "<init>", "(I)V"⟩, prog_9_method_1_code, 2, (Option.none : Option Jvm.ClassFile.FieldType), [], 1214, [
    (0, [.inl (.aload_n 0), .inr (.inr (.inr (.inr (.inr (.inr (.inr (.inr (.inr (.inr (.inr (.inr (.inr (.inr (.inl (1, [1215, 39, 40]))))))))))))))), .inl (.aload_n 0), .inl (.iload_n 1), .inl (.newarray .byte), .inr (.inr (.inr (.inr (.inl (7, 7, 0, 2, none, 1216))))), .inl (.aload_n 0), .inl (.iload_n 1), .inl (.newarray .long), .inr (.inr (.inr (.inr (.inl (13, 7, 1, 2, none, 1221))))), .inr (.inr (.inr (.inr (.inr (.inr (.inr (.inr (.inr (.inl .return_)))))))))])])
def tm_16 : pe_Mt := (⟨"LinkedTongue$Heap", "addShape", "(III)I"⟩, prog_4_method_14_code, 6, (Option.some Jvm.ClassFile.FieldType.int), [], 2087, [
    (0, [.inl (.aload_n 0), .inr (.inl (88, 2, 8, none, 2115)), .inl (.istore 4), .inl (.aload_n 0), .inr (.inl (35, 2, 7, none, 2113)), .inl (.iconst (0)), .inl .aaload, .inl (.iload 4), .inl (.iload_n 1), .inl .iastore, .inl (.aload_n 0), .inr (.inl (35, 2, 7, none, 2113)), .inl (.iconst (2)), .inl .aaload, .inl (.iload 4), .inl (.iload_n 3), .inl .iastore, .inl (.aload_n 0), .inr (.inl (35, 2, 7, none, 2113)), .inl (.iconst (3)), .inl .aaload, .inl (.iload 4), .inl (.iload_n 2), .inl .iastore, .inl (.aload_n 0), .inr (.inl (35, 2, 7, none, 2113)), .inl (.iconst (1)), .inl .aaload, .inl (.iload 4), .inl (.iload_n 2), .inl (.iconst (-1)), .inr (.inr (.inl ((.if_icmp .ne (7)), 1))), .inl (.iconst (0)), .inr (.inr (.inl ((.goto (13)), 2)))]),
    (53, [.inl (.aload_n 0), .inr (.inl (35, 2, 7, none, 2113)), .inl (.iconst (1)), .inl .aaload, .inl (.iload_n 2), .inl .iaload, .inl (.iconst (1)), .inl .iadd, .inr (.inr (.inr (.inr (.inr (.inr (.inr (.inr (.inl 2))))))))]),
    (63, [.inl .iastore, .inl (.iload_n 2), .inl (.iconst (-1)), .inr (.inr (.inl ((.if_icmp .eq (37)), 3))), .inl (.iload_n 2), .inl (.iload_n 3), .inr (.inr (.inr (.inr (.inr (.inr (.inl (148, 20, 2, [2088, 2089, 14]))))))), .inl (.istore 5), .inl (.aload_n 0), .inr (.inl (35, 2, 7, none, 2113)), .inl (.iconst (4)), .inl .aaload, .inl (.iload 4), .inl (.aload_n 0), .inr (.inl (38, 2, 9, none, 2117)), .inl (.iload 5), .inl .iaload, .inl .iastore, .inl (.aload_n 0), .inr (.inl (38, 2, 9, none, 2117)), .inl (.iload 5), .inl (.iload 4), .inl (.iconst (1)), .inl .iadd, .inl .iastore, .inr (.inr (.inr (.inr (.inr (.inr (.inr (.inr (.inl 3))))))))]),
    (103, [.inl (.aload_n 0), .inl .dup, .inr (.inl (88, 2, 8, none, 2115)), .inl (.iconst (1)), .inl .iadd, .inr (.inr (.inr (.inr (.inl (88, 2, 8, 0, none, 2115))))), .inl (.iload 4), .inr (.inr (.inr (.inr (.inr (.inr (.inr (.inr (.inr (.inl .ireturn)))))))))])])
def tm_17 : pe_Mt := (⟨"LinkedTongue$Code", "takeEntry", "()I"⟩, prog_2_method_6_code, 2, (Option.some Jvm.ClassFile.FieldType.int), [], 2186, [
    (0, [.inl (.aload_n 0), .inr (.inl (35, 0, 12, none, 1069)), .inl (.istore_n 1), .inl (.iload_n 1), .inl (.iconst (-1)), .inr (.inr (.inl ((.if_icmp .eq (18)), 1))), .inl (.aload_n 0), .inl (.aload_n 0), .inr (.inl (32, 0, 10, none, 1066)), .inl (.bipush (9)), .inl .aaload, .inl (.iload_n 1), .inl .iaload, .inr (.inr (.inr (.inr (.inl (35, 0, 12, 0, none, 1069))))), .inl (.iload_n 1), .inr (.inr (.inr (.inr (.inr (.inr (.inr (.inr (.inr (.inl .ireturn)))))))))]),
    (25, [.inl (.aload_n 0), .inr (.inl (32, 0, 10, none, 1066)), .inl (.aload_n 0), .inr (.inl (60, 0, 11, none, 1068)), .inr (.inr (.inr (.inr (.inr (.inr (.inl (82, 21, 2, [2187, 2188, 1]))))))), .inl (.aload_n 0), .inl .dup, .inr (.inl (60, 0, 11, none, 1068)), .inl (.iconst (1)), .inl .iadd, .inr (.inr (.inr (.inr (.inl (60, 0, 11, 0, none, 1068))))), .inl (.aload_n 0), .inr (.inl (60, 0, 11, none, 1068)), .inl (.iconst (1)), .inl .isub, .inr (.inr (.inr (.inr (.inr (.inr (.inr (.inr (.inr (.inl .ireturn)))))))))])])
def tm_18 : pe_Mt := (⟨"LinkedTongueModel", "firstType", "(I)I"⟩, prog_13_method_84_code, 1, (Option.some Jvm.ClassFile.FieldType.int), [], 9189, [
    (0, [.inl (.iload_n 0), .inl (.iconst (1)), .inr (.inr (.inl ((.if_icmp .eq (8)), 1))), .inl (.iload_n 0), .inl (.iconst (2)), .inr (.inr (.inl ((.if_icmp .ne (7)), 2))), .inr (.inr (.inr (.inr (.inr (.inr (.inr (.inr (.inl 1))))))))]),
    (10, [.inl (.iconst (2)), .inr (.inr (.inl ((.goto (13)), 4)))]),
    (14, [.inl (.iload_n 0), .inl (.iconst (3)), .inr (.inr (.inl ((.if_icmp .ne (7)), 3))), .inl (.iconst (1)), .inr (.inr (.inl ((.goto (4)), 4)))]),
    (23, [.inl (.iconst (0)), .inr (.inr (.inr (.inr (.inr (.inr (.inr (.inr (.inl 4))))))))]),
    (24, [.inr (.inr (.inr (.inr (.inr (.inr (.inr (.inr (.inr (.inl .ireturn)))))))))])])
def tm_19 : pe_Mt := (⟨"LinkedTongue$Words", "wordFor", "([BII)I"⟩, prog_11_method_8_code, 6, (Option.some Jvm.ClassFile.FieldType.int), [], 103, [
    (0, [.inl (.aload_n 0), .inl (.aload_n 1), .inl (.iload_n 2), .inl (.iload_n 3), .inr (.inr (.inr (.inr (.inr (.inl (102, 22, 3, 9, [104, 105, 2, 106, 0])))))), .inl (.istore 4), .inl (.iload 4), .inl (.iconst (-1)), .inr (.inr (.inl ((.if_icmp .eq (6)), 1))), .inl (.iload 4), .inr (.inr (.inr (.inr (.inr (.inr (.inr (.inr (.inr (.inl .ireturn)))))))))]),
    (18, [.inl (.aload_n 0), .inr (.inl (47, 9, 7, none, 170)), .inl (.istore 4), .inl (.iload 4), .inl (.aload_n 0), .inr (.inl (15, 9, 2, none, 156)), .inl .arraylength, .inr (.inr (.inl ((.if_icmp .ne (78)), 3))), .inl (.aload_n 0), .inl (.aload_n 0), .inr (.inl (15, 9, 2, none, 156)), .inl (.iload 4), .inl (.iconst (2)), .inl .imul]),
    (94, [.inl (.aload_n 0), .inl (.aload_n 0), .inr (.inl (28, 9, 6, none, 169)), .inl (.iload 4), .inl (.iconst (2)), .inl .imul]),
    (109, [.inl (.aload_n 0), .inl (.aload_n 1), .inl (.iload_n 2), .inl (.iload_n 3), .inr (.inr (.inr (.inr (.inr (.inl (95, 23, 3, 9, [108, 110, 2, 1, 1])))))), .inl (.istore 5), .inl (.aload_n 0), .inr (.inl (15, 9, 2, none, 156)), .inl (.iload 4), .inl (.aload_n 0), .inl (.aload_n 1), .inl (.iload_n 2), .inl (.iload_n 3), .inr (.inr (.inr (.inr (.inr (.inl (108, 24, 3, 9, [132, 133, 2, 134, 0])))))), .inl .iastore, .inl (.aload_n 0), .inr (.inl (19, 9, 3, none, 161)), .inl (.iload 4), .inl (.iload_n 3), .inl .iastore, .inl (.aload_n 0), .inr (.inl (22, 9, 4, none, 166)), .inl (.iload 4), .inl (.aload_n 0), .inr (.inl (40, 9, 8, none, 171)), .inl (.iload 5), .inl .iaload, .inl .iastore, .inl (.aload_n 0), .inr (.inl (40, 9, 8, none, 171)), .inl (.iload 5), .inl (.iload 4), .inl (.iconst (1)), .inl .iadd, .inl .iastore, .inl (.aload_n 0), .inr (.inl (25, 9, 5, none, 167)), .inl (.iload 4), .inl (.iconst (-1)), .inl .iastore, .inr (.inr (.inr (.inr (.inr (.inr (.inr (.inr (.inl 4))))))))]),
    (173, [.inl (.aload_n 0), .inr (.inl (28, 9, 6, none, 169)), .inl (.iload 4), .inl (.iconst (-1)), .inl .iastore, .inl (.aload_n 0), .inl .dup, .inr (.inl (47, 9, 7, none, 170)), .inl (.iconst (1)), .inl .iadd, .inr (.inr (.inr (.inr (.inl (47, 9, 7, 0, none, 170))))), .inl (.iload 4), .inr (.inr (.inr (.inr (.inr (.inr (.inr (.inr (.inr (.inl .ireturn)))))))))])])
def tm_20 : pe_Mt := (⟨"LinkedTongue$Heap", "shapeHead", "(II)I"⟩, prog_4_method_13_code, 3, (Option.some Jvm.ClassFile.FieldType.int), [], 2090, [
    (0, [.inl (.iload_n 0), .inl (.sipush (1021)), .inl .imul, .inl (.iload_n 1), .inl .iadd, .inl (.istore_n 2), .inl (.iload_n 2), .inl (.iload_n 2), .inl (.bipush (10)), .inl .iushr, .inl .ixor, .inl (.sipush (1023)), .inl .iand, .inr (.inr (.inr (.inr (.inr (.inr (.inr (.inr (.inr (.inl .ireturn)))))))))])])
def tm_21 : pe_Mt := (⟨"LinkedTongue", "makeRoom", "([[II)V"⟩, prog_1_method_32_code, 3, (Option.none : Option Jvm.ClassFile.FieldType), [], 2189, [
    (0, [.inl (.iload_n 1), .inl (.aload_n 0), .inl (.iconst (0)), .inl .aaload, .inl .arraylength, .inr (.inr (.inl ((.if_icmp .lt (29)), 2))), .inl (.iconst (0)), .inl (.istore_n 2), .inr (.inr (.inr (.inr (.inr (.inr (.inr (.inr (.inl 1))))))))]),
    (10, [.inl (.iload_n 2), .inl (.aload_n 0), .inl .arraylength, .inr (.inr (.inl ((.if_icmp .ge (21)), 2))), .inl (.aload_n 0), .inl (.iload_n 2), .inl (.aload_n 0), .inl (.iload_n 2), .inl .aaload, .inl (.iload_n 1), .inl (.iconst (2)), .inl .imul]),
    (34, [.inr (.inr (.inr (.inr (.inr (.inr (.inr (.inr (.inr (.inl .return_)))))))))])])
def tm_22 : pe_Mt := (⟨"LinkedTongue$Words", "wordAt", "([BII)I"⟩, prog_11_method_7_code, 6, (Option.some Jvm.ClassFile.FieldType.int), [], 107, [
    (0, [.inl (.iload_n 3), .inl (.bipush (60)), .inr (.inr (.inl ((.if_icmp .le (5)), 1))), .inl (.iconst (-1)), .inr (.inr (.inr (.inr (.inr (.inr (.inr (.inr (.inr (.inl .ireturn)))))))))]),
    (8, [.inl (.aload_n 0), .inr (.inl (40, 9, 8, none, 171)), .inl (.aload_n 0), .inl (.aload_n 1), .inl (.iload_n 2), .inl (.iload_n 3), .inr (.inr (.inr (.inr (.inr (.inl (95, 23, 3, 9, [108, 110, 2, 1, 1])))))), .inl .iaload, .inl (.iconst (1)), .inl .isub, .inl (.istore 4), .inl (.iconst (0)), .inl (.istore 5), .inr (.inr (.inr (.inr (.inr (.inr (.inr (.inr (.inl 2))))))))]),
    (27, [.inl (.iload 5), .inl (.aload_n 0), .inr (.inl (47, 9, 7, none, 170)), .inr (.inr (.inl ((.if_icmp .ge (40)), 4))), .inl (.iload 4), .inr (.inr (.inl ((.ifCond .lt (35)), 4))), .inl (.aload_n 0), .inl (.iload 4), .inl (.aload_n 1), .inl (.iload_n 2), .inl (.iload_n 3), .inr (.inr (.inr (.inr (.inr (.inl (98, 25, 4, 9, [112, 114, 2, 2, 1])))))), .inr (.inr (.inl ((.ifCond .eq (6)), 3))), .inl (.iload 4), .inr (.inr (.inr (.inr (.inr (.inr (.inr (.inr (.inr (.inl .ireturn)))))))))]),
    (56, [.inl (.aload_n 0), .inr (.inl (22, 9, 4, none, 166)), .inl (.iload 4), .inl .iaload, .inl (.iconst (1)), .inl .isub, .inl (.istore 4), .inl (.iinc 5 (1)), .inr (.inr (.inl ((.goto (-43)), 2)))]),
    (73, [.inl (.iconst (-1)), .inr (.inr (.inr (.inr (.inr (.inr (.inr (.inr (.inr (.inl .ireturn)))))))))])])
def tm_23 : pe_Mt := (⟨"LinkedTongue$Words", "headOf", "([BII)I"⟩, prog_11_method_5_code, 6, (Option.some Jvm.ClassFile.FieldType.int), [], 111, [
    (0, [.inl (.iload_n 3), .inl (.istore 4), .inl (.iconst (0)), .inl (.istore 5), .inr (.inr (.inr (.inr (.inr (.inr (.inr (.inr (.inl 1))))))))]),
    (6, [.inl (.iload 5), .inl (.iload_n 3), .inr (.inr (.inl ((.if_icmp .ge (23)), 2))), .inl (.iload 4), .inl (.bipush (31)), .inl .imul, .inl (.aload_n 1), .inl (.iload_n 2), .inl (.iload 5), .inl .iadd, .inl .baload, .inl .iadd, .inl (.istore 4), .inl (.iinc 5 (1)), .inr (.inr (.inl ((.goto (-23)), 1)))]),
    (32, [.inl (.iload 4), .inl (.iload 4), .inl (.bipush (11)), .inl .iushr, .inl .ixor, .inl (.aload_n 0), .inr (.inl (40, 9, 8, none, 171)), .inl .arraylength, .inl (.iconst (1)), .inl .isub, .inl .iand, .inr (.inr (.inr (.inr (.inr (.inr (.inr (.inr (.inr (.inl .ireturn)))))))))])])
def tm_24 : pe_Mt := (⟨"LinkedTongue$Words", "append", "([BII)I"⟩, prog_11_method_3_code, 4, (Option.some Jvm.ClassFile.FieldType.int), [], 135, [
    (0, [.inl (.aload_n 0), .inr (.inl (54, 9, 1, none, 154)), .inl (.iload_n 3), .inl .iadd, .inl (.aload_n 0), .inr (.inl (9, 9, 0, none, 148)), .inl .arraylength, .inr (.inr (.inl ((.if_icmp .le (30)), 1))), .inl (.aload_n 0), .inl (.aload_n 0), .inr (.inl (9, 9, 0, none, 148)), .inl (.aload_n 0), .inr (.inl (54, 9, 1, none, 154)), .inl (.iload_n 3), .inl .iadd, .inl (.aload_n 0), .inr (.inl (9, 9, 0, none, 148)), .inl .arraylength, .inl (.iconst (2)), .inl .imul]),
    (41, [.inl (.aload_n 1), .inl (.iload_n 2), .inl (.aload_n 0), .inr (.inl (9, 9, 0, none, 148)), .inl (.aload_n 0), .inr (.inl (54, 9, 1, none, 154)), .inl (.iload_n 3), .inr (.inr (.inr (.inr (.inr (.inr (.inr (.inr (.inr (.inr (.inr (.inr (.inr (.inr (.inr (.inl (.inr (.inr (.inl (75, [147, 131, 130, 9]))))))))))))))))))), .inl (.aload_n 0), .inl .dup, .inr (.inl (54, 9, 1, none, 154)), .inl (.iload_n 3), .inl .iadd, .inr (.inr (.inr (.inr (.inl (54, 9, 1, 0, none, 154))))), .inl (.aload_n 0), .inr (.inl (54, 9, 1, none, 154)), .inl (.iload_n 3), .inl .isub, .inr (.inr (.inr (.inr (.inr (.inr (.inr (.inr (.inr (.inl .ireturn)))))))))])])
def tm_25 : pe_Mt := (⟨"LinkedTongue$Words", "isWord", "(I[BII)Z"⟩, prog_11_method_6_code, 6, (Option.some Jvm.ClassFile.FieldType.boolean), [], 115, [
    (0, [.inl (.aload_n 0), .inr (.inl (19, 9, 3, none, 161)), .inl (.iload_n 1), .inl .iaload, .inl (.iload 4), .inr (.inr (.inl ((.if_icmp .eq (5)), 1))), .inl (.iconst (0)), .inr (.inr (.inr (.inr (.inr (.inr (.inr (.inr (.inr (.inl .ireturn)))))))))]),
    (13, [.inl (.iconst (0)), .inl (.istore 5), .inr (.inr (.inr (.inr (.inr (.inr (.inr (.inr (.inl 2))))))))]),
    (16, [.inl (.iload 5), .inl (.iload 4), .inr (.inr (.inl ((.if_icmp .ge (34)), 4))), .inl (.aload_n 0), .inr (.inl (9, 9, 0, none, 148)), .inl (.aload_n 0), .inr (.inl (15, 9, 2, none, 156)), .inl (.iload_n 1), .inl .iaload, .inl (.iload 5), .inl .iadd, .inl .baload, .inl (.aload_n 2), .inl (.iload_n 3), .inl (.iload 5), .inl .iadd, .inl .baload, .inr (.inr (.inl ((.if_icmp .eq (5)), 3))), .inl (.iconst (0)), .inr (.inr (.inr (.inr (.inr (.inr (.inr (.inr (.inr (.inl .ireturn)))))))))]),
    (48, [.inl (.iinc 5 (1)), .inr (.inr (.inl ((.goto (-35)), 2)))]),
    (54, [.inl (.iconst (1)), .inr (.inr (.inr (.inr (.inr (.inr (.inr (.inr (.inr (.inl .ireturn)))))))))])])
def pe_ms : List pe_Mt := [tm_0, tm_1, tm_2, tm_3, tm_4, tm_5, tm_6, tm_7, tm_8, tm_9, tm_10, tm_11, tm_12, tm_13, tm_14, tm_15, tm_16, tm_17, tm_18, tm_19, tm_20, tm_21, tm_22, tm_23, tm_24, tm_25]
def pe_xs : List (Nat × List Int32) := [(0, [118, 97, 114, 32, 102, 117, 110, 32, 105, 102, 32, 101, 108, 115, 101, 32, 119, 104, 105, 108, 101, 32, 114, 101, 116, 117, 114, 110, 32, 116, 104, 114, 111, 119, 32, 116, 114, 121, 32, 99, 97, 116, 99, 104, 32, 110, 101, 119, 32, 116, 104, 105, 115, 32, 110, 117, 108, 108, 32, 116, 114, 117, 101, 32, 102, 97, 108, 115, 101, 32, 112, 114, 105, 110, 116, 32, 109, 97, 107, 101, 32, 112, 114, 111, 116, 111, 32, 116, 117, 114, 110, 32, 100, 114, 111, 112, 32, 104, 97, 115, 32, 107, 105, 110, 100, 32, 104, 111, 115, 116, 32, 115, 105, 122, 101, 32, 112, 117, 115, 104, 32, 112, 111, 112, 32, 115, 117, 98, 32, 98, 111, 111, 108, 32, 105, 110, 116, 32, 108, 111, 110, 103, 32, 116, 101, 120, 116, 32, 111, 98, 106, 101, 99, 116, 32, 108, 105, 115, 116, 32, 99, 108, 97, 115, 115]),
  (1, [8000, 60000, 12000, 200000, 4000, 2000]),
  (0, [118, 111, 105, 100, 32, 105, 110, 116, 32, 108, 111, 110, 103, 32, 98, 111, 111, 108, 32, 73, 110, 116, 32, 76, 111, 110, 103, 32, 66, 111, 111, 108, 32, 84, 101, 120, 116, 32, 65, 110, 121, 32, 99, 108, 97, 115, 115, 32, 105, 110, 116, 101, 114, 102, 97, 99, 101, 32, 115, 116, 97, 116, 105, 99, 32, 110, 101, 119])]
def pe_GC : pe_G := (pe_ms, pe_dv, pe_xs)
def pe_kst : List (String × Nat × Nat) := [("LinkedTongue", 15, 0), ("LinkedTongue$Host", 11, 2), ("LinkedTongue$Compiler", 94, 7), ("LinkedTongue$HostReader", 53, 8), ("LinkedTongue", 211, 9), ("LinkedTongue", 218, 10), ("LinkedTongue", 244, 11), ("LinkedTongue", 247, 12), ("LinkedTongue", 267, 13), ("LinkedTongue", 281, 14), ("LinkedTongue", 297, 15), ("LinkedTongue", 299, 16)]
def pe_stt : List (Nat × String × String × String) := [(1, "LinkedTongue", "LIFE_MOST", "[I")]
def pe_ckN (mt : pe_Mt) (pc ix ic : Nat) (ws : List Nat) : Bool := decide (decode mt.cc pc = .ok (.new ix, 3)) && (decide (decode mt.cc (pc + 3) = .ok (.dup, 1)) && (decide (decode mt.cc (pc + 4) = .ok (.invokespecial ic, 3)) && (match ws with
    | [w1, w2, w3, w4] => pe_w w1 (.classLink mt.y.cls ix "LinkedTongueModel$Halt") && (pe_w w2 (.instantiable "LinkedTongueModel$Halt" 8) && (pe_w w3 (.initialized "LinkedTongueModel$Halt") && pe_lk1 mt.y.cls ic (Bundle.init0 "LinkedTongueModel$Halt") w4))
    | _ => false)))
def pe_ckZ (mt : pe_Mt) (pc ix : Nat) (ws : List Nat) : Bool := decide (decode mt.cc pc = .ok (.iload_n 1, 1)) && (decide (decode mt.cc (pc + 1) = .ok (.sipush 4000, 3)) && (decide (decode mt.cc (pc + 4) = .ok (.if_icmp .ge 16, 3)) && (decide (decode mt.cc (pc + 7) = .ok (.aload_n 0, 1)) && (decide (decode mt.cc (pc + 8) = .ok (.getfield ix, 3)) && (decide (decode mt.cc (pc + 11) = .ok (.iload_n 1, 1)) && (decide (decode mt.cc (pc + 12) = .ok (.iconst 0, 1)) && (decide (decode mt.cc (pc + 13) = .ok (.bastore, 1)) && (decide (decode mt.cc (pc + 14) = .ok (.iinc 1 1, 3)) && (decide (decode mt.cc (pc + 17) = .ok (.goto (-17), 3)) && (decide (decode mt.cc (pc + 20) = .ok (.iconst 0, 1)) && (decide (decode mt.cc (pc + 21) = .ok (.istore_n 1, 1)) && (decide (1 < mt.mx) && (match ws with
    | [w1] => pe_w w1 (.fieldLink mt.y.cls ix (TM 97).1 (TM 97).2.1 (TM 97).2.2.1)
    | _ => false)))))))))))))
def pe_xcl : List (Nat × String) := [(16, "java/lang/IllegalArgumentException"), (17, "java/lang/IllegalStateException"), (18, "java/lang/IndexOutOfBoundsException"), (19, "java/util/NoSuchElementException")]
def pe_ckX (kst : List (String × Nat × Nat)) (mt : pe_Mt) (pc : Nat) (wide : Bool) (ix ic kx j ci : Nat) (ws : List Nat) : Bool := decide (decode mt.cc pc = .ok (.new ix, 3)) && (decide (decode mt.cc (pc + 3) = .ok (.dup, 1)) && ((bif wide then decide (decode mt.cc (pc + 4) = .ok (.ldc_w kx, 3)) && decide (decode mt.cc (pc + 7) = .ok (.invokespecial ic, 3)) else decide (decode mt.cc (pc + 4) = .ok (.ldc kx, 2)) && decide (decode mt.cc (pc + 6) = .ok (.invokespecial ic, 3))) && (decide ((mt.y.cls, kx, j) ∈ kst) && (match pe_xcl.find? (fun q => Nat.beq q.1 ci), ws with
    | some q, [w1, w2, w3, w4] => pe_w w1 (.classLink mt.y.cls ix q.2) && (pe_w w2 (.instantiable q.2 6) && (pe_w w3 (.initialized q.2) && pe_lk1 mt.y.cls ic (Bundle.initS q.2) w4))
    | _, _ => false))))
/-- what is looked at for a special instruction -/
def pe_ckSG (kst : List (String × Nat × Nat)) (stt : List (Nat × String × String × String)) (mt : pe_Mt) (pc : Nat) (i : pe_S) : Bool := match i with
  | .inl (wide, ix, j) => (bif wide then decide (decode mt.cc pc = .ok (.ldc_w ix, 3)) else decide (decode mt.cc pc = .ok (.ldc ix, 2))) && decide ((mt.y.cls, ix, j) ∈ kst)
  | .inr (.inr (.inr (.inr (.inl (ix, j, host, wd))))) => decide (decode mt.cc pc = .ok (.getstatic ix, 3)) && (match stt.find? (fun q => q.1 == j) with
    | some (_, C, n, d) => (match host with
      | none => pe_w wd (.fieldLink mt.y.cls ix C n d)
      | some hn => pe_n wd (.fieldLinkNest mt.y.cls ix C n d hn))
    | none => false)
  | .inr (.inr (.inr (.inr (.inr (.inl (ix, ws)))))) => decide (decode mt.cc pc = .ok (.multianewarray ix 2, 4)) && (match ws with
    | [w1, w2, w3] => pe_w w1 (.classLink mt.y.cls ix "[[I") && (pe_n w2 (.arrayOver (.array .int)) && pe_w w3 (.arrayClass .int))
    | _ => false)
  | .inr (.inr (.inr (.inl (ix, ws)))) => decide (decode mt.cc pc = .ok (.invokevirtual ix, 3)) && (match ws with
    | [w1] => pe_w w1 (.methodLink mt.y.cls ix ⟨"java/lang/String", "length", "()I"⟩)
    | _ => false)
  | .inr (.inl (ix, ws)) => decide (decode mt.cc pc = .ok (.invokevirtual ix, 3)) && (match ws with
    | [w1] => pe_w w1 (.methodLink mt.y.cls ix ⟨"java/lang/String", "charAt", "(I)C"⟩)
    | _ => false)
  | .inr (.inr (.inl (ix, ws))) => decide (decode mt.cc pc = .ok (.invokestatic ix, 3)) && (match ws with
    | [w1, w2, w3, w4] => pe_w w1 (.methodLink mt.y.cls ix arraycopyName) && (pe_w w2 (.native arraycopyName) && (pe_w w3 (.static arraycopyName) && pe_w w4 (.initialized "java/lang/System")))
    | _ => false)
  | .inr (.inr (.inr (.inr (.inr (.inr (.inl (ix, ic, ws))))))) => pe_ckN mt pc ix ic ws
  | .inr (.inr (.inr (.inr (.inr (.inr (.inr (.inl (ix, ws)))))))) => pe_ckZ mt pc ix ws
  | .inr (.inr (.inr (.inr (.inr (.inr (.inr (.inr (.inl (wide, ix, ic, kx, j, ci, ws))))))))) => pe_ckX kst mt pc wide ix ic kx j ci ws
  | .inr (.inr (.inr (.inr (.inr (.inr (.inr (.inr (.inr ((ix, ws)))))))))) => decide (decode mt.cc pc = .ok (.invokevirtual ix, 3)) && (match ws with
    | [w1] => pe_w w1 (.methodLink mt.y.cls ix ⟨"java/lang/String", "indexOf", "(I)I"⟩)
    | _ => false)
abbrev pe_ckS : pe_Mt → Nat → pe_S → Bool := pe_ckSG pe_kst pe_stt

theorem pe_okM_mk {G : pe_G} {cl : List vw_C} {ckS : pe_Mt → Nat → pe_S → Bool} {mt : pe_Mt} (h0 : pe_w mt.wp (pe_wd mt) = true) (h1 : (plainFor mt.y && ((match mt.bl with
    | (0, _) :: _ => true
    | _ => false) && (decide (mt.y.cls ≠ "java/lang/invoke/MethodHandle") && decide (mt.y.cls ≠ "java/lang/invoke/VarHandle")))) = true) (h2 : ∀ b ∈ mt.bl, pe_ckB G cl ckS mt b.1 b.2 = true) : pe_okM G cl ckS mt = true := by
  simp only [Bool.and_eq_true] at h1
  unfold pe_okM
  simp only [Bool.and_eq_true]
  exact ⟨h1.1, h0, h1.2.1, List.all_eq_true.mpr (fun b hb => h2 b hb), h1.2.2.1, h1.2.2.2⟩
def tb_0 (k : Nat) : Nat × List pe_I := (pe_at tm_0.bl k).getD (0, [])
set_option maxRecDepth 40000 in
theorem ok_0_0 : pe_ckB pe_GC pe_cl pe_ckS tm_0 (tb_0 0).1 (tb_0 0).2 = true := by decide +kernel
set_option maxRecDepth 40000 in
theorem ok_0_1 : pe_ckB pe_GC pe_cl pe_ckS tm_0 (tb_0 1).1 (tb_0 1).2 = true := by decide +kernel
set_option maxRecDepth 40000 in
theorem ok_0_2 : pe_ckB pe_GC pe_cl pe_ckS tm_0 (tb_0 2).1 (tb_0 2).2 = true := by decide +kernel
set_option maxRecDepth 40000 in
theorem ok_0_3 : pe_ckB pe_GC pe_cl pe_ckS tm_0 (tb_0 3).1 (tb_0 3).2 = true := by decide +kernel
theorem ok_0 : pe_okM pe_GC pe_cl pe_ckS tm_0 = true := pe_okM_mk (pe_w_of (by rfl) (by rfl)) (by decide +kernel) (by
  intro b hb
  obtain ⟨n, hn⟩ := List.getElem?_of_mem hb
  rw [← pe_at_eq] at hn
  match n, hn with
  | 0, hn =>
    have h2 : tb_0 0 = b := by unfold tb_0; rw [hn]; rfl
    rw [← h2]; exact ok_0_0
  | 1, hn =>
    have h2 : tb_0 1 = b := by unfold tb_0; rw [hn]; rfl
    rw [← h2]; exact ok_0_1
  | 2, hn =>
    have h2 : tb_0 2 = b := by unfold tb_0; rw [hn]; rfl
    rw [← h2]; exact ok_0_2
  | 3, hn =>
    have h2 : tb_0 3 = b := by unfold tb_0; rw [hn]; rfl
    rw [← h2]; exact ok_0_3
  | n + 4, hn =>
    rw [pe_at_eq] at hn
    exact absurd (List.getElem?_eq_some_iff.mp hn).1 (by show ¬ n + 4 < 4; omega))
def tb_1 (k : Nat) : Nat × List pe_I := (pe_at tm_1.bl k).getD (0, [])
set_option maxRecDepth 40000 in
theorem ok_1_0 : pe_ckB pe_GC pe_cl pe_ckS tm_1 (tb_1 0).1 (tb_1 0).2 = true := by decide +kernel
set_option maxRecDepth 40000 in
theorem ok_1_1 : pe_ckB pe_GC pe_cl pe_ckS tm_1 (tb_1 1).1 (tb_1 1).2 = true := by decide +kernel
set_option maxRecDepth 40000 in
theorem ok_1_2 : pe_ckB pe_GC pe_cl pe_ckS tm_1 (tb_1 2).1 (tb_1 2).2 = true := by decide +kernel
set_option maxRecDepth 40000 in
theorem ok_1_3 : pe_ckB pe_GC pe_cl pe_ckS tm_1 (tb_1 3).1 (tb_1 3).2 = true := by decide +kernel
set_option maxRecDepth 40000 in
theorem ok_1_4 : pe_ckB pe_GC pe_cl pe_ckS tm_1 (tb_1 4).1 (tb_1 4).2 = true := by decide +kernel
set_option maxRecDepth 40000 in
theorem ok_1_5 : pe_ckB pe_GC pe_cl pe_ckS tm_1 (tb_1 5).1 (tb_1 5).2 = true := by decide +kernel
set_option maxRecDepth 40000 in
theorem ok_1_6 : pe_ckB pe_GC pe_cl pe_ckS tm_1 (tb_1 6).1 (tb_1 6).2 = true := by decide +kernel
set_option maxRecDepth 40000 in
theorem ok_1_7 : pe_ckB pe_GC pe_cl pe_ckS tm_1 (tb_1 7).1 (tb_1 7).2 = true := by decide +kernel
set_option maxRecDepth 40000 in
theorem ok_1_8 : pe_ckB pe_GC pe_cl pe_ckS tm_1 (tb_1 8).1 (tb_1 8).2 = true := by decide +kernel
set_option maxRecDepth 40000 in
theorem ok_1_9 : pe_ckB pe_GC pe_cl pe_ckS tm_1 (tb_1 9).1 (tb_1 9).2 = true := by decide +kernel
set_option maxRecDepth 40000 in
theorem ok_1_10 : pe_ckB pe_GC pe_cl pe_ckS tm_1 (tb_1 10).1 (tb_1 10).2 = true := by decide +kernel
set_option maxRecDepth 40000 in
theorem ok_1_11 : pe_ckB pe_GC pe_cl pe_ckS tm_1 (tb_1 11).1 (tb_1 11).2 = true := by decide +kernel
theorem ok_1 : pe_okM pe_GC pe_cl pe_ckS tm_1 = true := pe_okM_mk (pe_w_of (by rfl) (by rfl)) (by decide +kernel) (by
  intro b hb
  obtain ⟨n, hn⟩ := List.getElem?_of_mem hb
  rw [← pe_at_eq] at hn
  match n, hn with
  | 0, hn =>
    have h2 : tb_1 0 = b := by unfold tb_1; rw [hn]; rfl
    rw [← h2]; exact ok_1_0
  | 1, hn =>
    have h2 : tb_1 1 = b := by unfold tb_1; rw [hn]; rfl
    rw [← h2]; exact ok_1_1
  | 2, hn =>
    have h2 : tb_1 2 = b := by unfold tb_1; rw [hn]; rfl
    rw [← h2]; exact ok_1_2
  | 3, hn =>
    have h2 : tb_1 3 = b := by unfold tb_1; rw [hn]; rfl
    rw [← h2]; exact ok_1_3
  | 4, hn =>
    have h2 : tb_1 4 = b := by unfold tb_1; rw [hn]; rfl
    rw [← h2]; exact ok_1_4
  | 5, hn =>
    have h2 : tb_1 5 = b := by unfold tb_1; rw [hn]; rfl
    rw [← h2]; exact ok_1_5
  | 6, hn =>
    have h2 : tb_1 6 = b := by unfold tb_1; rw [hn]; rfl
    rw [← h2]; exact ok_1_6
  | 7, hn =>
    have h2 : tb_1 7 = b := by unfold tb_1; rw [hn]; rfl
    rw [← h2]; exact ok_1_7
  | 8, hn =>
    have h2 : tb_1 8 = b := by unfold tb_1; rw [hn]; rfl
    rw [← h2]; exact ok_1_8
  | 9, hn =>
    have h2 : tb_1 9 = b := by unfold tb_1; rw [hn]; rfl
    rw [← h2]; exact ok_1_9
  | 10, hn =>
    have h2 : tb_1 10 = b := by unfold tb_1; rw [hn]; rfl
    rw [← h2]; exact ok_1_10
  | 11, hn =>
    have h2 : tb_1 11 = b := by unfold tb_1; rw [hn]; rfl
    rw [← h2]; exact ok_1_11
  | n + 12, hn =>
    rw [pe_at_eq] at hn
    exact absurd (List.getElem?_eq_some_iff.mp hn).1 (by show ¬ n + 12 < 12; omega))
set_option maxRecDepth 40000 in
theorem ok_2 : pe_okM pe_GC pe_cl pe_ckS tm_2 = true := by decide +kernel
set_option maxRecDepth 40000 in
theorem ok_3 : pe_okM pe_GC pe_cl pe_ckS tm_3 = true := by decide +kernel
set_option maxRecDepth 40000 in
theorem ok_4 : pe_okM pe_GC pe_cl pe_ckS tm_4 = true := by decide +kernel
set_option maxRecDepth 40000 in
theorem ok_5 : pe_okM pe_GC pe_cl pe_ckS tm_5 = true := by decide +kernel
set_option maxRecDepth 40000 in
theorem ok_6 : pe_okM pe_GC pe_cl pe_ckS tm_6 = true := by decide +kernel
set_option maxRecDepth 40000 in
theorem ok_7 : pe_okM pe_GC pe_cl pe_ckS tm_7 = true := by decide +kernel
set_option maxRecDepth 40000 in
theorem ok_8 : pe_okM pe_GC pe_cl pe_ckS tm_8 = true := by decide +kernel
set_option maxRecDepth 40000 in
theorem ok_9 : pe_okM pe_GC pe_cl pe_ckS tm_9 = true := by decide +kernel
set_option maxRecDepth 40000 in
theorem ok_10 : pe_okM pe_GC pe_cl pe_ckS tm_10 = true := by decide +kernel
set_option maxRecDepth 40000 in
theorem ok_11 : pe_okM pe_GC pe_cl pe_ckS tm_11 = true := by decide +kernel
set_option maxRecDepth 40000 in
theorem ok_12 : pe_okM pe_GC pe_cl pe_ckS tm_12 = true := by decide +kernel
def tb_13 (k : Nat) : Nat × List pe_I := (pe_at tm_13.bl k).getD (0, [])
set_option maxRecDepth 40000 in
theorem ok_13_0 : pe_ckB pe_GC pe_cl pe_ckS tm_13 (tb_13 0).1 (tb_13 0).2 = true := by decide +kernel
set_option maxRecDepth 40000 in
theorem ok_13_1 : pe_ckB pe_GC pe_cl pe_ckS tm_13 (tb_13 1).1 (tb_13 1).2 = true := by decide +kernel
set_option maxRecDepth 40000 in
theorem ok_13_2 : pe_ckB pe_GC pe_cl pe_ckS tm_13 (tb_13 2).1 (tb_13 2).2 = true := by decide +kernel
set_option maxRecDepth 40000 in
theorem ok_13_3 : pe_ckB pe_GC pe_cl pe_ckS tm_13 (tb_13 3).1 (tb_13 3).2 = true := by decide +kernel
set_option maxRecDepth 40000 in
theorem ok_13_4 : pe_ckB pe_GC pe_cl pe_ckS tm_13 (tb_13 4).1 (tb_13 4).2 = true := by decide +kernel
set_option maxRecDepth 40000 in
theorem ok_13_5 : pe_ckB pe_GC pe_cl pe_ckS tm_13 (tb_13 5).1 (tb_13 5).2 = true := by decide +kernel
set_option maxRecDepth 40000 in
theorem ok_13_6 : pe_ckB pe_GC pe_cl pe_ckS tm_13 (tb_13 6).1 (tb_13 6).2 = true := by decide +kernel
set_option maxRecDepth 40000 in
theorem ok_13_7 : pe_ckB pe_GC pe_cl pe_ckS tm_13 (tb_13 7).1 (tb_13 7).2 = true := by decide +kernel
set_option maxRecDepth 40000 in
theorem ok_13_8 : pe_ckB pe_GC pe_cl pe_ckS tm_13 (tb_13 8).1 (tb_13 8).2 = true := by decide +kernel
set_option maxRecDepth 40000 in
theorem ok_13_9 : pe_ckB pe_GC pe_cl pe_ckS tm_13 (tb_13 9).1 (tb_13 9).2 = true := by decide +kernel
set_option maxRecDepth 40000 in
theorem ok_13_10 : pe_ckB pe_GC pe_cl pe_ckS tm_13 (tb_13 10).1 (tb_13 10).2 = true := by decide +kernel
theorem ok_13 : pe_okM pe_GC pe_cl pe_ckS tm_13 = true := pe_okM_mk (pe_w_of (by rfl) (by rfl)) (by decide +kernel) (by
  intro b hb
  obtain ⟨n, hn⟩ := List.getElem?_of_mem hb
  rw [← pe_at_eq] at hn
  match n, hn with
  | 0, hn =>
    have h2 : tb_13 0 = b := by unfold tb_13; rw [hn]; rfl
    rw [← h2]; exact ok_13_0
  | 1, hn =>
    have h2 : tb_13 1 = b := by unfold tb_13; rw [hn]; rfl
    rw [← h2]; exact ok_13_1
  | 2, hn =>
    have h2 : tb_13 2 = b := by unfold tb_13; rw [hn]; rfl
    rw [← h2]; exact ok_13_2
  | 3, hn =>
    have h2 : tb_13 3 = b := by unfold tb_13; rw [hn]; rfl
    rw [← h2]; exact ok_13_3
  | 4, hn =>
    have h2 : tb_13 4 = b := by unfold tb_13; rw [hn]; rfl
    rw [← h2]; exact ok_13_4
  | 5, hn =>
    have h2 : tb_13 5 = b := by unfold tb_13; rw [hn]; rfl
    rw [← h2]; exact ok_13_5
  | 6, hn =>
    have h2 : tb_13 6 = b := by unfold tb_13; rw [hn]; rfl
    rw [← h2]; exact ok_13_6
  | 7, hn =>
    have h2 : tb_13 7 = b := by unfold tb_13; rw [hn]; rfl
    rw [← h2]; exact ok_13_7
  | 8, hn =>
    have h2 : tb_13 8 = b := by unfold tb_13; rw [hn]; rfl
    rw [← h2]; exact ok_13_8
  | 9, hn =>
    have h2 : tb_13 9 = b := by unfold tb_13; rw [hn]; rfl
    rw [← h2]; exact ok_13_9
  | 10, hn =>
    have h2 : tb_13 10 = b := by unfold tb_13; rw [hn]; rfl
    rw [← h2]; exact ok_13_10
  | n + 11, hn =>
    rw [pe_at_eq] at hn
    exact absurd (List.getElem?_eq_some_iff.mp hn).1 (by show ¬ n + 11 < 11; omega))
set_option maxRecDepth 40000 in
theorem ok_14 : pe_okM pe_GC pe_cl pe_ckS tm_14 = true := by decide +kernel
set_option maxRecDepth 40000 in
theorem ok_15 : pe_okM pe_GC pe_cl pe_ckS tm_15 = true := by decide +kernel
set_option maxRecDepth 40000 in
theorem ok_16 : pe_okM pe_GC pe_cl pe_ckS tm_16 = true := by decide +kernel
set_option maxRecDepth 40000 in
theorem ok_17 : pe_okM pe_GC pe_cl pe_ckS tm_17 = true := by decide +kernel
set_option maxRecDepth 40000 in
theorem ok_18 : pe_okM pe_GC pe_cl pe_ckS tm_18 = true := by decide +kernel
def tb_19 (k : Nat) : Nat × List pe_I := (pe_at tm_19.bl k).getD (0, [])
set_option maxRecDepth 40000 in
theorem ok_19_0 : pe_ckB pe_GC pe_cl pe_ckS tm_19 (tb_19 0).1 (tb_19 0).2 = true := by decide +kernel
set_option maxRecDepth 40000 in
theorem ok_19_1 : pe_ckB pe_GC pe_cl pe_ckS tm_19 (tb_19 1).1 (tb_19 1).2 = true := by decide +kernel
set_option maxRecDepth 40000 in
theorem ok_19_2 : pe_ckB pe_GC pe_cl pe_ckS tm_19 (tb_19 2).1 (tb_19 2).2 = true := by decide +kernel
set_option maxRecDepth 40000 in
theorem ok_19_3 : pe_ckB pe_GC pe_cl pe_ckS tm_19 (tb_19 3).1 (tb_19 3).2 = true := by decide +kernel
set_option maxRecDepth 40000 in
theorem ok_19_4 : pe_ckB pe_GC pe_cl pe_ckS tm_19 (tb_19 4).1 (tb_19 4).2 = true := by decide +kernel
theorem ok_19 : pe_okM pe_GC pe_cl pe_ckS tm_19 = true := pe_okM_mk (pe_w_of (by rfl) (by rfl)) (by decide +kernel) (by
  intro b hb
  obtain ⟨n, hn⟩ := List.getElem?_of_mem hb
  rw [← pe_at_eq] at hn
  match n, hn with
  | 0, hn =>
    have h2 : tb_19 0 = b := by unfold tb_19; rw [hn]; rfl
    rw [← h2]; exact ok_19_0
  | 1, hn =>
    have h2 : tb_19 1 = b := by unfold tb_19; rw [hn]; rfl
    rw [← h2]; exact ok_19_1
  | 2, hn =>
    have h2 : tb_19 2 = b := by unfold tb_19; rw [hn]; rfl
    rw [← h2]; exact ok_19_2
  | 3, hn =>
    have h2 : tb_19 3 = b := by unfold tb_19; rw [hn]; rfl
    rw [← h2]; exact ok_19_3
  | 4, hn =>
    have h2 : tb_19 4 = b := by unfold tb_19; rw [hn]; rfl
    rw [← h2]; exact ok_19_4
  | n + 5, hn =>
    rw [pe_at_eq] at hn
    exact absurd (List.getElem?_eq_some_iff.mp hn).1 (by show ¬ n + 5 < 5; omega))
set_option maxRecDepth 40000 in
theorem ok_20 : pe_okM pe_GC pe_cl pe_ckS tm_20 = true := by decide +kernel
set_option maxRecDepth 40000 in
theorem ok_21 : pe_okM pe_GC pe_cl pe_ckS tm_21 = true := by decide +kernel
set_option maxRecDepth 40000 in
theorem ok_22 : pe_okM pe_GC pe_cl pe_ckS tm_22 = true := by decide +kernel
set_option maxRecDepth 40000 in
theorem ok_23 : pe_okM pe_GC pe_cl pe_ckS tm_23 = true := by decide +kernel
set_option maxRecDepth 40000 in
theorem ok_24 : pe_okM pe_GC pe_cl pe_ckS tm_24 = true := by decide +kernel
set_option maxRecDepth 40000 in
theorem ok_25 : pe_okM pe_GC pe_cl pe_ckS tm_25 = true := by decide +kernel
theorem pe_ms_ok : ∀ mi mt, pe_at pe_GC.ms mi = some mt → pe_okM pe_GC pe_cl pe_ckS mt = true := by
  intro mi mt h
  match mi, h with
  | 0, h =>
    have h2 : some tm_0 = some mt := h
    cases h2
    exact ok_0
  | 1, h =>
    have h2 : some tm_1 = some mt := h
    cases h2
    exact ok_1
  | 2, h =>
    have h2 : some tm_2 = some mt := h
    cases h2
    exact ok_2
  | 3, h =>
    have h2 : some tm_3 = some mt := h
    cases h2
    exact ok_3
  | 4, h =>
    have h2 : some tm_4 = some mt := h
    cases h2
    exact ok_4
  | 5, h =>
    have h2 : some tm_5 = some mt := h
    cases h2
    exact ok_5
  | 6, h =>
    have h2 : some tm_6 = some mt := h
    cases h2
    exact ok_6
  | 7, h =>
    have h2 : some tm_7 = some mt := h
    cases h2
    exact ok_7
  | 8, h =>
    have h2 : some tm_8 = some mt := h
    cases h2
    exact ok_8
  | 9, h =>
    have h2 : some tm_9 = some mt := h
    cases h2
    exact ok_9
  | 10, h =>
    have h2 : some tm_10 = some mt := h
    cases h2
    exact ok_10
  | 11, h =>
    have h2 : some tm_11 = some mt := h
    cases h2
    exact ok_11
  | 12, h =>
    have h2 : some tm_12 = some mt := h
    cases h2
    exact ok_12
  | 13, h =>
    have h2 : some tm_13 = some mt := h
    cases h2
    exact ok_13
  | 14, h =>
    have h2 : some tm_14 = some mt := h
    cases h2
    exact ok_14
  | 15, h =>
    have h2 : some tm_15 = some mt := h
    cases h2
    exact ok_15
  | 16, h =>
    have h2 : some tm_16 = some mt := h
    cases h2
    exact ok_16
  | 17, h =>
    have h2 : some tm_17 = some mt := h
    cases h2
    exact ok_17
  | 18, h =>
    have h2 : some tm_18 = some mt := h
    cases h2
    exact ok_18
  | 19, h =>
    have h2 : some tm_19 = some mt := h
    cases h2
    exact ok_19
  | 20, h =>
    have h2 : some tm_20 = some mt := h
    cases h2
    exact ok_20
  | 21, h =>
    have h2 : some tm_21 = some mt := h
    cases h2
    exact ok_21
  | 22, h =>
    have h2 : some tm_22 = some mt := h
    cases h2
    exact ok_22
  | 23, h =>
    have h2 : some tm_23 = some mt := h
    cases h2
    exact ok_23
  | 24, h =>
    have h2 : some tm_24 = some mt := h
    cases h2
    exact ok_24
  | 25, h =>
    have h2 : some tm_25 = some mt := h
    cases h2
    exact ok_25
  | n + 26, h =>
    rw [pe_at_eq] at h
    exact absurd (List.getElem?_eq_some_iff.mp h).1 (by show ¬ n + 26 < 26; omega)
