/-! PART 26: the methods that the constructor of the class reaches. -/
def tm_0 : pe_Mt := { y := ⟨"LinkedTongue", "<init>", "()V"⟩, cc := prog_1_method_1_code, mx := 2, ret := (Option.none : Option Jvm.ClassFile.FieldType), hh := [], wp := 37, bl := [
    (0, [.o (.aload_n 0), .obj 1 [38, 39, 40], .o (.aload_n 0), .o (.sipush (256)), .o (.newarray .byte), .pf 7 10 0 2 none 809, .o (.aload_n 0), .nw 13 9 [41, 42, 2], .o .dup, .o (.sipush (1024)), .sp (.ks false 15 0), .ci 17 1 2 [44, 45, 2], .pf 20 10 2 2 none 811, .o (.aload_n 0), .nw 24 6 [220, 221, 10], .o .dup, .ci 26 2 0 [222, 223, 10], .pf 27 10 3 2 none 812, .o (.aload_n 0), .nw 31 0 [263, 264, 11], .o .dup, .ci 33 3 0 [265, 266, 11], .pf 34 10 4 2 none 813, .o (.aload_n 0), .nw 38 4 [350, 351, 12], .o .dup, .o (.aload_n 0), .gf 27 10 3 none 812, .ci 40 4 1 [352, 353, 12], .pf 43 10 5 2 none 814, .o (.aload_n 0), .nw 47 1 [372, 373, 13], .o .dup, .o (.aload_n 0), .gf 27 10 3 none 812, .o (.aload_n 0), .gf 20 10 2 none 811, .o (.aload_n 0), .gf 34 10 4 none 813, .ci 49 5 3 [374, 375, 13], .pf 52 10 6 2 none 815, .o (.aload_n 0), .nw 56 2 [434, 435, 14], .o .dup, .o (.aload_n 0), .gf 20 10 2 none 811, .ci 58 6 1 [436, 437, 14], .pf 61 10 7 2 none 816, .o (.aload_n 0), .nw 65 5 [657, 658, 17], .o .dup, .o (.aload_n 0), .gf 61 10 7 none 816, .o (.aload_n 0), .gf 34 10 4 none 813, .ci 67 7 2 [659, 660, 17], .pf 70 10 8 2 none 817, .o (.aload_n 0), .o (.iconst (2)), .nq 74 14 [734, 735], .pf 76 10 9 2 none 818, .o (.aload_n 0), .nw 80 3 [736, 441, 15], .o .dup, .ci 82 8 0 [737, 443, 15], .pf 83 10 10 2 none 819, .o (.iconst (0)), .o (.istore_n 1), .fall 1]),
    (144, [.o (.iload_n 1), .o (.iconst (2)), .br (.if_icmp .ge (34)) 2, .o (.aload_n 0), .gf 76 10 9 none 818, .o (.iload_n 1), .nw 74 8 [734, 738, 18], .o .dup, .o (.aload_n 0), .gf 61 10 7 none 816, .o (.aload_n 0), .gf 34 10 4 none 813, .o (.aload_n 0), .gf 70 10 8 none 817, .ci 87 9 3 [739, 740, 18], .o .aastore, .o (.iinc 1 (1)), .br (.goto (-33)) 1]),
    (180, [.rt .return_])] }
def tm_1 : pe_Mt := { y := ⟨"LinkedTongue$Words", "<init>", "(ILjava/lang/String;)V"⟩, cc := prog_11_method_1_code, mx := 3, ret := (Option.none : Option Jvm.ClassFile.FieldType), hh := [], wp := 46, bl := [
    (0, [.o (.aload_n 0), .obj 3 [47, 39, 40], .o (.aload_n 0), .o (.sipush (1024)), .o (.newarray .byte), .pf 9 9 0 2 none 148, .o (.aload_n 0), .o (.bipush (64)), .o (.newarray .int), .pf 15 9 2 2 none 156, .o (.aload_n 0), .o (.bipush (64)), .o (.newarray .int), .pf 19 9 3 2 none 161, .o (.aload_n 0), .o (.bipush (64)), .o (.newarray .int), .pf 22 9 4 2 none 166, .o (.aload_n 0), .o (.bipush (64)), .o (.newarray .int), .pf 25 9 5 2 none 167, .o (.aload_n 0), .o (.bipush (64)), .o (.newarray .int), .pf 28 9 6 2 none 169, .o (.aload_n 0), .o (.bipush (64)), .o (.newarray .int), .pf 31 9 9 2 none 172, .o (.aload_n 0), .o (.bipush (64)), .o (.newarray .int), .pf 34 9 11 2 none 178, .o (.aload_n 0), .o (.iconst (4)), .o (.newarray .int), .pf 37 9 13 2 none 182, .o (.aload_n 0), .o (.iload_n 1), .o (.newarray .int), .pf 40 9 8 2 none 171, .o (.aload_n 0), .o (.aload_n 2), .cv 43 10 1 9 [48, 50, 2, 0, 1], .o (.aload_n 0), .o (.aload_n 0), .gf 47 9 7 none 170, .pf 51 9 14 0 none 183, .o (.aload_n 0), .o (.aload_n 0), .gf 54 9 1 none 154, .pf 57 9 15 0 none 184, .rt .return_])] }
def tm_2 : pe_Mt := { y := ⟨"LinkedTongue$Reader", "<init>", "()V"⟩, cc := prog_8_method_1_code, mx := 1, ret := (Option.none : Option Jvm.ClassFile.FieldType), hh := [], wp := 224, bl := [
    (0, [.o (.aload_n 0), .obj 3 [225, 39, 40], .o (.aload_n 0), .o (.bipush (64)), .o (.newarray .byte), .pf 9 6 0 2 none 226, .o (.aload_n 0), .o (.bipush (64)), .o (.newarray .int), .pf 15 6 1 2 none 227, .o (.aload_n 0), .o (.bipush (64)), .o (.newarray .int), .pf 19 6 2 2 none 230, .o (.aload_n 0), .o (.bipush (60)), .o (.newarray .byte), .pf 22 6 9 2 none 241, .rt .return_])] }
def tm_3 : pe_Mt := { y := ⟨"LinkedTongue$Code", "<init>", "()V"⟩, cc := prog_2_method_1_code, mx := 1, ret := (Option.none : Option Jvm.ClassFile.FieldType), hh := [], wp := 267, bl := [
    (0, [.o (.aload_n 0), .obj 3 [268, 39, 40], .o (.aload_n 0), .o (.bipush (9)), .o (.sipush (400)), .sp (.mu 9 [269, 270, 219]), .pf 11 0 0 2 none 271, .o (.aload_n 0), .o (.bipush (16)), .o (.newarray .int), .pf 16 0 2 2 none 278, .o (.aload_n 0), .o (.sipush (256)), .o (.newarray .int), .pf 20 0 4 2 none 284, .o (.aload_n 0), .o (.sipush (256)), .o (.newarray .int), .pf 23 0 5 2 none 288, .o (.aload_n 0), .o (.sipush (256)), .o (.newarray .int), .pf 26 0 6 2 none 292, .o (.aload_n 0), .o (.bipush (12)), .o (.bipush (64)), .sp (.mu 9 [269, 270, 219]), .pf 29 0 8 2 none 300, .o (.aload_n 0), .o (.bipush (10)), .o (.bipush (64)), .sp (.mu 9 [269, 270, 219]), .pf 32 0 10 2 none 306, .o (.aload_n 0), .o (.iconst (-1)), .pf 35 0 12 0 none 309, .o (.aload_n 0), .o (.bipush (64)), .o (.newarray .int), .pf 39 0 13 2 none 310, .o (.aload_n 0), .o (.bipush (64)), .o (.newarray .int), .pf 42 0 14 2 none 311, .o (.aload_n 0), .o (.sipush (256)), .o (.newarray .int), .pf 45 0 15 2 none 312, .rt .return_])] }
def tm_4 : pe_Mt := { y := ⟨"LinkedTongue$HostReader", "<init>", "(LLinkedTongue$Reader;)V"⟩, cc := prog_6_method_1_code, mx := 2, ret := (Option.none : Option Jvm.ClassFile.FieldType), hh := [], wp := 354, bl := [
    (0, [.o (.aload_n 0), .obj 3 [355, 39, 40], .o (.aload_n 0), .o (.bipush (60)), .o (.newarray .int), .pf 9 4 3 2 none 359, .o (.aload_n 0), .o (.aload_n 1), .pf 15 4 0 2 none 356, .rt .return_])] }
def tm_5 : pe_Mt := { y := ⟨"LinkedTongue$Compiler", "<init>", "(LLinkedTongue$Reader;LLinkedTongue$Words;LLinkedTongue$Code;)V"⟩, cc := prog_3_method_1_code, mx := 4, ret := (Option.none : Option Jvm.ClassFile.FieldType), hh := [], wp := 376, bl := [
    (0, [.o (.aload_n 0), .obj 3 [377, 39, 40], .o (.aload_n 0), .o (.sipush (256)), .o (.newarray .int), .pf 9 1 3 2 none 382, .o (.aload_n 0), .o (.sipush (256)), .o (.newarray .int), .pf 15 1 4 2 none 383, .o (.aload_n 0), .o (.sipush (256)), .o (.newarray .int), .pf 18 1 5 2 none 384, .o (.aload_n 0), .o (.sipush (256)), .o (.newarray .int), .pf 21 1 6 2 none 385, .o (.aload_n 0), .o (.iconst (2)), .o (.bipush (64)), .sp (.mu 24 [378, 270, 219]), .pf 26 1 12 2 none 391, .o (.aload_n 0), .o (.sipush (1024)), .o (.newarray .int), .pf 29 1 14 2 none 393, .o (.aload_n 0), .o (.aload_n 1), .pf 32 1 0 2 none 379, .o (.aload_n 0), .o (.aload_n 2), .pf 36 1 1 2 none 380, .o (.aload_n 0), .o (.aload_n 3), .pf 40 1 2 2 none 381, .o (.aload_n 0), .o (.aload_n 3), .gf 44 0 0 none 272, .pf 49 1 9 2 none 388, .rt .return_])] }
def tm_6 : pe_Mt := { y := ⟨"LinkedTongue$Heap", "<init>", "(LLinkedTongue$Words;)V"⟩, cc := prog_4_method_1_code, mx := 2, ret := (Option.none : Option Jvm.ClassFile.FieldType), hh := [], wp := 438, bl := [
    (0, [.o (.aload_n 0), .obj 3 [439, 39, 40], .o (.aload_n 0), .nw 9 3 [440, 441, 15], .o .dup, .ci 11 8 0 [442, 443, 15], .pf 12 2 1 2 none 574, .o (.aload_n 0), .o (.bipush (10)), .o (.bipush (64)), .sp (.mu 18 [560, 270, 219]), .pf 20 2 2 2 none 578, .o (.aload_n 0), .o (.iconst (2)), .o (.bipush (64)), .sp (.mu 18 [560, 270, 219]), .pf 23 2 4 2 none 585, .o (.aload_n 0), .nw 26 7 [561, 451, 16], .o .dup, .o (.sipush (256)), .ci 28 11 1 [562, 453, 16], .pf 31 2 6 2 none 589, .o (.aload_n 0), .o (.iconst (5)), .o (.bipush (64)), .sp (.mu 18 [560, 270, 219]), .pf 35 2 7 2 none 593, .o (.aload_n 0), .o (.sipush (1024)), .o (.newarray .int), .pf 38 2 9 2 none 597, .o (.aload_n 0), .sp (.gs 42 1 (some "LinkedTongue") 563), .o .arraylength, .o (.newarray .int), .pf 45 2 10 2 none 598, .o (.aload_n 0), .o (.sipush (256)), .o (.newarray .byte), .pf 48 2 12 2 none 601, .o (.aload_n 0), .o (.sipush (256)), .o (.newarray .int), .pf 52 2 14 2 none 605, .o (.aload_n 0), .nw 26 7 [561, 451, 16], .o .dup, .o (.bipush (64)), .ci 28 11 1 [562, 453, 16], .pf 55 2 16 2 none 610, .o (.aload_n 0), .o (.bipush (65)), .o (.newarray .int), .pf 58 2 17 2 none 613, .o (.aload_n 0), .o (.bipush (64)), .o (.newarray .byte), .pf 61 2 18 2 none 614, .o (.aload_n 0), .o (.aload_n 1), .pf 64 2 0 2 none 571, .o (.aload_n 0), .o (.iconst (-1)), .o (.iconst (-1)), .o (.iconst (-1)), .cv 68 12 3 2 [564, 566, 14, 3, 1], .o .pop, .rt .return_])] }
def tm_7 : pe_Mt := { y := ⟨"LinkedTongue$Linker", "<init>", "(LLinkedTongue$Heap;LLinkedTongue$Code;)V"⟩, cc := prog_7_method_1_code, mx := 3, ret := (Option.none : Option Jvm.ClassFile.FieldType), hh := [], wp := 661, bl := [
    (0, [.o (.aload_n 0), .obj 3 [662, 39, 40], .o (.aload_n 0), .o (.bipush (64)), .o (.newarray .byte), .pf 9 5 15 2 none 686, .o (.aload_n 0), .o (.iconst (4)), .o (.newarray .int), .pf 15 5 18 2 none 689, .o (.aload_n 0), .o (.aload_n 1), .pf 19 5 0 2 none 671, .o (.aload_n 0), .o (.aload_n 2), .pf 23 5 1 2 none 672, .o (.aload_n 0), .o (.aload_n 2), .gf 27 0 8 none 299, .pf 33 5 2 2 none 673, .o (.aload_n 0), .o (.aload_n 2), .gf 34 0 10 none 305, .pf 37 5 3 2 none 674, .o (.aload_n 0), .o (.aload_n 2), .cv 38 13 0 0 [663, 664, 11, 665, 0], .pf 42 5 14 0 none 685, .rt .return_])] }
def tm_8 : pe_Mt := { y := ⟨"LinkedTongue$Host", "<init>", "()V"⟩, cc := prog_5_method_1_code, mx := 1, ret := (Option.none : Option Jvm.ClassFile.FieldType), hh := [], wp := 444, bl := [
    (0, [.o (.aload_n 0), .obj 3 [445, 39, 40], .o (.aload_n 0), .nw 9 9 [446, 42, 2], .o .dup, .o (.bipush (64)), .sp (.ks false 11 2), .ci 13 1 2 [448, 45, 2], .pf 16 3 0 2 none 482, .o (.aload_n 0), .o (.bipush (9)), .o (.bipush (60)), .sp (.mu 22 [449, 270, 219]), .pf 24 3 1 2 none 487, .o (.aload_n 0), .o (.bipush (17)), .o (.sipush (400)), .sp (.mu 22 [449, 270, 219]), .pf 27 3 3 2 none 495, .o (.aload_n 0), .o (.sipush (3600)), .o (.newarray .int), .pf 30 3 5 2 none 502, .o (.aload_n 0), .o (.bipush (60)), .o (.newarray .long), .pf 34 3 6 2 none 503, .o (.aload_n 0), .nw 38 7 [450, 451, 16], .o .dup, .o (.bipush (16)), .ci 40 11 1 [452, 453, 16], .pf 43 3 7 2 none 504, .o (.aload_n 0), .o (.bipush (30)), .o (.newarray .byte), .pf 47 3 8 2 none 506, .o (.aload_n 0), .o (.bipush (64)), .o (.newarray .int), .pf 51 3 9 2 none 507, .o (.aload_n 0), .o (.bipush (64)), .o (.newarray .int), .pf 54 3 11 2 none 509, .o (.aload_n 0), .o (.bipush (64)), .o (.newarray .long), .pf 57 3 12 2 none 510, .o (.aload_n 0), .o (.bipush (64)), .o (.newarray .int), .pf 60 3 13 2 none 511, .o (.aload_n 0), .o (.bipush (64)), .o (.newarray .int), .pf 63 3 14 2 none 512, .o (.aload_n 0), .o (.sipush (128)), .o (.newarray .int), .pf 66 3 15 2 none 513, .o (.aload_n 0), .sp (.gs 69 1 (some "LinkedTongue") 480), .o (.iconst (5)), .o .iaload, .pf 72 3 17 0 none 517, .rt .return_])] }
def tm_9 : pe_Mt := { y := ⟨"LinkedTongue$Task", "<init>", "(LLinkedTongue$Heap;LLinkedTongue$Code;LLinkedTongue$Linker;)V"⟩, cc := prog_10_method_1_code, mx := 4, ret := (Option.none : Option Jvm.ClassFile.FieldType), hh := [], wp := 741, bl := [
    (0, [.o (.aload_n 0), .obj 3 [742, 39, 40], .o (.aload_n 0), .nw 9 7 [743, 451, 16], .o .dup, .o (.bipush (64)), .ci 11 11 1 [744, 453, 16], .pf 14 8 3 2 none 748, .o (.aload_n 0), .o (.sipush (200)), .o (.newarray .int), .pf 20 8 5 2 none 754, .o (.aload_n 0), .o (.sipush (200)), .o (.newarray .int), .pf 24 8 6 2 none 756, .o (.aload_n 0), .o (.sipush (200)), .o (.newarray .int), .pf 27 8 7 2 none 759, .o (.aload_n 0), .o (.sipush (200)), .o (.newarray .byte), .pf 30 8 8 2 none 760, .o (.aload_n 0), .o (.sipush (200)), .o (.newarray .long), .pf 34 8 9 2 none 761, .o (.aload_n 0), .o (.sipush (200)), .o (.newarray .boolean), .pf 38 8 10 2 none 762, .o (.aload_n 0), .o (.bipush (48)), .o (.newarray .int), .pf 42 8 11 2 none 763, .o (.aload_n 0), .o (.iconst (0)), .pf 45 8 13 0 none 765, .o (.aload_n 0), .o (.aload_n 1), .pf 49 8 0 2 none 745, .o (.aload_n 0), .o (.aload_n 2), .pf 53 8 1 2 none 746, .o (.aload_n 0), .o (.aload_n 3), .pf 57 8 2 2 none 747, .rt .return_])] }
def tm_10 : pe_Mt := { y := ⟨"LinkedTongue$Words", "addAll", "(Ljava/lang/String;)V"⟩, cc := prog_11_method_4_code, mx := 6, ret := (Option.none : Option Jvm.ClassFile.FieldType), hh := [], wp := 51, bl := [
    (0, [.o (.aload_n 1), .sp (.sl 81 [52]), .o (.istore_n 2), .o (.iload_n 2), .o (.newarray .byte), .o (.astore_n 3), .o (.iconst (0)), .o (.istore 4), .o (.iconst (0)), .o (.istore 5), .fall 1]),
    (15, [.o (.iload 5), .o (.iload_n 2), .br (.if_icmp .ge (48)) 3, .o (.aload_n 3), .o (.iload 5), .o (.aload_n 1), .o (.iload 5), .sp (.sc 87 [62]), .o .i2b, .o .bastore, .o (.aload_n 3), .o (.iload 5), .o .baload, .o (.bipush (32)), .br (.if_icmp .ne (22)) 2, .o (.aload_n 0), .o (.aload_n 3), .o (.iload 4), .o (.iload 5), .o (.iload 4), .o .isub, .cv 91 14 3 9 [100, 101, 2, 102, 0], .o .pop, .o (.iload 5), .o (.iconst (1)), .o .iadd, .o (.istore 4), .fall 2]),
    (60, [.o (.iinc 5 (1)), .br (.goto (-48)) 1]),
    (66, [.o (.aload_n 0), .o (.aload_n 3), .o (.iload 4), .o (.iload_n 2), .o (.iload 4), .o .isub, .cv 91 14 3 9 [100, 101, 2, 102, 0], .o .pop, .rt .return_])] }
def tm_11 : pe_Mt := { y := ⟨"LinkedTongue$Row", "<init>", "(I)V"⟩, cc := prog_9_method_1_code, mx := 2, ret := (Option.none : Option Jvm.ClassFile.FieldType), hh := [], wp := 454, bl := [
    (0, [.o (.aload_n 0), .obj 1 [455, 39, 40], .o (.aload_n 0), .o (.iload_n 1), .o (.newarray .byte), .pf 7 7 0 2 none 456, .o (.aload_n 0), .o (.iload_n 1), .o (.newarray .long), .pf 13 7 1 2 none 461, .rt .return_])] }
def tm_12 : pe_Mt := { y := ⟨"LinkedTongue$Heap", "addShape", "(III)I"⟩, cc := prog_4_method_14_code, mx := 6, ret := (Option.some Jvm.ClassFile.FieldType.int), hh := [], wp := 567, bl := [
    (0, [.o (.aload_n 0), .gf 88 2 8 none 595, .o (.istore 4), .o (.aload_n 0), .gf 35 2 7 none 593, .o (.iconst (0)), .o .aaload, .o (.iload 4), .o (.iload_n 1), .o .iastore, .o (.aload_n 0), .gf 35 2 7 none 593, .o (.iconst (2)), .o .aaload, .o (.iload 4), .o (.iload_n 3), .o .iastore, .o (.aload_n 0), .gf 35 2 7 none 593, .o (.iconst (3)), .o .aaload, .o (.iload 4), .o (.iload_n 2), .o .iastore, .o (.aload_n 0), .gf 35 2 7 none 593, .o (.iconst (1)), .o .aaload, .o (.iload 4), .o (.iload_n 2), .o (.iconst (-1)), .br (.if_icmp .ne (7)) 1, .o (.iconst (0)), .br (.goto (13)) 2]),
    (53, [.o (.aload_n 0), .gf 35 2 7 none 593, .o (.iconst (1)), .o .aaload, .o (.iload_n 2), .o .iaload, .o (.iconst (1)), .o .iadd, .fall 2]),
    (63, [.o .iastore, .o (.iload_n 2), .o (.iconst (-1)), .br (.if_icmp .eq (37)) 3, .o (.iload_n 2), .o (.iload_n 3), .cs 148 15 2 [568, 569, 14], .o (.istore 5), .o (.aload_n 0), .gf 35 2 7 none 593, .o (.iconst (4)), .o .aaload, .o (.iload 4), .o (.aload_n 0), .gf 38 2 9 none 597, .o (.iload 5), .o .iaload, .o .iastore, .o (.aload_n 0), .gf 38 2 9 none 597, .o (.iload 5), .o (.iload 4), .o (.iconst (1)), .o .iadd, .o .iastore, .fall 3]),
    (103, [.o (.aload_n 0), .o .dup, .gf 88 2 8 none 595, .o (.iconst (1)), .o .iadd, .pf 88 2 8 0 none 595, .o (.iload 4), .rt .ireturn])] }
def tm_13 : pe_Mt := { y := ⟨"LinkedTongue$Code", "takeEntry", "()I"⟩, cc := prog_2_method_6_code, mx := 2, ret := (Option.some Jvm.ClassFile.FieldType.int), hh := [], wp := 666, bl := [
    (0, [.o (.aload_n 0), .gf 35 0 12 none 309, .o (.istore_n 1), .o (.iload_n 1), .o (.iconst (-1)), .br (.if_icmp .eq (18)) 1, .o (.aload_n 0), .o (.aload_n 0), .gf 32 0 10 none 306, .o (.bipush (9)), .o .aaload, .o (.iload_n 1), .o .iaload, .pf 35 0 12 0 none 309, .o (.iload_n 1), .rt .ireturn]),
    (25, [.o (.aload_n 0), .gf 32 0 10 none 306, .o (.aload_n 0), .gf 60 0 11 none 308, .cs 82 16 2 [667, 668, 1], .o (.aload_n 0), .o .dup, .gf 60 0 11 none 308, .o (.iconst (1)), .o .iadd, .pf 60 0 11 0 none 308, .o (.aload_n 0), .gf 60 0 11 none 308, .o (.iconst (1)), .o .isub, .rt .ireturn])] }
def tm_14 : pe_Mt := { y := ⟨"LinkedTongue$Words", "wordFor", "([BII)I"⟩, cc := prog_11_method_8_code, mx := 6, ret := (Option.some Jvm.ClassFile.FieldType.int), hh := [], wp := 103, bl := [
    (0, [.o (.aload_n 0), .o (.aload_n 1), .o (.iload_n 2), .o (.iload_n 3), .cv 102 17 3 9 [104, 105, 2, 106, 0], .o (.istore 4), .o (.iload 4), .o (.iconst (-1)), .br (.if_icmp .eq (6)) 1, .o (.iload 4), .rt .ireturn]),
    (18, [.o (.aload_n 0), .gf 47 9 7 none 170, .o (.istore 4), .o (.iload 4), .o (.aload_n 0), .gf 15 9 2 none 156, .o .arraylength, .br (.if_icmp .ne (78)) 2, .o (.aload_n 0), .o (.aload_n 0), .gf 15 9 2 none 156, .o (.iload 4), .o (.iconst (2)), .o .imul, .th]),
    (109, [.o (.aload_n 0), .o (.aload_n 1), .o (.iload_n 2), .o (.iload_n 3), .cv 95 18 3 9 [108, 110, 2, 1, 1], .o (.istore 5), .o (.aload_n 0), .gf 15 9 2 none 156, .o (.iload 4), .o (.aload_n 0), .o (.aload_n 1), .o (.iload_n 2), .o (.iload_n 3), .cv 108 19 3 9 [132, 133, 2, 134, 0], .o .iastore, .o (.aload_n 0), .gf 19 9 3 none 161, .o (.iload 4), .o (.iload_n 3), .o .iastore, .o (.aload_n 0), .gf 22 9 4 none 166, .o (.iload 4), .o (.aload_n 0), .gf 40 9 8 none 171, .o (.iload 5), .o .iaload, .o .iastore, .o (.aload_n 0), .gf 40 9 8 none 171, .o (.iload 5), .o (.iload 4), .o (.iconst (1)), .o .iadd, .o .iastore, .o (.aload_n 0), .gf 25 9 5 none 167, .o (.iload 4), .o (.iconst (-1)), .o .iastore, .o (.aload_n 0), .gf 28 9 6 none 169, .o (.iload 4), .o (.iconst (-1)), .o .iastore, .o (.aload_n 0), .o .dup, .gf 47 9 7 none 170, .o (.iconst (1)), .o .iadd, .pf 47 9 7 0 none 170, .o (.iload 4), .rt .ireturn])] }
def tm_15 : pe_Mt := { y := ⟨"LinkedTongue$Heap", "shapeHead", "(II)I"⟩, cc := prog_4_method_13_code, mx := 3, ret := (Option.some Jvm.ClassFile.FieldType.int), hh := [], wp := 570, bl := [
    (0, [.o (.iload_n 0), .o (.sipush (1021)), .o .imul, .o (.iload_n 1), .o .iadd, .o (.istore_n 2), .o (.iload_n 2), .o (.iload_n 2), .o (.bipush (10)), .o .iushr, .o .ixor, .o (.sipush (1023)), .o .iand, .rt .ireturn])] }
def tm_16 : pe_Mt := { y := ⟨"LinkedTongue", "makeRoom", "([[II)V"⟩, cc := prog_1_method_32_code, mx := 3, ret := (Option.none : Option Jvm.ClassFile.FieldType), hh := [], wp := 669, bl := [
    (0, [.o (.iload_n 1), .o (.aload_n 0), .o (.iconst (0)), .o .aaload, .o .arraylength, .br (.if_icmp .lt (29)) 2, .o (.iconst (0)), .o (.istore_n 2), .fall 1]),
    (10, [.o (.iload_n 2), .o (.aload_n 0), .o .arraylength, .br (.if_icmp .ge (21)) 2, .o (.aload_n 0), .o (.iload_n 2), .o (.aload_n 0), .o (.iload_n 2), .o .aaload, .o (.iload_n 1), .o (.iconst (2)), .o .imul, .th]),
    (34, [.rt .return_])] }
def tm_17 : pe_Mt := { y := ⟨"LinkedTongue$Words", "wordAt", "([BII)I"⟩, cc := prog_11_method_7_code, mx := 6, ret := (Option.some Jvm.ClassFile.FieldType.int), hh := [], wp := 107, bl := [
    (0, [.o (.iload_n 3), .o (.bipush (60)), .br (.if_icmp .le (5)) 1, .o (.iconst (-1)), .rt .ireturn]),
    (8, [.o (.aload_n 0), .gf 40 9 8 none 171, .o (.aload_n 0), .o (.aload_n 1), .o (.iload_n 2), .o (.iload_n 3), .cv 95 18 3 9 [108, 110, 2, 1, 1], .o .iaload, .o (.iconst (1)), .o .isub, .o (.istore 4), .o (.iconst (0)), .o (.istore 5), .fall 2]),
    (27, [.o (.iload 5), .o (.aload_n 0), .gf 47 9 7 none 170, .br (.if_icmp .ge (40)) 4, .o (.iload 4), .br (.ifCond .lt (35)) 4, .o (.aload_n 0), .o (.iload 4), .o (.aload_n 1), .o (.iload_n 2), .o (.iload_n 3), .cv 98 20 4 9 [112, 114, 2, 2, 1], .br (.ifCond .eq (6)) 3, .o (.iload 4), .rt .ireturn]),
    (56, [.o (.aload_n 0), .gf 22 9 4 none 166, .o (.iload 4), .o .iaload, .o (.iconst (1)), .o .isub, .o (.istore 4), .o (.iinc 5 (1)), .br (.goto (-43)) 2]),
    (73, [.o (.iconst (-1)), .rt .ireturn])] }
def tm_18 : pe_Mt := { y := ⟨"LinkedTongue$Words", "headOf", "([BII)I"⟩, cc := prog_11_method_5_code, mx := 6, ret := (Option.some Jvm.ClassFile.FieldType.int), hh := [], wp := 111, bl := [
    (0, [.o (.iload_n 3), .o (.istore 4), .o (.iconst (0)), .o (.istore 5), .fall 1]),
    (6, [.o (.iload 5), .o (.iload_n 3), .br (.if_icmp .ge (23)) 2, .o (.iload 4), .o (.bipush (31)), .o .imul, .o (.aload_n 1), .o (.iload_n 2), .o (.iload 5), .o .iadd, .o .baload, .o .iadd, .o (.istore 4), .o (.iinc 5 (1)), .br (.goto (-23)) 1]),
    (32, [.o (.iload 4), .o (.iload 4), .o (.bipush (11)), .o .iushr, .o .ixor, .o (.aload_n 0), .gf 40 9 8 none 171, .o .arraylength, .o (.iconst (1)), .o .isub, .o .iand, .rt .ireturn])] }
def tm_19 : pe_Mt := { y := ⟨"LinkedTongue$Words", "append", "([BII)I"⟩, cc := prog_11_method_3_code, mx := 4, ret := (Option.some Jvm.ClassFile.FieldType.int), hh := [], wp := 135, bl := [
    (0, [.o (.aload_n 0), .gf 54 9 1 none 154, .o (.iload_n 3), .o .iadd, .o (.aload_n 0), .gf 9 9 0 none 148, .o .arraylength, .br (.if_icmp .le (30)) 1, .o (.aload_n 0), .o (.aload_n 0), .gf 9 9 0 none 148, .o (.aload_n 0), .gf 54 9 1 none 154, .o (.iload_n 3), .o .iadd, .o (.aload_n 0), .gf 9 9 0 none 148, .o .arraylength, .o (.iconst (2)), .o .imul, .th]),
    (41, [.o (.aload_n 1), .o (.iload_n 2), .o (.aload_n 0), .gf 9 9 0 none 148, .o (.aload_n 0), .gf 54 9 1 none 154, .o (.iload_n 3), .sp (.ac 75 [147, 131, 130, 9]), .o (.aload_n 0), .o .dup, .gf 54 9 1 none 154, .o (.iload_n 3), .o .iadd, .pf 54 9 1 0 none 154, .o (.aload_n 0), .gf 54 9 1 none 154, .o (.iload_n 3), .o .isub, .rt .ireturn])] }
def tm_20 : pe_Mt := { y := ⟨"LinkedTongue$Words", "isWord", "(I[BII)Z"⟩, cc := prog_11_method_6_code, mx := 6, ret := (Option.some Jvm.ClassFile.FieldType.boolean), hh := [], wp := 115, bl := [
    (0, [.o (.aload_n 0), .gf 19 9 3 none 161, .o (.iload_n 1), .o .iaload, .o (.iload 4), .br (.if_icmp .eq (5)) 1, .o (.iconst (0)), .rt .ireturn]),
    (13, [.o (.iconst (0)), .o (.istore 5), .fall 2]),
    (16, [.o (.iload 5), .o (.iload 4), .br (.if_icmp .ge (34)) 4, .o (.aload_n 0), .gf 9 9 0 none 148, .o (.aload_n 0), .gf 15 9 2 none 156, .o (.iload_n 1), .o .iaload, .o (.iload 5), .o .iadd, .o .baload, .o (.aload_n 2), .o (.iload_n 3), .o (.iload 5), .o .iadd, .o .baload, .br (.if_icmp .eq (5)) 3, .o (.iconst (0)), .rt .ireturn]),
    (48, [.o (.iinc 5 (1)), .br (.goto (-35)) 2]),
    (54, [.o (.iconst (1)), .rt .ireturn])] }
def pe_ms : List pe_Mt := [tm_0, tm_1, tm_2, tm_3, tm_4, tm_5, tm_6, tm_7, tm_8, tm_9, tm_10, tm_11, tm_12, tm_13, tm_14, tm_15, tm_16, tm_17, tm_18, tm_19, tm_20]
def pe_xs : List (Nat × List Int32) := [(0, [118, 97, 114, 32, 102, 117, 110, 32, 105, 102, 32, 101, 108, 115, 101, 32, 119, 104, 105, 108, 101, 32, 114, 101, 116, 117, 114, 110, 32, 116, 104, 114, 111, 119, 32, 116, 114, 121, 32, 99, 97, 116, 99, 104, 32, 110, 101, 119, 32, 116, 104, 105, 115, 32, 110, 117, 108, 108, 32, 116, 114, 117, 101, 32, 102, 97, 108, 115, 101, 32, 112, 114, 105, 110, 116, 32, 109, 97, 107, 101, 32, 112, 114, 111, 116, 111, 32, 116, 117, 114, 110, 32, 100, 114, 111, 112, 32, 104, 97, 115, 32, 107, 105, 110, 100, 32, 104, 111, 115, 116, 32, 115, 105, 122, 101, 32, 112, 117, 115, 104, 32, 112, 111, 112, 32, 115, 117, 98, 32, 98, 111, 111, 108, 32, 105, 110, 116, 32, 108, 111, 110, 103, 32, 116, 101, 120, 116, 32, 111, 98, 106, 101, 99, 116, 32, 108, 105, 115, 116, 32, 99, 108, 97, 115, 115]),
  (1, [8000, 60000, 12000, 200000, 4000, 2000]),
  (0, [118, 111, 105, 100, 32, 105, 110, 116, 32, 108, 111, 110, 103, 32, 98, 111, 111, 108, 32, 73, 110, 116, 32, 76, 111, 110, 103, 32, 66, 111, 111, 108, 32, 84, 101, 120, 116, 32, 65, 110, 121, 32, 99, 108, 97, 115, 115, 32, 105, 110, 116, 101, 114, 102, 97, 99, 101, 32, 115, 116, 97, 116, 105, 99, 32, 110, 101, 119])]
def pe_GC : pe_G := { ms := pe_ms, dv := pe_dv, xs := pe_xs }
def pe_kst : List (String × Nat × Nat) := [("LinkedTongue", 15, 0), ("LinkedTongue$Host", 11, 2)]
def pe_stt : List (Nat × String × String × String) := [(1, "LinkedTongue", "LIFE_MOST", "[I")]
/-- what is looked at for a special instruction -/
def pe_ckS (mt : pe_Mt) (pc : Nat) (i : pe_S) : Bool := match i with
  | .ks wide ix j => !wide && (decide (decode mt.cc pc = .ok (.ldc ix, 2)) && decide ((mt.y.cls, ix, j) ∈ pe_kst))
  | .gs ix j host wd => decide (decode mt.cc pc = .ok (.getstatic ix, 3)) && (match pe_stt.find? (fun q => q.1 == j) with
    | some (_, C, n, d) => (match host with
      | none => pe_w wd (.fieldLink mt.y.cls ix C n d)
      | some hn => pe_w wd (.fieldLinkNest mt.y.cls ix C n d hn))
    | none => false)
  | .mu ix ws => decide (decode mt.cc pc = .ok (.multianewarray ix 2, 4)) && (match ws with
    | [w1, w2, w3] => pe_w w1 (.classLink mt.y.cls ix "[[I") && (pe_w w2 (.arrayOver (.array .int)) && pe_w w3 (.arrayClass .int))
    | _ => false)
  | .sl ix ws => decide (decode mt.cc pc = .ok (.invokevirtual ix, 3)) && (match ws with
    | [w1] => pe_w w1 (.methodLink mt.y.cls ix ⟨"java/lang/String", "length", "()I"⟩)
    | _ => false)
  | .sc ix ws => decide (decode mt.cc pc = .ok (.invokevirtual ix, 3)) && (match ws with
    | [w1] => pe_w w1 (.methodLink mt.y.cls ix ⟨"java/lang/String", "charAt", "(I)C"⟩)
    | _ => false)
  | .ac ix ws => decide (decode mt.cc pc = .ok (.invokestatic ix, 3)) && (match ws with
    | [w1, w2, w3, w4] => pe_w w1 (.methodLink mt.y.cls ix arraycopyName) && (pe_w w2 (.native arraycopyName) && (pe_w w3 (.static arraycopyName) && pe_w w4 (.initialized "java/lang/System")))
    | _ => false)
set_option maxRecDepth 40000
theorem ok_0 : pe_okM pe_GC pe_cl pe_ckS tm_0 = true := by decide +kernel
theorem ok_1 : pe_okM pe_GC pe_cl pe_ckS tm_1 = true := by decide +kernel
theorem ok_2 : pe_okM pe_GC pe_cl pe_ckS tm_2 = true := by decide +kernel
theorem ok_3 : pe_okM pe_GC pe_cl pe_ckS tm_3 = true := by decide +kernel
theorem ok_4 : pe_okM pe_GC pe_cl pe_ckS tm_4 = true := by decide +kernel
theorem ok_5 : pe_okM pe_GC pe_cl pe_ckS tm_5 = true := by decide +kernel
theorem ok_6 : pe_okM pe_GC pe_cl pe_ckS tm_6 = true := by decide +kernel
theorem ok_7 : pe_okM pe_GC pe_cl pe_ckS tm_7 = true := by decide +kernel
theorem ok_8 : pe_okM pe_GC pe_cl pe_ckS tm_8 = true := by decide +kernel
theorem ok_9 : pe_okM pe_GC pe_cl pe_ckS tm_9 = true := by decide +kernel
theorem ok_10 : pe_okM pe_GC pe_cl pe_ckS tm_10 = true := by decide +kernel
theorem ok_11 : pe_okM pe_GC pe_cl pe_ckS tm_11 = true := by decide +kernel
theorem ok_12 : pe_okM pe_GC pe_cl pe_ckS tm_12 = true := by decide +kernel
theorem ok_13 : pe_okM pe_GC pe_cl pe_ckS tm_13 = true := by decide +kernel
theorem ok_14 : pe_okM pe_GC pe_cl pe_ckS tm_14 = true := by decide +kernel
theorem ok_15 : pe_okM pe_GC pe_cl pe_ckS tm_15 = true := by decide +kernel
theorem ok_16 : pe_okM pe_GC pe_cl pe_ckS tm_16 = true := by decide +kernel
theorem ok_17 : pe_okM pe_GC pe_cl pe_ckS tm_17 = true := by decide +kernel
theorem ok_18 : pe_okM pe_GC pe_cl pe_ckS tm_18 = true := by decide +kernel
theorem ok_19 : pe_okM pe_GC pe_cl pe_ckS tm_19 = true := by decide +kernel
theorem ok_20 : pe_okM pe_GC pe_cl pe_ckS tm_20 = true := by decide +kernel
theorem pe_ms_ok : ∀ mi mt, pe_at pe_GC.ms mi = some mt → pe_okM pe_GC pe_cl pe_ckS mt = true := by
  intro mi mt h
  match mi, h with
  | 0, h =>
    have h2 : some tm_0 = some mt := h
    cases h2
    exact ok_0
  | 1, h =>
    have h2 : some tm_1 = some mt := h
    cases h2
    exact ok_1
  | 2, h =>
    have h2 : some tm_2 = some mt := h
    cases h2
    exact ok_2
  | 3, h =>
    have h2 : some tm_3 = some mt := h
    cases h2
    exact ok_3
  | 4, h =>
    have h2 : some tm_4 = some mt := h
    cases h2
    exact ok_4
  | 5, h =>
    have h2 : some tm_5 = some mt := h
    cases h2
    exact ok_5
  | 6, h =>
    have h2 : some tm_6 = some mt := h
    cases h2
    exact ok_6
  | 7, h =>
    have h2 : some tm_7 = some mt := h
    cases h2
    exact ok_7
  | 8, h =>
    have h2 : some tm_8 = some mt := h
    cases h2
    exact ok_8
  | 9, h =>
    have h2 : some tm_9 = some mt := h
    cases h2
    exact ok_9
  | 10, h =>
    have h2 : some tm_10 = some mt := h
    cases h2
    exact ok_10
  | 11, h =>
    have h2 : some tm_11 = some mt := h
    cases h2
    exact ok_11
  | 12, h =>
    have h2 : some tm_12 = some mt := h
    cases h2
    exact ok_12
  | 13, h =>
    have h2 : some tm_13 = some mt := h
    cases h2
    exact ok_13
  | 14, h =>
    have h2 : some tm_14 = some mt := h
    cases h2
    exact ok_14
  | 15, h =>
    have h2 : some tm_15 = some mt := h
    cases h2
    exact ok_15
  | 16, h =>
    have h2 : some tm_16 = some mt := h
    cases h2
    exact ok_16
  | 17, h =>
    have h2 : some tm_17 = some mt := h
    cases h2
    exact ok_17
  | 18, h =>
    have h2 : some tm_18 = some mt := h
    cases h2
    exact ok_18
  | 19, h =>
    have h2 : some tm_19 = some mt := h
    cases h2
    exact ok_19
  | 20, h =>
    have h2 : some tm_20 = some mt := h
    cases h2
    exact ok_20
  | n + 21, h => exact absurd (show (none : Option pe_Mt) = some mt from h) (fun q => by cases q)
