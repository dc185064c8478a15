/-! the code, cut at its jump targets */ -/
set_option maxRecDepth 100000 in
def uX8_init_0 : List zEn := (0, .aload_n 0, 1, 0, 0, [], 0) :: (1, .invokespecial 3, 3, 127, 0, [], 0) :: (4, .aload_n 0, 1, 0, 0, [], 0) :: (5, .bipush 48, 2, 0, 0, [], 48) :: (7, .newarray .int, 2, 0, 0, [], 0) :: (9, .putfield 9, 3, 8, 0, [(0, 2), (0, 128)], 0) :: (12, .aload_n 0, 1, 0, 0, [], 0) :: (13, .iconst 0, 1, 0, 0, [], 0) :: (14, .putfield 15, 3, 8, 1, [(0, 0), (0, 129)], 0) :: (17, .return_, 1, 0, 0, [], 0) :: []
set_option maxRecDepth 100000 in
def uX1_init_0 : List zEn := (0, .aload_n 0, 1, 0, 0, [], 0) :: (1, .invokespecial 3, 3, 144, 0, [], 0) :: (4, .aload_n 0, 1, 0, 0, [], 0) :: (5, .bipush 14, 2, 0, 0, [], 14) :: (7, .anewarray 9, 3, 69, 0, [(0, 145)], 0) :: (10, .putfield 11, 3, 1, 0, [(0, 2), (0, 148)], 0) :: (13, .aload_n 0, 1, 0, 0, [], 0) :: (14, .iconst 0, 1, 0, 0, [], 0) :: (15, .putfield 17, 3, 1, 1, [(0, 0), (0, 150)], 0) :: (18, .aload_n 0, 1, 0, 0, [], 0) :: (19, .iconst 3, 1, 0, 0, [], 3) :: (20, .newarray .int, 2, 0, 0, [], 0) :: (22, .dup, 1, 0, 0, [], 0) :: (23, .iconst 0, 1, 0, 0, [], 0) :: (24, .ldc 21, 2, 0, 0, [(0, 147)], (-1000000005)) :: (26, .iastore, 1, 0, 0, [], 0) :: (27, .dup, 1, 0, 0, [], 0) :: (28, .iconst 1, 1, 0, 0, [], 1) :: (29, .ldc 21, 2, 0, 0, [(0, 147)], (-1000000005)) :: (31, .iastore, 1, 0, 0, [], 0) :: (32, .dup, 1, 0, 0, [], 0) :: (33, .iconst 2, 1, 0, 0, [], 2) :: (34, .ldc 21, 2, 0, 0, [(0, 147)], (-1000000005)) :: (36, .iastore, 1, 0, 0, [], 0) :: (37, .putfield 22, 3, 1, 2, [(0, 2), (0, 152)], 0) :: (40, .aload_n 0, 1, 0, 0, [], 0) :: (41, .bipush 96, 2, 0, 0, [], 96) :: (43, .newarray .int, 2, 0, 0, [], 0) :: (45, .putfield 26, 3, 1, 3, [(0, 2), (0, 154)], 0) :: (48, .return_, 1, 0, 0, [], 0) :: []
set_option maxRecDepth 100000 in
def uX0_init_0 : List zEn := (0, .aload_n 0, 1, 0, 0, [], 0) :: (1, .invokespecial 3, 3, 169, 0, [], 0) :: (4, .aload_n 0, 1, 0, 0, [], 0) :: (5, .bipush 8, 2, 0, 0, [], 8) :: (7, .newarray .int, 2, 0, 0, [], 0) :: (9, .dup, 1, 0, 0, [], 0) :: (10, .iconst 0, 1, 0, 0, [], 0) :: (11, .iconst 1, 1, 0, 0, [], 1) :: (12, .iastore, 1, 0, 0, [], 0) :: (13, .dup, 1, 0, 0, [], 0) :: (14, .iconst 1, 1, 0, 0, [], 1) :: (15, .iconst 1, 1, 0, 0, [], 1) :: (16, .iastore, 1, 0, 0, [], 0) :: (17, .dup, 1, 0, 0, [], 0) :: (18, .iconst 2, 1, 0, 0, [], 2) :: (19, .iconst 1, 1, 0, 0, [], 1) :: (20, .iastore, 1, 0, 0, [], 0) :: (21, .dup, 1, 0, 0, [], 0) :: (22, .iconst 3, 1, 0, 0, [], 3) :: (23, .iconst 1, 1, 0, 0, [], 1) :: (24, .iastore, 1, 0, 0, [], 0) :: (25, .dup, 1, 0, 0, [], 0) :: (26, .iconst 4, 1, 0, 0, [], 4) :: (27, .iconst 1, 1, 0, 0, [], 1) :: (28, .iastore, 1, 0, 0, [], 0) :: (29, .dup, 1, 0, 0, [], 0) :: (30, .iconst 5, 1, 0, 0, [], 5) :: (31, .iconst 1, 1, 0, 0, [], 1) :: (32, .iastore, 1, 0, 0, [], 0) :: (33, .dup, 1, 0, 0, [], 0) :: (34, .bipush 6, 2, 0, 0, [], 6) :: (36, .iconst 1, 1, 0, 0, [], 1) :: (37, .iastore, 1, 0, 0, [], 0) :: (38, .dup, 1, 0, 0, [], 0) :: (39, .bipush 7, 2, 0, 0, [], 7) :: (41, .iconst 1, 1, 0, 0, [], 1) :: (42, .iastore, 1, 0, 0, [], 0) :: (43, .putfield 9, 3, 0, 0, [(0, 2), (0, 170)], 0) :: (46, .aload_n 0, 1, 0, 0, [], 0) :: (47, .bipush 8, 2, 0, 0, [], 8) :: (49, .newarray .int, 2, 0, 0, [], 0) :: (51, .putfield 15, 3, 0, 1, [(0, 2), (0, 172)], 0) :: (54, .aload_n 0, 1, 0, 0, [], 0) :: (55, .iconst 0, 1, 0, 0, [], 0) :: (56, .putfield 18, 3, 0, 2, [(0, 0), (0, 174)], 0) :: (59, .aload_n 0, 1, 0, 0, [], 0) :: (60, .sipush 255, 3, 0, 0, [], 255) :: (63, .putfield 22, 3, 0, 3, [(0, 0), (0, 176)], 0) :: (66, .return_, 1, 0, 0, [], 0) :: []
set_option maxRecDepth 100000 in
def uX2_init_0 : List zEn := (0, .aload_n 0, 1, 0, 0, [], 0) :: (1, .invokespecial 1, 3, 191, 0, [], 0) :: (4, .aload_n 0, 1, 0, 0, [], 0) :: (5, .iconst 1, 1, 0, 0, [], 1) :: (6, .putfield 7, 3, 2, 0, [(0, 0), (0, 192)], 0) :: (9, .aload_n 0, 1, 0, 0, [], 0) :: (10, .iconst 0, 1, 0, 0, [], 0) :: (11, .putfield 13, 3, 2, 1, [(0, 0), (0, 194)], 0) :: (14, .aload_n 0, 1, 0, 0, [], 0) :: (15, .iconst 0, 1, 0, 0, [], 0) :: (16, .putfield 16, 3, 2, 2, [(0, 0), (0, 196)], 0) :: (19, .return_, 1, 0, 0, [], 0) :: []
set_option maxRecDepth 100000 in
def uX3_init_0 : List zEn := (0, .aload_n 0, 1, 0, 0, [], 0) :: (1, .invokespecial 3, 3, 209, 0, [], 0) :: (4, .aload_n 0, 1, 0, 0, [], 0) :: (5, .iconst 0, 1, 0, 0, [], 0) :: (6, .putfield 9, 3, 3, 0, [(0, 0), (0, 211)], 0) :: (9, .aload_n 0, 1, 0, 0, [], 0) :: (10, .iconst 0, 1, 0, 0, [], 0) :: (11, .putfield 15, 3, 3, 1, [(0, 0), (0, 216)], 0) :: (14, .aload_n 0, 1, 0, 0, [], 0) :: (15, .iconst 0, 1, 0, 0, [], 0) :: (16, .putfield 18, 3, 3, 2, [(0, 0), (0, 219)], 0) :: (19, .aload_n 0, 1, 0, 0, [], 0) :: (20, .iconst 0, 1, 0, 0, [], 0) :: (21, .putfield 21, 3, 3, 3, [(0, 0), (0, 221)], 0) :: (24, .aload_n 0, 1, 0, 0, [], 0) :: (25, .iconst 0, 1, 0, 0, [], 0) :: (26, .putfield 24, 3, 3, 4, [(0, 0), (0, 225)], 0) :: (29, .aload_n 0, 1, 0, 0, [], 0) :: (30, .iconst 0, 1, 0, 0, [], 0) :: (31, .putfield 27, 3, 3, 5, [(0, 0), (0, 229)], 0) :: (34, .aload_n 0, 1, 0, 0, [], 0) :: (35, .iconst 0, 1, 0, 0, [], 0) :: (36, .putfield 30, 3, 3, 6, [(0, 1), (0, 233)], 0) :: (39, .aload_n 0, 1, 0, 0, [], 0) :: (40, .iconst 0, 1, 0, 0, [], 0) :: (41, .putfield 34, 3, 3, 7, [(0, 1), (0, 236)], 0) :: (44, .aload_n 0, 1, 0, 0, [], 0) :: (45, .sipush 999, 3, 0, 0, [], 999) :: (48, .putfield 37, 3, 3, 8, [(0, 0), (0, 239)], 0) :: (51, .aload_n 0, 1, 0, 0, [], 0) :: (52, .ldc 40, 2, 0, 0, [(0, 210)], (-1000000005)) :: (54, .putfield 41, 3, 3, 9, [(0, 0), (0, 242)], 0) :: (57, .aload_n 0, 1, 0, 0, [], 0) :: (58, .iconst 0, 1, 0, 0, [], 0) :: (59, .putfield 44, 3, 3, 10, [(0, 1), (0, 245)], 0) :: (62, .return_, 1, 0, 0, [], 0) :: []
set_option maxRecDepth 100000 in
def uX6_init_77 : List zEn := (147, .return_, 1, 0, 0, [], 0) :: []
set_option maxRecDepth 100000 in
def uX6_init_65 : List zEn := (122, .iload_n 1, 1, 1, 0, [], 0) :: (123, .bipush 16, 2, 0, 0, [], 16) :: (125, .if_icmp .ge 22, 3, 77, 0, [], 0) :: (128, .aload_n 0, 1, 0, 0, [], 0) :: (129, .getfield 30, 3, 6, 3, [(0, 2), (0, 277)], 0) :: (132, .iload_n 1, 1, 1, 0, [], 0) :: (133, .new 28, 3, 3, 11, [(0, 137)], 0) :: (136, .dup, 1, 0, 0, [], 0) :: (137, .invokespecial 68, 3, 4, 1, [(0, 0), (0, 0), (0, 0), (0, 206)], 0) :: (140, .aastore, 1, 0, 0, [], 0) :: (141, .iinc 1 1, 3, 1, 0, [], 1) :: (144, .goto (-22), 3, 64, 0, [], 0) :: uX6_init_77
set_option maxRecDepth 100000 in
def tX6_init_65 : List zEn := uX6_init_65
set_option maxRecDepth 100000 in
def uX6_init_64 : List zEn := (122, .nop, 0, 0, 0, [], 0) :: tX6_init_65
set_option maxRecDepth 100000 in
def uX6_init_62 : List zEn := (120, .iconst 0, 1, 0, 0, [], 0) :: (121, .istore_n 1, 1, 1, 0, [], 0) :: uX6_init_64
set_option maxRecDepth 100000 in
def uX6_init_50 : List zEn := (95, .iload_n 1, 1, 1, 0, [], 0) :: (96, .bipush 6, 2, 0, 0, [], 6) :: (98, .if_icmp .ge 22, 3, 62, 0, [], 0) :: (101, .aload_n 0, 1, 0, 0, [], 0) :: (102, .getfield 11, 3, 6, 0, [(0, 2), (0, 270)], 0) :: (105, .iload_n 1, 1, 1, 0, [], 0) :: (106, .new 9, 3, 2, 3, [(0, 120)], 0) :: (109, .dup, 1, 0, 0, [], 0) :: (110, .invokespecial 67, 3, 3, 1, [(0, 0), (0, 0), (0, 0), (0, 188)], 0) :: (113, .aastore, 1, 0, 0, [], 0) :: (114, .iinc 1 1, 3, 1, 0, [], 1) :: (117, .goto (-22), 3, 49, 0, [], 0) :: uX6_init_62
set_option maxRecDepth 100000 in
def tX6_init_50 : List zEn := uX6_init_50
set_option maxRecDepth 100000 in
def uX6_init_49 : List zEn := (95, .nop, 0, 0, 0, [], 0) :: tX6_init_50
set_option maxRecDepth 100000 in
def uX6_init_0 : List zEn := (0, .aload_n 0, 1, 0, 0, [], 0) :: (1, .invokespecial 3, 3, 119, 0, [], 0) :: (4, .aload_n 0, 1, 0, 0, [], 0) :: (5, .bipush 6, 2, 0, 0, [], 6) :: (7, .anewarray 9, 3, 62, 0, [(0, 120)], 0) :: (10, .putfield 11, 3, 6, 0, [(0, 2), (0, 270)], 0) :: (13, .aload_n 0, 1, 0, 0, [], 0) :: (14, .iconst 0, 1, 0, 0, [], 0) :: (15, .putfield 17, 3, 6, 1, [(0, 0), (0, 272)], 0) :: (18, .aload_n 0, 1, 0, 0, [], 0) :: (19, .new 21, 3, 8, 2, [(0, 122)], 0) :: (22, .dup, 1, 0, 0, [], 0) :: (23, .invokespecial 23, 3, 0, 1, [(0, 0), (0, 1), (0, 48), (0, 124)], 0) :: (26, .putfield 24, 3, 6, 2, [(0, 2), (0, 274)], 0) :: (29, .aload_n 0, 1, 0, 0, [], 0) :: (30, .bipush 16, 2, 0, 0, [], 16) :: (32, .anewarray 28, 3, 63, 0, [(0, 137)], 0) :: (35, .putfield 30, 3, 6, 3, [(0, 2), (0, 277)], 0) :: (38, .aload_n 0, 1, 0, 0, [], 0) :: (39, .iconst 0, 1, 0, 0, [], 0) :: (40, .putfield 34, 3, 6, 4, [(0, 0), (0, 280)], 0) :: (43, .aload_n 0, 1, 0, 0, [], 0) :: (44, .bipush 6, 2, 0, 0, [], 6) :: (46, .newarray .int, 2, 0, 0, [], 0) :: (48, .putfield 37, 3, 6, 5, [(0, 2), (0, 282)], 0) :: (51, .aload_n 0, 1, 0, 0, [], 0) :: (52, .iconst 0, 1, 0, 0, [], 0) :: (53, .putfield 41, 3, 6, 6, [(0, 0), (0, 285)], 0) :: (56, .aload_n 0, 1, 0, 0, [], 0) :: (57, .new 44, 3, 1, 4, [(0, 139)], 0) :: (60, .dup, 1, 0, 0, [], 0) :: (61, .invokespecial 46, 3, 1, 1, [(0, 0), (0, 3), (0, 113), (0, 141)], 0) :: (64, .putfield 47, 3, 6, 7, [(0, 2), (0, 288)], 0) :: (67, .aload_n 0, 1, 0, 0, [], 0) :: (68, .new 51, 3, 0, 4, [(0, 164)], 0) :: (71, .dup, 1, 0, 0, [], 0) :: (72, .invokespecial 53, 3, 2, 1, [(0, 0), (0, 2), (0, 16), (0, 166)], 0) :: (75, .putfield 54, 3, 6, 8, [(0, 2), (0, 290)], 0) :: (78, .aload_n 0, 1, 0, 0, [], 0) :: (79, .iconst 0, 1, 0, 0, [], 0) :: (80, .putfield 58, 3, 6, 9, [(0, 0), (0, 292)], 0) :: (83, .aload_n 0, 1, 0, 0, [], 0) :: (84, .iconst 0, 1, 0, 0, [], 0) :: (85, .putfield 61, 3, 6, 10, [(0, 0), (0, 294)], 0) :: (88, .aload_n 0, 1, 0, 0, [], 0) :: (89, .iconst 1, 1, 0, 0, [], 1) :: (90, .putfield 64, 3, 6, 11, [(0, 0), (0, 296)], 0) :: (93, .iconst 0, 1, 0, 0, [], 0) :: (94, .istore_n 1, 1, 1, 0, [], 0) :: uX6_init_49
set_option maxRecDepth 100000 in
theorem jX6_init_49 : zj pX6_init 49 = uX6_init_49 := rfl
set_option maxRecDepth 100000 in
theorem jX6_init_62 : zj pX6_init 62 = uX6_init_62 := rfl
set_option maxRecDepth 100000 in
theorem jX6_init_64 : zj pX6_init 64 = uX6_init_64 := rfl
set_option maxRecDepth 100000 in
theorem jX6_init_77 : zj pX6_init 77 = uX6_init_77 := rfl
set_option maxRecDepth 100000 in
def uX4_init_0 : List zEn := (0, .aload_n 0, 1, 0, 0, [], 0) :: (1, .invokespecial 3, 3, 328, 0, [], 0) :: (4, .aload_n 0, 1, 0, 0, [], 0) :: (5, .iconst 0, 1, 0, 0, [], 0) :: (6, .putfield 9, 3, 4, 0, [(0, 0), (0, 331)], 0) :: (9, .aload_n 0, 1, 0, 0, [], 0) :: (10, .iconst 0, 1, 0, 0, [], 0) :: (11, .putfield 15, 3, 4, 1, [(0, 0), (0, 333)], 0) :: (14, .aload_n 0, 1, 0, 0, [], 0) :: (15, .bipush 6, 2, 0, 0, [], 6) :: (17, .newarray .int, 2, 0, 0, [], 0) :: (19, .putfield 18, 3, 4, 2, [(0, 2), (0, 335)], 0) :: (22, .aload_n 0, 1, 0, 0, [], 0) :: (23, .bipush 6, 2, 0, 0, [], 6) :: (25, .newarray .int, 2, 0, 0, [], 0) :: (27, .putfield 22, 3, 4, 3, [(0, 2), (0, 337)], 0) :: (30, .aload_n 0, 1, 0, 0, [], 0) :: (31, .bipush 6, 2, 0, 0, [], 6) :: (33, .newarray .int, 2, 0, 0, [], 0) :: (35, .putfield 25, 3, 4, 4, [(0, 2), (0, 338)], 0) :: (38, .aload_n 0, 1, 0, 0, [], 0) :: (39, .bipush 6, 2, 0, 0, [], 6) :: (41, .newarray .int, 2, 0, 0, [], 0) :: (43, .putfield 28, 3, 4, 5, [(0, 2), (0, 339)], 0) :: (46, .aload_n 0, 1, 0, 0, [], 0) :: (47, .new 31, 3, 8, 2, [(0, 329)], 0) :: (50, .dup, 1, 0, 0, [], 0) :: (51, .invokespecial 33, 3, 0, 1, [(0, 0), (0, 1), (0, 48), (0, 330)], 0) :: (54, .putfield 34, 3, 4, 6, [(0, 2), (0, 340)], 0) :: (57, .return_, 1, 0, 0, [], 0) :: []
set_option maxRecDepth 100000 in
def uX10_init_0 : List zEn := (0, .aload_n 0, 1, 0, 0, [], 0) :: (1, .invokespecial 3, 3, 361, 0, [], 0) :: (4, .aload_n 0, 1, 0, 0, [], 0) :: (5, .bipush 96, 2, 0, 0, [], 96) :: (7, .newarray .int, 2, 0, 0, [], 0) :: (9, .putfield 9, 3, 10, 0, [(0, 2), (0, 362)], 0) :: (12, .aload_n 0, 1, 0, 0, [], 0) :: (13, .iconst 0, 1, 0, 0, [], 0) :: (14, .putfield 15, 3, 10, 1, [(0, 0), (0, 363)], 0) :: (17, .aload_n 0, 1, 0, 0, [], 0) :: (18, .iconst 0, 1, 0, 0, [], 0) :: (19, .putfield 19, 3, 10, 2, [(0, 0), (0, 365)], 0) :: (22, .aload_n 0, 1, 0, 0, [], 0) :: (23, .iconst 0, 1, 0, 0, [], 0) :: (24, .putfield 22, 3, 10, 3, [(0, 0), (0, 366)], 0) :: (27, .aload_n 0, 1, 0, 0, [], 0) :: (28, .iconst 0, 1, 0, 0, [], 0) :: (29, .putfield 25, 3, 10, 4, [(0, 0), (0, 367)], 0) :: (32, .aload_n 0, 1, 0, 0, [], 0) :: (33, .iconst 0, 1, 0, 0, [], 0) :: (34, .putfield 28, 3, 10, 5, [(0, 1), (0, 368)], 0) :: (37, .aload_n 0, 1, 0, 0, [], 0) :: (38, .iconst 0, 1, 0, 0, [], 0) :: (39, .putfield 32, 3, 10, 6, [(0, 0), (0, 369)], 0) :: (42, .aload_n 0, 1, 0, 0, [], 0) :: (43, .iconst 1, 1, 0, 0, [], 1) :: (44, .putfield 35, 3, 10, 7, [(0, 1), (0, 370)], 0) :: (47, .aload_n 0, 1, 0, 0, [], 0) :: (48, .bipush 96, 2, 0, 0, [], 96) :: (50, .newarray .int, 2, 0, 0, [], 0) :: (52, .putfield 38, 3, 10, 8, [(0, 2), (0, 371)], 0) :: (55, .aload_n 0, 1, 0, 0, [], 0) :: (56, .iconst 0, 1, 0, 0, [], 0) :: (57, .putfield 41, 3, 10, 9, [(0, 0), (0, 372)], 0) :: (60, .aload_n 0, 1, 0, 0, [], 0) :: (61, .iconst 0, 1, 0, 0, [], 0) :: (62, .putfield 44, 3, 10, 10, [(0, 0), (0, 373)], 0) :: (65, .aload_n 0, 1, 0, 0, [], 0) :: (66, .iconst 0, 1, 0, 0, [], 0) :: (67, .putfield 47, 3, 10, 11, [(0, 0), (0, 374)], 0) :: (70, .aload_n 0, 1, 0, 0, [], 0) :: (71, .bipush 96, 2, 0, 0, [], 96) :: (73, .newarray .int, 2, 0, 0, [], 0) :: (75, .putfield 50, 3, 10, 12, [(0, 2), (0, 375)], 0) :: (78, .aload_n 0, 1, 0, 0, [], 0) :: (79, .iconst 0, 1, 0, 0, [], 0) :: (80, .putfield 53, 3, 10, 13, [(0, 0), (0, 376)], 0) :: (83, .aload_n 0, 1, 0, 0, [], 0) :: (84, .iconst 0, 1, 0, 0, [], 0) :: (85, .putfield 56, 3, 10, 14, [(0, 0), (0, 377)], 0) :: (88, .return_, 1, 0, 0, [], 0) :: []
set_option maxRecDepth 100000 in
def uX5_init_0 : List zEn := (0, .aload_n 0, 1, 0, 0, [], 0) :: (1, .invokespecial 3, 3, 417, 0, [], 0) :: (4, .aload_n 0, 1, 0, 0, [], 0) :: (5, .iconst (-1), 1, 0, 0, [], (-1)) :: (6, .putfield 9, 3, 5, 0, [(0, 0), (0, 418)], 0) :: (9, .aload_n 0, 1, 0, 0, [], 0) :: (10, .iconst 0, 1, 0, 0, [], 0) :: (11, .putfield 15, 3, 5, 1, [(0, 0), (0, 420)], 0) :: (14, .aload_n 0, 1, 0, 0, [], 0) :: (15, .bipush 24, 2, 0, 0, [], 24) :: (17, .newarray .int, 2, 0, 0, [], 0) :: (19, .putfield 18, 3, 5, 2, [(0, 2), (0, 422)], 0) :: (22, .return_, 1, 0, 0, [], 0) :: []
set_option maxRecDepth 100000 in
def uX7_init_0 : List zEn := (0, .aload_n 0, 1, 0, 0, [], 0) :: (1, .invokespecial 3, 3, 435, 0, [], 0) :: (4, .aload_n 0, 1, 0, 0, [], 0) :: (5, .iconst 0, 1, 0, 0, [], 0) :: (6, .putfield 9, 3, 7, 0, [(0, 0), (0, 440)], 0) :: (9, .aload_n 0, 1, 0, 0, [], 0) :: (10, .iconst 0, 1, 0, 0, [], 0) :: (11, .putfield 15, 3, 7, 1, [(0, 0), (0, 442)], 0) :: (14, .aload_n 0, 1, 0, 0, [], 0) :: (15, .new 18, 3, 3, 11, [(0, 436)], 0) :: (18, .dup, 1, 0, 0, [], 0) :: (19, .invokespecial 20, 3, 4, 1, [(0, 0), (0, 0), (0, 0), (0, 437)], 0) :: (22, .putfield 21, 3, 7, 2, [(0, 2), (0, 444)], 0) :: (25, .aload_n 0, 1, 0, 0, [], 0) :: (26, .new 25, 3, 5, 3, [(0, 438)], 0) :: (29, .dup, 1, 0, 0, [], 0) :: (30, .invokespecial 27, 3, 8, 1, [(0, 0), (0, 1), (0, 24), (0, 439)], 0) :: (33, .putfield 28, 3, 7, 3, [(0, 2), (0, 446)], 0) :: (36, .return_, 1, 0, 0, [], 0) :: []
set_option maxRecDepth 100000 in
def uX11_init_79 : List zEn := (154, .return_, 1, 0, 0, [], 0) :: []
set_option maxRecDepth 100000 in
def uX11_init_67 : List zEn := (130, .iload_n 1, 1, 1, 0, [], 0) :: (131, .iconst 5, 1, 0, 0, [], 5) :: (132, .if_icmp .ge 22, 3, 79, 0, [], 0) :: (135, .aload_n 0, 1, 0, 0, [], 0) :: (136, .getfield 52, 3, 11, 8, [(0, 2), (0, 465)], 0) :: (139, .iload_n 1, 1, 1, 0, [], 0) :: (140, .new 50, 3, 7, 4, [(0, 411)], 0) :: (143, .dup, 1, 0, 0, [], 0) :: (144, .invokespecial 64, 3, 9, 1, [(0, 0), (0, 3), (0, 38), (0, 432)], 0) :: (147, .aastore, 1, 0, 0, [], 0) :: (148, .iinc 1 1, 3, 1, 0, [], 1) :: (151, .goto (-21), 3, 66, 0, [], 0) :: uX11_init_79
set_option maxRecDepth 100000 in
def tX11_init_67 : List zEn := uX11_init_67
set_option maxRecDepth 100000 in
def uX11_init_66 : List zEn := (130, .nop, 0, 0, 0, [], 0) :: tX11_init_67
set_option maxRecDepth 100000 in
def uX11_init_64 : List zEn := (128, .iconst 0, 1, 0, 0, [], 0) :: (129, .istore_n 1, 1, 1, 0, [], 0) :: uX11_init_66
set_option maxRecDepth 100000 in
def uX11_init_52 : List zEn := (104, .iload_n 1, 1, 1, 0, [], 0) :: (105, .iconst 4, 1, 0, 0, [], 4) :: (106, .if_icmp .ge 22, 3, 64, 0, [], 0) :: (109, .aload_n 0, 1, 0, 0, [], 0) :: (110, .getfield 46, 3, 11, 7, [(0, 2), (0, 464)], 0) :: (113, .iload_n 1, 1, 1, 0, [], 0) :: (114, .new 44, 3, 5, 3, [(0, 409)], 0) :: (117, .dup, 1, 0, 0, [], 0) :: (118, .invokespecial 63, 3, 8, 1, [(0, 0), (0, 1), (0, 24), (0, 414)], 0) :: (121, .aastore, 1, 0, 0, [], 0) :: (122, .iinc 1 1, 3, 1, 0, [], 1) :: (125, .goto (-21), 3, 51, 0, [], 0) :: uX11_init_64
set_option maxRecDepth 100000 in
def tX11_init_52 : List zEn := uX11_init_52
set_option maxRecDepth 100000 in
def uX11_init_51 : List zEn := (104, .nop, 0, 0, 0, [], 0) :: tX11_init_52
set_option maxRecDepth 100000 in
def uX11_init_0 : List zEn := (0, .aload_n 0, 1, 0, 0, [], 0) :: (1, .invokespecial 1, 3, 111, 0, [], 0) :: (4, .aload_n 0, 1, 0, 0, [], 0) :: (5, .new 7, 3, 6, 12, [(0, 114)], 0) :: (8, .dup, 1, 0, 0, [], 0) :: (9, .invokespecial 9, 3, 5, 1, [(0, 0), (0, 34), (0, 409), (0, 116)], 0) :: (12, .putfield 10, 3, 11, 0, [(0, 2), (0, 457)], 0) :: (15, .aload_n 0, 1, 0, 0, [], 0) :: (16, .new 7, 3, 6, 12, [(0, 114)], 0) :: (19, .dup, 1, 0, 0, [], 0) :: (20, .invokespecial 9, 3, 5, 1, [(0, 0), (0, 34), (0, 409), (0, 116)], 0) :: (23, .putfield 16, 3, 11, 1, [(0, 2), (0, 458)], 0) :: (26, .aload_n 0, 1, 0, 0, [], 0) :: (27, .new 7, 3, 6, 12, [(0, 114)], 0) :: (30, .dup, 1, 0, 0, [], 0) :: (31, .invokespecial 9, 3, 5, 1, [(0, 0), (0, 34), (0, 409), (0, 116)], 0) :: (34, .putfield 19, 3, 11, 2, [(0, 2), (0, 459)], 0) :: (37, .aload_n 0, 1, 0, 0, [], 0) :: (38, .iconst 0, 1, 0, 0, [], 0) :: (39, .putfield 22, 3, 11, 3, [(0, 1), (0, 460)], 0) :: (42, .aload_n 0, 1, 0, 0, [], 0) :: (43, .new 26, 3, 4, 7, [(0, 323)], 0) :: (46, .dup, 1, 0, 0, [], 0) :: (47, .invokespecial 28, 3, 6, 1, [(0, 0), (0, 6), (0, 74), (0, 325)], 0) :: (50, .putfield 29, 3, 11, 4, [(0, 2), (0, 461)], 0) :: (53, .aload_n 0, 1, 0, 0, [], 0) :: (54, .sipush 256, 3, 0, 0, [], 256) :: (57, .newarray .int, 2, 0, 0, [], 0) :: (59, .putfield 33, 3, 11, 5, [(0, 2), (0, 462)], 0) :: (62, .aload_n 0, 1, 0, 0, [], 0) :: (63, .new 37, 3, 10, 15, [(0, 356)], 0) :: (66, .dup, 1, 0, 0, [], 0) :: (67, .invokespecial 39, 3, 7, 1, [(0, 0), (0, 3), (0, 288), (0, 358)], 0) :: (70, .putfield 40, 3, 11, 6, [(0, 2), (0, 463)], 0) :: (73, .aload_n 0, 1, 0, 0, [], 0) :: (74, .iconst 4, 1, 0, 0, [], 4) :: (75, .anewarray 44, 3, 65, 0, [(0, 409)], 0) :: (78, .putfield 46, 3, 11, 7, [(0, 2), (0, 464)], 0) :: (81, .aload_n 0, 1, 0, 0, [], 0) :: (82, .iconst 5, 1, 0, 0, [], 5) :: (83, .anewarray 50, 3, 67, 0, [(0, 411)], 0) :: (86, .putfield 52, 3, 11, 8, [(0, 2), (0, 465)], 0) :: (89, .aload_n 0, 1, 0, 0, [], 0) :: (90, .bipush 60, 2, 0, 0, [], 60) :: (92, .newarray .int, 2, 0, 0, [], 0) :: (94, .putfield 56, 3, 11, 9, [(0, 2), (0, 466)], 0) :: (97, .aload_n 0, 1, 0, 0, [], 0) :: (98, .iconst 0, 1, 0, 0, [], 0) :: (99, .putfield 59, 3, 11, 10, [(0, 0), (0, 467)], 0) :: (102, .iconst 0, 1, 0, 0, [], 0) :: (103, .istore_n 1, 1, 1, 0, [], 0) :: uX11_init_51
set_option maxRecDepth 100000 in
theorem jX11_init_51 : zj pX11_init 51 = uX11_init_51 := rfl
set_option maxRecDepth 100000 in
theorem jX11_init_64 : zj pX11_init 64 = uX11_init_64 := rfl
set_option maxRecDepth 100000 in
theorem jX11_init_66 : zj pX11_init 66 = uX11_init_66 := rfl
set_option maxRecDepth 100000 in
theorem jX11_init_79 : zj pX11_init 79 = uX11_init_79 := rfl
set_option maxRecDepth 100000 in
def uX12_init_128 : List zEn := (241, .return_, 1, 0, 0, [], 0) :: []
set_option maxRecDepth 100000 in
def uX12_init_118 : List zEn := (223, .iload_n 1, 1, 1, 0, [], 0) :: (224, .iconst 4, 1, 0, 0, [], 4) :: (225, .if_icmp .ge 16, 3, 128, 0, [], 0) :: (228, .aload_n 0, 1, 0, 0, [], 0) :: (229, .getfield 19, 3, 12, 4, [(0, 2), (0, 1254)], 0) :: (232, .iload_n 1, 1, 1, 0, [], 0) :: (233, .iconst (-1), 1, 0, 0, [], (-1)) :: (234, .iastore, 1, 0, 0, [], 0) :: (235, .iinc 1 1, 3, 1, 0, [], 1) :: (238, .goto (-15), 3, 117, 0, [], 0) :: uX12_init_128
set_option maxRecDepth 100000 in
def tX12_init_118 : List zEn := uX12_init_118
set_option maxRecDepth 100000 in
def uX12_init_117 : List zEn := (223, .nop, 0, 0, 0, [], 0) :: tX12_init_118
set_option maxRecDepth 100000 in
def uX12_init_115 : List zEn := (221, .iconst 0, 1, 0, 0, [], 0) :: (222, .istore_n 1, 1, 1, 0, [], 0) :: uX12_init_117
set_option maxRecDepth 100000 in
def uX12_init_103 : List zEn := (199, .iload_n 1, 1, 1, 0, [], 0) :: (200, .bipush 8, 2, 0, 0, [], 8) :: (202, .if_icmp .ge 19, 3, 115, 0, [], 0) :: (205, .aload_n 0, 1, 0, 0, [], 0) :: (206, .getfield 7, 3, 12, 0, [(0, 2), (0, 1250)], 0) :: (209, .bipush 10, 2, 0, 0, [], 10) :: (211, .iload_n 1, 1, 1, 0, [], 0) :: (212, .iadd, 1, 0, 0, [], 0) :: (213, .iconst 1, 1, 0, 0, [], 1) :: (214, .iastore, 1, 0, 0, [], 0) :: (215, .iinc 1 1, 3, 1, 0, [], 1) :: (218, .goto (-19), 3, 102, 0, [], 0) :: uX12_init_115
set_option maxRecDepth 100000 in
def tX12_init_103 : List zEn := uX12_init_103
set_option maxRecDepth 100000 in
def uX12_init_102 : List zEn := (199, .nop, 0, 0, 0, [], 0) :: tX12_init_103
set_option maxRecDepth 100000 in
def uX12_init_0 : List zEn := (0, .aload_n 0, 1, 0, 0, [], 0) :: (1, .invokespecial 1, 3, 1249, 0, [], 0) :: (4, .aload_n 0, 1, 0, 0, [], 0) :: (5, .sipush 3332, 3, 0, 0, [], 3332) :: (8, .newarray .int, 2, 0, 0, [], 0) :: (10, .putfield 7, 3, 12, 0, [(0, 2), (0, 1250)], 0) :: (13, .aload_n 0, 1, 0, 0, [], 0) :: (14, .sipush 3332, 3, 0, 0, [], 3332) :: (17, .newarray .int, 2, 0, 0, [], 0) :: (19, .putfield 13, 3, 12, 1, [(0, 2), (0, 1251)], 0) :: (22, .aload_n 0, 1, 0, 0, [], 0) :: (23, .sipush 3332, 3, 0, 0, [], 3332) :: (26, .newarray .int, 2, 0, 0, [], 0) :: (28, .putfield 16, 3, 12, 2, [(0, 2), (0, 1252)], 0) :: (31, .aload_n 0, 1, 0, 0, [], 0) :: (32, .iconst 4, 1, 0, 0, [], 4) :: (33, .newarray .int, 2, 0, 0, [], 0) :: (35, .putfield 19, 3, 12, 4, [(0, 2), (0, 1254)], 0) :: (38, .aload_n 0, 1, 0, 0, [], 0) :: (39, .iconst 4, 1, 0, 0, [], 4) :: (40, .newarray .int, 2, 0, 0, [], 0) :: (42, .putfield 22, 3, 12, 5, [(0, 2), (0, 1255)], 0) :: (45, .aload_n 0, 1, 0, 0, [], 0) :: (46, .bipush 96, 2, 0, 0, [], 96) :: (48, .newarray .int, 2, 0, 0, [], 0) :: (50, .putfield 25, 3, 12, 6, [(0, 2), (0, 1256)], 0) :: (53, .aload_n 0, 1, 0, 0, [], 0) :: (54, .iconst 5, 1, 0, 0, [], 5) :: (55, .newarray .int, 2, 0, 0, [], 0) :: (57, .putfield 28, 3, 12, 7, [(0, 2), (0, 1257)], 0) :: (60, .aload_n 0, 1, 0, 0, [], 0) :: (61, .iconst 5, 1, 0, 0, [], 5) :: (62, .newarray .int, 2, 0, 0, [], 0) :: (64, .putfield 31, 3, 12, 8, [(0, 2), (0, 1258)], 0) :: (67, .aload_n 0, 1, 0, 0, [], 0) :: (68, .iconst 5, 1, 0, 0, [], 5) :: (69, .newarray .int, 2, 0, 0, [], 0) :: (71, .putfield 34, 3, 12, 9, [(0, 2), (0, 1259)], 0) :: (74, .aload_n 0, 1, 0, 0, [], 0) :: (75, .iconst 5, 1, 0, 0, [], 5) :: (76, .newarray .int, 2, 0, 0, [], 0) :: (78, .putfield 37, 3, 12, 10, [(0, 2), (0, 1260)], 0) :: (81, .aload_n 0, 1, 0, 0, [], 0) :: (82, .bipush 120, 2, 0, 0, [], 120) :: (84, .newarray .int, 2, 0, 0, [], 0) :: (86, .putfield 40, 3, 12, 11, [(0, 2), (0, 1261)], 0) :: (89, .aload_n 0, 1, 0, 0, [], 0) :: (90, .bipush 48, 2, 0, 0, [], 48) :: (92, .newarray .int, 2, 0, 0, [], 0) :: (94, .putfield 43, 3, 12, 12, [(0, 2), (0, 1262)], 0) :: (97, .aload_n 0, 1, 0, 0, [], 0) :: (98, .bipush 16, 2, 0, 0, [], 16) :: (100, .newarray .int, 2, 0, 0, [], 0) :: (102, .putfield 46, 3, 12, 13, [(0, 2), (0, 1263)], 0) :: (105, .aload_n 0, 1, 0, 0, [], 0) :: (106, .bipush 6, 2, 0, 0, [], 6) :: (108, .newarray .int, 2, 0, 0, [], 0) :: (110, .putfield 49, 3, 12, 14, [(0, 2), (0, 1264)], 0) :: (113, .aload_n 0, 1, 0, 0, [], 0) :: (114, .bipush 6, 2, 0, 0, [], 6) :: (116, .newarray .int, 2, 0, 0, [], 0) :: (118, .putfield 52, 3, 12, 16, [(0, 2), (0, 1266)], 0) :: (121, .aload_n 0, 1, 0, 0, [], 0) :: (122, .bipush 96, 2, 0, 0, [], 96) :: (124, .newarray .int, 2, 0, 0, [], 0) :: (126, .putfield 55, 3, 12, 18, [(0, 2), (0, 1268)], 0) :: (129, .aload_n 0, 1, 0, 0, [], 0) :: (130, .sipush 128, 3, 0, 0, [], 128) :: (133, .newarray .int, 2, 0, 0, [], 0) :: (135, .putfield 58, 3, 12, 30, [(0, 2), (0, 1280)], 0) :: (138, .aload_n 0, 1, 0, 0, [], 0) :: (139, .bipush 100, 2, 0, 0, [], 100) :: (141, .newarray .int, 2, 0, 0, [], 0) :: (143, .putfield 61, 3, 12, 31, [(0, 2), (0, 1281)], 0) :: (146, .aload_n 0, 1, 0, 0, [], 0) :: (147, .sipush 256, 3, 0, 0, [], 256) :: (150, .newarray .int, 2, 0, 0, [], 0) :: (152, .putfield 64, 3, 12, 32, [(0, 2), (0, 1282)], 0) :: (155, .aload_n 0, 1, 0, 0, [], 0) :: (156, .bipush 24, 2, 0, 0, [], 24) :: (158, .newarray .int, 2, 0, 0, [], 0) :: (160, .putfield 67, 3, 12, 33, [(0, 2), (0, 1283)], 0) :: (163, .aload_n 0, 1, 0, 0, [], 0) :: (164, .bipush 60, 2, 0, 0, [], 60) :: (166, .newarray .int, 2, 0, 0, [], 0) :: (168, .putfield 70, 3, 12, 34, [(0, 2), (0, 1284)], 0) :: (171, .aload_n 0, 1, 0, 0, [], 0) :: (172, .bipush 60, 2, 0, 0, [], 60) :: (174, .newarray .int, 2, 0, 0, [], 0) :: (176, .putfield 73, 3, 12, 36, [(0, 2), (0, 1286)], 0) :: (179, .aload_n 0, 1, 0, 0, [], 0) :: (180, .getfield 7, 3, 12, 0, [(0, 2), (0, 1250)], 0) :: (183, .bipush 8, 2, 0, 0, [], 8) :: (185, .iconst 1, 1, 0, 0, [], 1) :: (186, .iastore, 1, 0, 0, [], 0) :: (187, .aload_n 0, 1, 0, 0, [], 0) :: (188, .getfield 7, 3, 12, 0, [(0, 2), (0, 1250)], 0) :: (191, .bipush 9, 2, 0, 0, [], 9) :: (193, .sipush 255, 3, 0, 0, [], 255) :: (196, .iastore, 1, 0, 0, [], 0) :: (197, .iconst 0, 1, 0, 0, [], 0) :: (198, .istore_n 1, 1, 1, 0, [], 0) :: uX12_init_102
set_option maxRecDepth 100000 in
theorem jX12_init_102 : zj pX12_init 102 = uX12_init_102 := rfl
set_option maxRecDepth 100000 in
theorem jX12_init_115 : zj pX12_init 115 = uX12_init_115 := rfl
set_option maxRecDepth 100000 in
theorem jX12_init_117 : zj pX12_init 117 = uX12_init_117 := rfl
set_option maxRecDepth 100000 in
theorem jX12_init_128 : zj pX12_init 128 = uX12_init_128 := rfl
set_option maxRecDepth 100000 in
def uX11_within_9 : List zEn := (15, .ireturn, 1, 1, 0, [], 0) :: []
set_option maxRecDepth 100000 in
def uX11_within_8 : List zEn := (14, .iconst 0, 1, 0, 0, [], 0) :: uX11_within_9
set_option maxRecDepth 100000 in
def uX11_within_0 : List zEn := (0, .iload_n 1, 1, 1, 0, [], 0) :: (1, .iload_n 0, 1, 0, 0, [], 0) :: (2, .if_icmp .gt 12, 3, 8, 0, [], 0) :: (5, .iload_n 0, 1, 0, 0, [], 0) :: (6, .iload_n 2, 1, 2, 0, [], 0) :: (7, .if_icmp .gt 7, 3, 8, 0, [], 0) :: (10, .iconst 1, 1, 0, 0, [], 1) :: (11, .goto 4, 3, 9, 0, [], 0) :: uX11_within_8
set_option maxRecDepth 100000 in
theorem jX11_within_8 : zj pX11_within 8 = uX11_within_8 := rfl
set_option maxRecDepth 100000 in
theorem jX11_within_9 : zj pX11_within 9 = uX11_within_9 := rfl
set_option maxRecDepth 100000 in
def uX6_addModel_0 : List zEn := (0, .aload_n 0, 1, 0, 0, [], 0) :: (1, .getfield 11, 3, 6, 0, [(0, 2), (0, 270)], 0) :: (4, .aload_n 0, 1, 0, 0, [], 0) :: (5, .getfield 17, 3, 6, 1, [(0, 0), (0, 272)], 0) :: (8, .aaload, 1, 0, 0, [], 0) :: (9, .astore 4, 2, 4, 0, [], 0) :: (11, .aload 4, 2, 4, 0, [], 0) :: (13, .iload_n 1, 1, 1, 0, [], 0) :: (14, .putfield 91, 3, 2, 0, [(0, 0), (0, 193)], 0) :: (17, .aload 4, 2, 4, 0, [], 0) :: (19, .iload_n 2, 1, 2, 0, [], 0) :: (20, .putfield 94, 3, 2, 1, [(0, 0), (0, 195)], 0) :: (23, .aload 4, 2, 4, 0, [], 0) :: (25, .iload_n 3, 1, 3, 0, [], 0) :: (26, .putfield 97, 3, 2, 2, [(0, 0), (0, 197)], 0) :: (29, .aload_n 0, 1, 0, 0, [], 0) :: (30, .dup, 1, 0, 0, [], 0) :: (31, .getfield 17, 3, 6, 1, [(0, 0), (0, 272)], 0) :: (34, .iconst 1, 1, 0, 0, [], 1) :: (35, .iadd, 1, 0, 0, [], 0) :: (36, .putfield 17, 3, 6, 1, [(0, 0), (0, 272)], 0) :: (39, .aload_n 0, 1, 0, 0, [], 0) :: (40, .getfield 17, 3, 6, 1, [(0, 0), (0, 272)], 0) :: (43, .iconst 1, 1, 0, 0, [], 1) :: (44, .isub, 1, 0, 0, [], 0) :: (45, .ireturn, 1, 0, 0, [], 0) :: []
set_option maxRecDepth 100000 in
def uX11_model_19 : List zEn := (41, .aload_n 0, 1, 0, 0, [], 0) :: (42, .getfield 10, 3, 11, 0, [(0, 2), (0, 457)], 0) :: (45, .iload_n 1, 1, 1, 0, [], 0) :: (46, .bipush 10, 2, 0, 0, [], 10) :: (48, .idiv, 1, 0, 0, [], 0) :: (49, .iload_n 1, 1, 1, 0, [], 0) :: (50, .bipush 10, 2, 0, 0, [], 10) :: (52, .irem, 1, 0, 0, [], 0) :: (53, .iload_n 2, 1, 2, 0, [], 0) :: (54, .invokevirtual 77, 3, 13, 4, [(0, 1), (0, 0), (0, 0), (0, 6), (0, 500)], 0) :: (57, .ireturn, 1, 0, 0, [], 0) :: []
set_option maxRecDepth 100000 in
def uX11_model_12 : List zEn := (26, .aload_n 0, 1, 0, 0, [], 0) :: (27, .getfield 10, 3, 11, 0, [(0, 2), (0, 457)], 0) :: (30, .getfield 65, 3, 6, 1, [(0, 0), (0, 273)], 0) :: (33, .bipush 6, 2, 0, 0, [], 6) :: (35, .if_icmp .lt 6, 3, 19, 0, [], 0) :: (38, .ldc 76, 2, 0, 0, [(0, 499)], (-1000000003)) :: (40, .ireturn, 1, 0, 0, [], 0) :: uX11_model_19
set_option maxRecDepth 100000 in
def uX11_model_10 : List zEn := (23, .ldc 75, 2, 0, 0, [(0, 498)], (-1000000001)) :: (25, .ireturn, 1, 0, 0, [], 0) :: uX11_model_12
set_option maxRecDepth 100000 in
def uX11_model_0 : List zEn := (0, .iload_n 1, 1, 1, 0, [], 0) :: (1, .bipush 10, 2, 0, 0, [], 10) :: (3, .sipush 9999, 3, 0, 0, [], 9999) :: (6, .invokestatic 68, 3, 12, 3, [(0, 1), (0, 0), (0, 0), (0, 495)], 0) :: (9, .ifCond .eq 14, 3, 10, 0, [], 0) :: (12, .iload_n 2, 1, 2, 0, [], 0) :: (13, .iconst 0, 1, 0, 0, [], 0) :: (14, .sipush 255, 3, 0, 0, [], 255) :: (17, .invokestatic 68, 3, 12, 3, [(0, 1), (0, 0), (0, 0), (0, 495)], 0) :: (20, .ifCond .ne 6, 3, 12, 0, [], 0) :: uX11_model_10
set_option maxRecDepth 100000 in
theorem jX11_model_10 : zj pX11_model 10 = uX11_model_10 := rfl
set_option maxRecDepth 100000 in
theorem jX11_model_12 : zj pX11_model 12 = uX11_model_12 := rfl
set_option maxRecDepth 100000 in
theorem jX11_model_19 : zj pX11_model 19 = uX11_model_19 := rfl
set_option maxRecDepth 100000 in
def uX12_isIn_11 : List zEn := (18, .ireturn, 1, 1, 0, [], 0) :: []
set_option maxRecDepth 100000 in
def uX12_isIn_10 : List zEn := (17, .iconst 0, 1, 0, 0, [], 0) :: uX12_isIn_11
set_option maxRecDepth 100000 in
def uX12_isIn_0 : List zEn := (0, .lload_n 0, 1, 0, 0, [], 0) :: (1, .lload_n 2, 1, 2, 0, [], 0) :: (2, .lcmp, 1, 0, 0, [], 0) :: (3, .ifCond .lt 14, 3, 10, 0, [], 0) :: (6, .lload_n 0, 1, 0, 0, [], 0) :: (7, .lload 4, 2, 4, 0, [], 0) :: (9, .lcmp, 1, 0, 0, [], 0) :: (10, .ifCond .gt 7, 3, 10, 0, [], 0) :: (13, .iconst 1, 1, 0, 0, [], 1) :: (14, .goto 4, 3, 11, 0, [], 0) :: uX12_isIn_10
set_option maxRecDepth 100000 in
theorem jX12_isIn_10 : zj pX12_isIn 10 = uX12_isIn_10 := rfl
set_option maxRecDepth 100000 in
theorem jX12_isIn_11 : zj pX12_isIn 11 = uX12_isIn_11 := rfl
set_option maxRecDepth 100000 in
def uX12_modelAt_0 : List zEn := (0, .bipush 40, 2, 0, 0, [], 40) :: (2, .iconst 3, 1, 0, 0, [], 3) :: (3, .iload_n 1, 1, 1, 0, [], 0) :: (4, .imul, 1, 0, 0, [], 0) :: (5, .iadd, 1, 0, 0, [], 0) :: (6, .ireturn, 1, 0, 0, [], 0) :: []
set_option maxRecDepth 100000 in
def uX12_model_22 : List zEn := (43, .aload_n 0, 1, 0, 0, [], 0) :: (44, .aload_n 0, 1, 0, 0, [], 0) :: (45, .getfield 7, 3, 12, 0, [(0, 2), (0, 1250)], 0) :: (48, .iconst 0, 1, 0, 0, [], 0) :: (49, .iaload, 1, 0, 0, [], 0) :: (50, .invokevirtual 89, 3, 16, 2, [(0, 1), (0, 0), (0, 0), (0, 12), (0, 1374)], 0) :: (53, .istore_n 3, 1, 3, 0, [], 0) :: (54, .aload_n 0, 1, 0, 0, [], 0) :: (55, .getfield 7, 3, 12, 0, [(0, 2), (0, 1250)], 0) :: (58, .iload_n 3, 1, 3, 0, [], 0) :: (59, .iload_n 1, 1, 1, 0, [], 0) :: (60, .bipush 10, 2, 0, 0, [], 10) :: (62, .idiv, 1, 0, 0, [], 0) :: (63, .iastore, 1, 0, 0, [], 0) :: (64, .aload_n 0, 1, 0, 0, [], 0) :: (65, .getfield 7, 3, 12, 0, [(0, 2), (0, 1250)], 0) :: (68, .iload_n 3, 1, 3, 0, [], 0) :: (69, .iconst 1, 1, 0, 0, [], 1) :: (70, .iadd, 1, 0, 0, [], 0) :: (71, .iload_n 1, 1, 1, 0, [], 0) :: (72, .bipush 10, 2, 0, 0, [], 10) :: (74, .irem, 1, 0, 0, [], 0) :: (75, .iastore, 1, 0, 0, [], 0) :: (76, .aload_n 0, 1, 0, 0, [], 0) :: (77, .getfield 7, 3, 12, 0, [(0, 2), (0, 1250)], 0) :: (80, .iload_n 3, 1, 3, 0, [], 0) :: (81, .iconst 2, 1, 0, 0, [], 2) :: (82, .iadd, 1, 0, 0, [], 0) :: (83, .iload_n 2, 1, 2, 0, [], 0) :: (84, .iastore, 1, 0, 0, [], 0) :: (85, .aload_n 0, 1, 0, 0, [], 0) :: (86, .getfield 7, 3, 12, 0, [(0, 2), (0, 1250)], 0) :: (89, .iconst 0, 1, 0, 0, [], 0) :: (90, .dup2, 1, 0, 0, [], 0) :: (91, .iaload, 1, 0, 0, [], 0) :: (92, .iconst 1, 1, 0, 0, [], 1) :: (93, .iadd, 1, 0, 0, [], 0) :: (94, .iastore, 1, 0, 0, [], 0) :: (95, .aload_n 0, 1, 0, 0, [], 0) :: (96, .getfield 7, 3, 12, 0, [(0, 2), (0, 1250)], 0) :: (99, .iconst 0, 1, 0, 0, [], 0) :: (100, .iaload, 1, 0, 0, [], 0) :: (101, .iconst 1, 1, 0, 0, [], 1) :: (102, .isub, 1, 0, 0, [], 0) :: (103, .ireturn, 1, 0, 0, [], 0) :: []
set_option maxRecDepth 100000 in
def uX12_model_14 : List zEn := (29, .aload_n 0, 1, 0, 0, [], 0) :: (30, .getfield 7, 3, 12, 0, [(0, 2), (0, 1250)], 0) :: (33, .iconst 0, 1, 0, 0, [], 0) :: (34, .iaload, 1, 0, 0, [], 0) :: (35, .bipush 6, 2, 0, 0, [], 6) :: (37, .if_icmp .ne 6, 3, 22, 0, [], 0) :: (40, .ldc 88, 2, 0, 0, [(0, 1373)], (-1000000003)) :: (42, .ireturn, 1, 0, 0, [], 0) :: uX12_model_22
set_option maxRecDepth 100000 in
def uX12_model_12 : List zEn := (26, .ldc 87, 2, 0, 0, [(0, 1372)], (-1000000001)) :: (28, .ireturn, 1, 0, 0, [], 0) :: uX12_model_14
set_option maxRecDepth 100000 in
def uX12_model_0 : List zEn := (0, .iload_n 1, 1, 1, 0, [], 0) :: (1, .i2l, 1, 0, 0, [], 0) :: (2, .ldc2_w 81, 3, 0, 0, [(0, 1366)], 10) :: (5, .ldc2_w 83, 3, 0, 0, [(0, 1367)], 9999) :: (8, .invokestatic 77, 3, 15, 3, [(0, 1), (0, 0), (0, 0), (0, 1368)], 0) :: (11, .ifCond .eq 15, 3, 12, 0, [], 0) :: (14, .iload_n 2, 1, 2, 0, [], 0) :: (15, .i2l, 1, 0, 0, [], 0) :: (16, .lconst 0, 1, 0, 0, [], 0) :: (17, .ldc2_w 85, 3, 0, 0, [(0, 1371)], 255) :: (20, .invokestatic 77, 3, 15, 3, [(0, 1), (0, 0), (0, 0), (0, 1368)], 0) :: (23, .ifCond .ne 6, 3, 14, 0, [], 0) :: uX12_model_12
set_option maxRecDepth 100000 in
theorem jX12_model_12 : zj pX12_model 12 = uX12_model_12 := rfl
set_option maxRecDepth 100000 in
theorem jX12_model_14 : zj pX12_model 14 = uX12_model_14 := rfl
set_option maxRecDepth 100000 in
theorem jX12_model_22 : zj pX12_model 22 = uX12_model_22 := rfl
set_option maxRecDepth 100000 in
def uX11_isModel_0 : List zEn := (0, .iload_n 1, 1, 1, 0, [], 0) :: (1, .iconst 0, 1, 0, 0, [], 0) :: (2, .aload_n 0, 1, 0, 0, [], 0) :: (3, .getfield 10, 3, 11, 0, [(0, 2), (0, 457)], 0) :: (6, .getfield 65, 3, 6, 1, [(0, 0), (0, 273)], 0) :: (9, .iconst 1, 1, 0, 0, [], 1) :: (10, .isub, 1, 0, 0, [], 0) :: (11, .invokestatic 68, 3, 12, 3, [(0, 1), (0, 0), (0, 0), (0, 495)], 0) :: (14, .ireturn, 1, 1, 0, [], 0) :: []
set_option maxRecDepth 100000 in
def uJ9_max_7cf53_6 : List zEn := (10, .ireturn, 1, 0, 0, [], 0) :: []
set_option maxRecDepth 100000 in
def uJ9_max_7cf53_5 : List zEn := (9, .iload_n 1, 1, 1, 0, [], 0) :: uJ9_max_7cf53_6
set_option maxRecDepth 100000 in
def uJ9_max_7cf53_0 : List zEn := (0, .iload_n 0, 1, 0, 0, [], 0) :: (1, .iload_n 1, 1, 1, 0, [], 0) :: (2, .if_icmp .lt 7, 3, 5, 0, [], 0) :: (5, .iload_n 0, 1, 0, 0, [], 0) :: (6, .goto 4, 3, 6, 0, [], 0) :: uJ9_max_7cf53_5
set_option maxRecDepth 100000 in
theorem jJ9_max_7cf53_5 : zj pJ9_max_7cf53 5 = uJ9_max_7cf53_5 := rfl
set_option maxRecDepth 100000 in
theorem jJ9_max_7cf53_6 : zj pJ9_max_7cf53 6 = uJ9_max_7cf53_6 := rfl
set_option maxRecDepth 100000 in
def uX2_askedOn_0 : List zEn := (0, .iconst 1, 1, 0, 0, [], 1) :: (1, .aload_n 0, 1, 0, 0, [], 0) :: (2, .getfield 7, 3, 2, 0, [(0, 0), (0, 192)], 0) :: (5, .aload_n 0, 1, 0, 0, [], 0) :: (6, .getfield 13, 3, 2, 1, [(0, 0), (0, 194)], 0) :: (9, .iload_n 1, 1, 1, 0, [], 0) :: (10, .imul, 1, 0, 0, [], 0) :: (11, .isub, 1, 0, 0, [], 0) :: (12, .invokestatic 19, 3, 19, 2, [(0, 1), (0, 0), (0, 0), (0, 516)], 0) :: (15, .ireturn, 1, 0, 0, [], 0) :: []
set_option maxRecDepth 100000 in
def uX11_asked_11 : List zEn := (22, .aload_n 0, 1, 0, 0, [], 0) :: (23, .getfield 10, 3, 11, 0, [(0, 2), (0, 457)], 0) :: (26, .getfield 85, 3, 6, 0, [(0, 2), (0, 271)], 0) :: (29, .iload_n 1, 1, 1, 0, [], 0) :: (30, .aaload, 1, 0, 0, [], 0) :: (31, .iload_n 2, 1, 2, 0, [], 0) :: (32, .invokevirtual 89, 3, 20, 2, [(0, 1), (0, 0), (0, 0), (0, 2), (0, 512)], 0) :: (35, .ireturn, 1, 0, 0, [], 0) :: []
set_option maxRecDepth 100000 in
def uX11_asked_9 : List zEn := (19, .ldc 75, 2, 0, 0, [(0, 498)], (-1000000001)) :: (21, .ireturn, 1, 0, 0, [], 0) :: uX11_asked_11
set_option maxRecDepth 100000 in
def uX11_asked_0 : List zEn := (0, .aload_n 0, 1, 0, 0, [], 0) :: (1, .iload_n 1, 1, 1, 0, [], 0) :: (2, .invokevirtual 81, 3, 18, 2, [(0, 1), (0, 0), (0, 0), (0, 11), (0, 508)], 0) :: (5, .ifCond .eq 14, 3, 9, 0, [], 0) :: (8, .iload_n 2, 1, 2, 0, [], 0) :: (9, .iconst 0, 1, 0, 0, [], 0) :: (10, .sipush 999, 3, 0, 0, [], 999) :: (13, .invokestatic 68, 3, 12, 3, [(0, 1), (0, 0), (0, 0), (0, 495)], 0) :: (16, .ifCond .ne 6, 3, 11, 0, [], 0) :: uX11_asked_9
set_option maxRecDepth 100000 in
theorem jX11_asked_9 : zj pX11_asked 9 = uX11_asked_9 := rfl
set_option maxRecDepth 100000 in
theorem jX11_asked_11 : zj pX11_asked 11 = uX11_asked_11 := rfl
set_option maxRecDepth 100000 in
def uX12_isModel_0 : List zEn := (0, .iload_n 1, 1, 1, 0, [], 0) :: (1, .i2l, 1, 0, 0, [], 0) :: (2, .lconst 0, 1, 0, 0, [], 0) :: (3, .aload_n 0, 1, 0, 0, [], 0) :: (4, .getfield 7, 3, 12, 0, [(0, 2), (0, 1250)], 0) :: (7, .iconst 0, 1, 0, 0, [], 0) :: (8, .iaload, 1, 0, 0, [], 0) :: (9, .iconst 1, 1, 0, 0, [], 1) :: (10, .isub, 1, 0, 0, [], 0) :: (11, .i2l, 1, 0, 0, [], 0) :: (12, .invokestatic 77, 3, 15, 3, [(0, 1), (0, 0), (0, 0), (0, 1368)], 0) :: (15, .ireturn, 1, 1, 0, [], 0) :: []
set_option maxRecDepth 100000 in
def uX12_askedFor_24 : List zEn := (36, .ireturn, 1, 0, 0, [], 0) :: []
set_option maxRecDepth 100000 in
def uX12_askedFor_23 : List zEn := (35, .iload_n 3, 1, 3, 0, [], 0) :: uX12_askedFor_24
set_option maxRecDepth 100000 in
def uX12_askedFor_0 : List zEn := (0, .aload_n 0, 1, 0, 0, [], 0) :: (1, .getfield 7, 3, 12, 0, [(0, 2), (0, 1250)], 0) :: (4, .aload_n 0, 1, 0, 0, [], 0) :: (5, .iload_n 1, 1, 1, 0, [], 0) :: (6, .invokevirtual 89, 3, 16, 2, [(0, 1), (0, 0), (0, 0), (0, 12), (0, 1374)], 0) :: (9, .iaload, 1, 0, 0, [], 0) :: (10, .aload_n 0, 1, 0, 0, [], 0) :: (11, .getfield 7, 3, 12, 0, [(0, 2), (0, 1250)], 0) :: (14, .aload_n 0, 1, 0, 0, [], 0) :: (15, .iload_n 1, 1, 1, 0, [], 0) :: (16, .invokevirtual 89, 3, 16, 2, [(0, 1), (0, 0), (0, 0), (0, 12), (0, 1374)], 0) :: (19, .iconst 1, 1, 0, 0, [], 1) :: (20, .iadd, 1, 0, 0, [], 0) :: (21, .iaload, 1, 0, 0, [], 0) :: (22, .iload_n 2, 1, 2, 0, [], 0) :: (23, .imul, 1, 0, 0, [], 0) :: (24, .isub, 1, 0, 0, [], 0) :: (25, .istore_n 3, 1, 3, 0, [], 0) :: (26, .iload_n 3, 1, 3, 0, [], 0) :: (27, .iconst 1, 1, 0, 0, [], 1) :: (28, .if_icmp .ge 7, 3, 23, 0, [], 0) :: (31, .iconst 1, 1, 0, 0, [], 1) :: (32, .goto 4, 3, 24, 0, [], 0) :: uX12_askedFor_23
set_option maxRecDepth 100000 in
theorem jX12_askedFor_23 : zj pX12_askedFor 23 = uX12_askedFor_23 := rfl
set_option maxRecDepth 100000 in
theorem jX12_askedFor_24 : zj pX12_askedFor 24 = uX12_askedFor_24 := rfl
set_option maxRecDepth 100000 in
def uX12_asked_16 : List zEn := (31, .ireturn, 1, 0, 0, [], 0) :: []
set_option maxRecDepth 100000 in
def uX12_asked_15 : List zEn := (29, .ldc 87, 2, 0, 0, [(0, 1372)], (-1000000001)) :: uX12_asked_16
set_option maxRecDepth 100000 in
def uX12_asked_0 : List zEn := (0, .aload_n 0, 1, 0, 0, [], 0) :: (1, .iload_n 1, 1, 1, 0, [], 0) :: (2, .invokevirtual 93, 3, 22, 2, [(0, 1), (0, 0), (0, 0), (0, 12), (0, 1382)], 0) :: (5, .ifCond .eq 24, 3, 15, 0, [], 0) :: (8, .iload_n 2, 1, 2, 0, [], 0) :: (9, .i2l, 1, 0, 0, [], 0) :: (10, .lconst 0, 1, 0, 0, [], 0) :: (11, .ldc2_w 97, 3, 0, 0, [(0, 1386)], 999) :: (14, .invokestatic 77, 3, 15, 3, [(0, 1), (0, 0), (0, 0), (0, 1368)], 0) :: (17, .ifCond .eq 12, 3, 15, 0, [], 0) :: (20, .aload_n 0, 1, 0, 0, [], 0) :: (21, .iload_n 1, 1, 1, 0, [], 0) :: (22, .iload_n 2, 1, 2, 0, [], 0) :: (23, .invokevirtual 99, 3, 23, 3, [(0, 1), (0, 0), (0, 0), (0, 12), (0, 1387)], 0) :: (26, .goto 5, 3, 16, 0, [], 0) :: uX12_asked_15
set_option maxRecDepth 100000 in
theorem jX12_asked_15 : zj pX12_asked 15 = uX12_asked_15 := rfl
set_option maxRecDepth 100000 in
theorem jX12_asked_16 : zj pX12_asked 16 = uX12_asked_16 := rfl
set_option maxRecDepth 100000 in
def uX11_common_7 : List zEn := (14, .aload_n 0, 1, 0, 0, [], 0) :: (15, .getfield 10, 3, 11, 0, [(0, 2), (0, 457)], 0) :: (18, .getfield 95, 3, 6, 2, [(0, 2), (0, 276)], 0) :: (21, .getfield 99, 3, 8, 1, [(0, 0), (0, 130)], 0) :: (24, .istore_n 2, 1, 2, 0, [], 0) :: (25, .aload_n 0, 1, 0, 0, [], 0) :: (26, .getfield 10, 3, 11, 0, [(0, 2), (0, 457)], 0) :: (29, .getfield 95, 3, 6, 2, [(0, 2), (0, 276)], 0) :: (32, .iload_n 1, 1, 1, 0, [], 0) :: (33, .putfield 99, 3, 8, 1, [(0, 0), (0, 130)], 0) :: (36, .iload_n 2, 1, 2, 0, [], 0) :: (37, .ireturn, 1, 0, 0, [], 0) :: []
set_option maxRecDepth 100000 in
def uX11_common_0 : List zEn := (0, .iload_n 1, 1, 1, 0, [], 0) :: (1, .iconst 0, 1, 0, 0, [], 0) :: (2, .sipush 255, 3, 0, 0, [], 255) :: (5, .invokestatic 68, 3, 12, 3, [(0, 1), (0, 0), (0, 0), (0, 495)], 0) :: (8, .ifCond .ne 6, 3, 7, 0, [], 0) :: (11, .ldc 75, 2, 0, 0, [(0, 498)], (-1000000001)) :: (13, .ireturn, 1, 0, 0, [], 0) :: uX11_common_7
set_option maxRecDepth 100000 in
theorem jX11_common_7 : zj pX11_common 7 = uX11_common_7 := rfl
set_option maxRecDepth 100000 in
def uX12_becomes_0 : List zEn := (0, .aload_n 0, 1, 0, 0, [], 0) :: (1, .getfield 7, 3, 12, 0, [(0, 2), (0, 1250)], 0) :: (4, .iload_n 1, 1, 1, 0, [], 0) :: (5, .iaload, 1, 0, 0, [], 0) :: (6, .istore_n 3, 1, 3, 0, [], 0) :: (7, .aload_n 0, 1, 0, 0, [], 0) :: (8, .getfield 7, 3, 12, 0, [(0, 2), (0, 1250)], 0) :: (11, .iload_n 1, 1, 1, 0, [], 0) :: (12, .iload_n 2, 1, 2, 0, [], 0) :: (13, .iastore, 1, 0, 0, [], 0) :: (14, .iload_n 3, 1, 3, 0, [], 0) :: (15, .ireturn, 1, 0, 0, [], 0) :: []
set_option maxRecDepth 100000 in
def uX12_common_12 : List zEn := (23, .ireturn, 1, 0, 0, [], 0) :: []
set_option maxRecDepth 100000 in
def uX12_common_11 : List zEn := (21, .ldc 87, 2, 0, 0, [(0, 1372)], (-1000000001)) :: uX12_common_12
set_option maxRecDepth 100000 in
def uX12_common_0 : List zEn := (0, .iload_n 1, 1, 1, 0, [], 0) :: (1, .i2l, 1, 0, 0, [], 0) :: (2, .lconst 0, 1, 0, 0, [], 0) :: (3, .ldc2_w 85, 3, 0, 0, [(0, 1371)], 255) :: (6, .invokestatic 77, 3, 15, 3, [(0, 1), (0, 0), (0, 0), (0, 1368)], 0) :: (9, .ifCond .eq 12, 3, 11, 0, [], 0) :: (12, .aload_n 0, 1, 0, 0, [], 0) :: (13, .iconst 5, 1, 0, 0, [], 5) :: (14, .iload_n 1, 1, 1, 0, [], 0) :: (15, .invokevirtual 103, 3, 26, 3, [(0, 1), (0, 0), (0, 0), (0, 12), (0, 1395)], 0) :: (18, .goto 5, 3, 12, 0, [], 0) :: uX12_common_11
set_option maxRecDepth 100000 in
theorem jX12_common_11 : zj pX12_common 11 = uX12_common_11 := rfl
set_option maxRecDepth 100000 in
theorem jX12_common_12 : zj pX12_common 12 = uX12_common_12 := rfl
set_option maxRecDepth 100000 in
def uX11_isSort_0 : List zEn := (0, .iload_n 0, 1, 0, 0, [], 0) :: (1, .iconst 0, 1, 0, 0, [], 0) :: (2, .bipush 7, 2, 0, 0, [], 7) :: (4, .invokestatic 68, 3, 12, 3, [(0, 1), (0, 0), (0, 0), (0, 495)], 0) :: (7, .ireturn, 1, 1, 0, [], 0) :: []
set_option maxRecDepth 100000 in
def uX8_cell_15 : List zEn := (22, .ireturn, 1, 0, 0, [], 0) :: []
set_option maxRecDepth 100000 in
def uX8_cell_10 : List zEn := (16, .iload_n 1, 1, 1, 0, [], 0) :: (17, .bipush 8, 2, 0, 0, [], 8) :: (19, .imul, 1, 0, 0, [], 0) :: (20, .iload_n 2, 1, 2, 0, [], 0) :: (21, .iadd, 1, 0, 0, [], 0) :: uX8_cell_15
set_option maxRecDepth 100000 in
def uX8_cell_0 : List zEn := (0, .aload_n 0, 1, 0, 0, [], 0) :: (1, .getfield 15, 3, 8, 1, [(0, 0), (0, 129)], 0) :: (4, .iload_n 2, 1, 2, 0, [], 0) :: (5, .ishr, 1, 0, 0, [], 0) :: (6, .iconst 1, 1, 0, 0, [], 1) :: (7, .iand, 1, 0, 0, [], 0) :: (8, .iconst 1, 1, 0, 0, [], 1) :: (9, .if_icmp .ne 7, 3, 10, 0, [], 0) :: (12, .iload_n 2, 1, 2, 0, [], 0) :: (13, .goto 9, 3, 15, 0, [], 0) :: uX8_cell_10
set_option maxRecDepth 100000 in
theorem jX8_cell_10 : zj pX8_cell 10 = uX8_cell_10 := rfl
set_option maxRecDepth 100000 in
theorem jX8_cell_15 : zj pX8_cell 15 = uX8_cell_15 := rfl
set_option maxRecDepth 100000 in
def uX8_setTo_0 : List zEn := (0, .aload_n 0, 1, 0, 0, [], 0) :: (1, .iload_n 1, 1, 1, 0, [], 0) :: (2, .iload_n 2, 1, 2, 0, [], 0) :: (3, .invokevirtual 19, 3, 29, 3, [(0, 1), (0, 0), (0, 0), (0, 8), (0, 534)], 0) :: (6, .istore 4, 2, 4, 0, [], 0) :: (8, .aload_n 0, 1, 0, 0, [], 0) :: (9, .getfield 9, 3, 8, 0, [(0, 2), (0, 128)], 0) :: (12, .iload 4, 2, 4, 0, [], 0) :: (14, .iaload, 1, 0, 0, [], 0) :: (15, .istore 5, 2, 5, 0, [], 0) :: (17, .aload_n 0, 1, 0, 0, [], 0) :: (18, .getfield 9, 3, 8, 0, [(0, 2), (0, 128)], 0) :: (21, .iload 4, 2, 4, 0, [], 0) :: (23, .iload_n 3, 1, 3, 0, [], 0) :: (24, .iastore, 1, 0, 0, [], 0) :: (25, .iload 5, 2, 5, 0, [], 0) :: (27, .ireturn, 1, 0, 0, [], 0) :: []
set_option maxRecDepth 100000 in
def uX11_stock_14 : List zEn := (28, .aload_n 0, 1, 0, 0, [], 0) :: (29, .getfield 10, 3, 11, 0, [(0, 2), (0, 457)], 0) :: (32, .getfield 95, 3, 6, 2, [(0, 2), (0, 276)], 0) :: (35, .iload_n 1, 1, 1, 0, [], 0) :: (36, .iload_n 2, 1, 2, 0, [], 0) :: (37, .iload_n 3, 1, 3, 0, [], 0) :: (38, .invokevirtual 107, 3, 30, 4, [(0, 1), (0, 0), (0, 0), (0, 8), (0, 530)], 0) :: (41, .ireturn, 1, 0, 0, [], 0) :: []
set_option maxRecDepth 100000 in
def uX11_stock_12 : List zEn := (25, .ldc 75, 2, 0, 0, [(0, 498)], (-1000000001)) :: (27, .ireturn, 1, 0, 0, [], 0) :: uX11_stock_14
set_option maxRecDepth 100000 in
def uX11_stock_0 : List zEn := (0, .aload_n 0, 1, 0, 0, [], 0) :: (1, .iload_n 1, 1, 1, 0, [], 0) :: (2, .invokevirtual 81, 3, 18, 2, [(0, 1), (0, 0), (0, 0), (0, 11), (0, 508)], 0) :: (5, .ifCond .eq 20, 3, 12, 0, [], 0) :: (8, .iload_n 2, 1, 2, 0, [], 0) :: (9, .invokestatic 104, 3, 28, 1, [(0, 1), (0, 0), (0, 0), (0, 527)], 0) :: (12, .ifCond .eq 13, 3, 12, 0, [], 0) :: (15, .iload_n 3, 1, 3, 0, [], 0) :: (16, .iconst 0, 1, 0, 0, [], 0) :: (17, .bipush 99, 2, 0, 0, [], 99) :: (19, .invokestatic 68, 3, 12, 3, [(0, 1), (0, 0), (0, 0), (0, 495)], 0) :: (22, .ifCond .ne 6, 3, 14, 0, [], 0) :: uX11_stock_12
set_option maxRecDepth 100000 in
theorem jX11_stock_12 : zj pX11_stock 12 = uX11_stock_12 := rfl
set_option maxRecDepth 100000 in
theorem jX11_stock_14 : zj pX11_stock 14 = uX11_stock_14 := rfl
set_option maxRecDepth 100000 in
def uX12_isStock_13 : List zEn := (25, .ireturn, 1, 1, 0, [], 0) :: []
set_option maxRecDepth 100000 in
def uX12_isStock_12 : List zEn := (24, .iconst 0, 1, 0, 0, [], 0) :: uX12_isStock_13
set_option maxRecDepth 100000 in
def uX12_isStock_0 : List zEn := (0, .aload_n 0, 1, 0, 0, [], 0) :: (1, .iload_n 1, 1, 1, 0, [], 0) :: (2, .invokevirtual 93, 3, 22, 2, [(0, 1), (0, 0), (0, 0), (0, 12), (0, 1382)], 0) :: (5, .ifCond .eq 19, 3, 12, 0, [], 0) :: (8, .iload_n 2, 1, 2, 0, [], 0) :: (9, .i2l, 1, 0, 0, [], 0) :: (10, .lconst 0, 1, 0, 0, [], 0) :: (11, .ldc2_w 106, 3, 0, 0, [(0, 1407)], 7) :: (14, .invokestatic 77, 3, 15, 3, [(0, 1), (0, 0), (0, 0), (0, 1368)], 0) :: (17, .ifCond .eq 7, 3, 12, 0, [], 0) :: (20, .iconst 1, 1, 0, 0, [], 1) :: (21, .goto 4, 3, 13, 0, [], 0) :: uX12_isStock_12
set_option maxRecDepth 100000 in
theorem jX12_isStock_12 : zj pX12_isStock 12 = uX12_isStock_12 := rfl
set_option maxRecDepth 100000 in
theorem jX12_isStock_13 : zj pX12_isStock 13 = uX12_isStock_13 := rfl
set_option maxRecDepth 100000 in
def uX12_stockAt_14 : List zEn := (21, .imul, 1, 0, 0, [], 0) :: (22, .iload_n 2, 1, 2, 0, [], 0) :: (23, .iadd, 1, 0, 0, [], 0) :: (24, .ireturn, 1, 0, 0, [], 0) :: []
set_option maxRecDepth 100000 in
def uX12_stockAt_13 : List zEn := (20, .iload_n 1, 1, 1, 0, [], 0) :: uX12_stockAt_14
set_option maxRecDepth 100000 in
def uX12_stockAt_0 : List zEn := (0, .bipush 8, 2, 0, 0, [], 8) :: (2, .aload_n 0, 1, 0, 0, [], 0) :: (3, .getfield 7, 3, 12, 0, [(0, 2), (0, 1250)], 0) :: (6, .iconst 5, 1, 0, 0, [], 5) :: (7, .iaload, 1, 0, 0, [], 0) :: (8, .iload_n 2, 1, 2, 0, [], 0) :: (9, .ishr, 1, 0, 0, [], 0) :: (10, .iconst 1, 1, 0, 0, [], 1) :: (11, .iand, 1, 0, 0, [], 0) :: (12, .iconst 1, 1, 0, 0, [], 1) :: (13, .if_icmp .ne 7, 3, 13, 0, [], 0) :: (16, .iconst 0, 1, 0, 0, [], 0) :: (17, .goto 4, 3, 14, 0, [], 0) :: uX12_stockAt_13
set_option maxRecDepth 100000 in
theorem jX12_stockAt_13 : zj pX12_stockAt 13 = uX12_stockAt_13 := rfl
set_option maxRecDepth 100000 in
theorem jX12_stockAt_14 : zj pX12_stockAt 14 = uX12_stockAt_14 := rfl
set_option maxRecDepth 100000 in
def uX12_stock_22 : List zEn := (40, .ireturn, 1, 0, 0, [], 0) :: []
set_option maxRecDepth 100000 in
def uX12_stock_21 : List zEn := (38, .ldc 87, 2, 0, 0, [(0, 1372)], (-1000000001)) :: uX12_stock_22
set_option maxRecDepth 100000 in
def uX12_stock_0 : List zEn := (0, .aload_n 0, 1, 0, 0, [], 0) :: (1, .iload_n 1, 1, 1, 0, [], 0) :: (2, .iload_n 2, 1, 2, 0, [], 0) :: (3, .invokevirtual 108, 3, 32, 3, [(0, 1), (0, 0), (0, 0), (0, 12), (0, 1403)], 0) :: (6, .ifCond .eq 32, 3, 21, 0, [], 0) :: (9, .iload_n 3, 1, 3, 0, [], 0) :: (10, .i2l, 1, 0, 0, [], 0) :: (11, .lconst 0, 1, 0, 0, [], 0) :: (12, .ldc2_w 112, 3, 0, 0, [(0, 1408)], 99) :: (15, .invokestatic 77, 3, 15, 3, [(0, 1), (0, 0), (0, 0), (0, 1368)], 0) :: (18, .ifCond .eq 20, 3, 21, 0, [], 0) :: (21, .aload_n 0, 1, 0, 0, [], 0) :: (22, .bipush 60, 2, 0, 0, [], 60) :: (24, .aload_n 0, 1, 0, 0, [], 0) :: (25, .iload_n 1, 1, 1, 0, [], 0) :: (26, .iload_n 2, 1, 2, 0, [], 0) :: (27, .invokevirtual 114, 3, 33, 3, [(0, 1), (0, 0), (0, 0), (0, 12), (0, 1409)], 0) :: (30, .iadd, 1, 0, 0, [], 0) :: (31, .iload_n 3, 1, 3, 0, [], 0) :: (32, .invokevirtual 103, 3, 26, 3, [(0, 1), (0, 0), (0, 0), (0, 12), (0, 1395)], 0) :: (35, .goto 5, 3, 22, 0, [], 0) :: uX12_stock_21
set_option maxRecDepth 100000 in
theorem jX12_stock_21 : zj pX12_stock 21 = uX12_stock_21 := rfl
set_option maxRecDepth 100000 in
theorem jX12_stock_22 : zj pX12_stock 22 = uX12_stock_22 := rfl
set_option maxRecDepth 100000 in
def uX8_of_0 : List zEn := (0, .aload_n 0, 1, 0, 0, [], 0) :: (1, .getfield 9, 3, 8, 0, [(0, 2), (0, 128)], 0) :: (4, .aload_n 0, 1, 0, 0, [], 0) :: (5, .iload_n 1, 1, 1, 0, [], 0) :: (6, .iload_n 2, 1, 2, 0, [], 0) :: (7, .invokevirtual 19, 3, 29, 3, [(0, 1), (0, 0), (0, 0), (0, 8), (0, 534)], 0) :: (10, .iaload, 1, 0, 0, [], 0) :: (11, .ireturn, 1, 0, 0, [], 0) :: []
set_option maxRecDepth 100000 in
def uX11_has_9 : List zEn := (18, .aload_n 0, 1, 0, 0, [], 0) :: (19, .getfield 10, 3, 11, 0, [(0, 2), (0, 457)], 0) :: (22, .getfield 95, 3, 6, 2, [(0, 2), (0, 276)], 0) :: (25, .iload_n 1, 1, 1, 0, [], 0) :: (26, .iload_n 2, 1, 2, 0, [], 0) :: (27, .invokevirtual 110, 3, 35, 3, [(0, 1), (0, 0), (0, 0), (0, 8), (0, 542)], 0) :: (30, .ireturn, 1, 0, 0, [], 0) :: []
set_option maxRecDepth 100000 in
def uX11_has_7 : List zEn := (15, .ldc 75, 2, 0, 0, [(0, 498)], (-1000000001)) :: (17, .ireturn, 1, 0, 0, [], 0) :: uX11_has_9
set_option maxRecDepth 100000 in
def uX11_has_0 : List zEn := (0, .aload_n 0, 1, 0, 0, [], 0) :: (1, .iload_n 1, 1, 1, 0, [], 0) :: (2, .invokevirtual 81, 3, 18, 2, [(0, 1), (0, 0), (0, 0), (0, 11), (0, 508)], 0) :: (5, .ifCond .eq 10, 3, 7, 0, [], 0) :: (8, .iload_n 2, 1, 2, 0, [], 0) :: (9, .invokestatic 104, 3, 28, 1, [(0, 1), (0, 0), (0, 0), (0, 527)], 0) :: (12, .ifCond .ne 6, 3, 9, 0, [], 0) :: uX11_has_7
set_option maxRecDepth 100000 in
theorem jX11_has_7 : zj pX11_has 7 = uX11_has_7 := rfl
set_option maxRecDepth 100000 in
theorem jX11_has_9 : zj pX11_has 9 = uX11_has_9 := rfl
set_option maxRecDepth 100000 in
def uX12_has_16 : List zEn := (28, .ireturn, 1, 0, 0, [], 0) :: []
set_option maxRecDepth 100000 in
def uX12_has_15 : List zEn := (26, .ldc 87, 2, 0, 0, [(0, 1372)], (-1000000001)) :: uX12_has_16
set_option maxRecDepth 100000 in
def uX12_has_0 : List zEn := (0, .aload_n 0, 1, 0, 0, [], 0) :: (1, .iload_n 1, 1, 1, 0, [], 0) :: (2, .iload_n 2, 1, 2, 0, [], 0) :: (3, .invokevirtual 108, 3, 32, 3, [(0, 1), (0, 0), (0, 0), (0, 12), (0, 1403)], 0) :: (6, .ifCond .eq 20, 3, 15, 0, [], 0) :: (9, .aload_n 0, 1, 0, 0, [], 0) :: (10, .getfield 7, 3, 12, 0, [(0, 2), (0, 1250)], 0) :: (13, .bipush 60, 2, 0, 0, [], 60) :: (15, .aload_n 0, 1, 0, 0, [], 0) :: (16, .iload_n 1, 1, 1, 0, [], 0) :: (17, .iload_n 2, 1, 2, 0, [], 0) :: (18, .invokevirtual 114, 3, 33, 3, [(0, 1), (0, 0), (0, 0), (0, 12), (0, 1409)], 0) :: (21, .iadd, 1, 0, 0, [], 0) :: (22, .iaload, 1, 0, 0, [], 0) :: (23, .goto 5, 3, 16, 0, [], 0) :: uX12_has_15
set_option maxRecDepth 100000 in
theorem jX12_has_15 : zj pX12_has 15 = uX12_has_15 := rfl
set_option maxRecDepth 100000 in
theorem jX12_has_16 : zj pX12_has 16 = uX12_has_16 := rfl
set_option maxRecDepth 100000 in
def uX11_isKind_0 : List zEn := (0, .iload_n 0, 1, 0, 0, [], 0) :: (1, .iconst 0, 1, 0, 0, [], 0) :: (2, .iconst 5, 1, 0, 0, [], 5) :: (3, .invokestatic 68, 3, 12, 3, [(0, 1), (0, 0), (0, 0), (0, 495)], 0) :: (6, .ireturn, 1, 1, 0, [], 0) :: []
set_option maxRecDepth 100000 in
def uX3_comeIn_0 : List zEn := (0, .aload_n 0, 1, 0, 0, [], 0) :: (1, .iload_n 1, 1, 1, 0, [], 0) :: (2, .putfield 9, 3, 3, 0, [(0, 0), (0, 211)], 0) :: (5, .aload_n 0, 1, 0, 0, [], 0) :: (6, .iload_n 2, 1, 2, 0, [], 0) :: (7, .putfield 15, 3, 3, 1, [(0, 0), (0, 216)], 0) :: (10, .aload_n 0, 1, 0, 0, [], 0) :: (11, .iload_n 3, 1, 3, 0, [], 0) :: (12, .putfield 18, 3, 3, 2, [(0, 0), (0, 219)], 0) :: (15, .aload_n 0, 1, 0, 0, [], 0) :: (16, .iload 4, 2, 4, 0, [], 0) :: (18, .putfield 21, 3, 3, 3, [(0, 0), (0, 221)], 0) :: (21, .aload_n 0, 1, 0, 0, [], 0) :: (22, .iconst 0, 1, 0, 0, [], 0) :: (23, .putfield 24, 3, 3, 4, [(0, 0), (0, 225)], 0) :: (26, .aload_n 0, 1, 0, 0, [], 0) :: (27, .iconst 0, 1, 0, 0, [], 0) :: (28, .putfield 27, 3, 3, 5, [(0, 0), (0, 229)], 0) :: (31, .aload_n 0, 1, 0, 0, [], 0) :: (32, .iconst 0, 1, 0, 0, [], 0) :: (33, .putfield 30, 3, 3, 6, [(0, 1), (0, 233)], 0) :: (36, .aload_n 0, 1, 0, 0, [], 0) :: (37, .iconst 0, 1, 0, 0, [], 0) :: (38, .putfield 34, 3, 3, 7, [(0, 1), (0, 236)], 0) :: (41, .aload_n 0, 1, 0, 0, [], 0) :: (42, .sipush 999, 3, 0, 0, [], 999) :: (45, .putfield 37, 3, 3, 8, [(0, 0), (0, 239)], 0) :: (48, .aload_n 0, 1, 0, 0, [], 0) :: (49, .ldc 40, 2, 0, 0, [(0, 210)], (-1000000005)) :: (51, .putfield 41, 3, 3, 9, [(0, 0), (0, 242)], 0) :: (54, .aload_n 0, 1, 0, 0, [], 0) :: (55, .iconst 0, 1, 0, 0, [], 0) :: (56, .putfield 44, 3, 3, 10, [(0, 1), (0, 245)], 0) :: (59, .return_, 1, 0, 0, [], 0) :: []
set_option maxRecDepth 100000 in
def uX6_addPhone_0 : List zEn := (0, .aload_n 0, 1, 0, 0, [], 0) :: (1, .getfield 30, 3, 6, 3, [(0, 2), (0, 277)], 0) :: (4, .aload_n 0, 1, 0, 0, [], 0) :: (5, .getfield 34, 3, 6, 4, [(0, 0), (0, 280)], 0) :: (8, .aaload, 1, 0, 0, [], 0) :: (9, .iload_n 1, 1, 1, 0, [], 0) :: (10, .iload_n 2, 1, 2, 0, [], 0) :: (11, .iload_n 3, 1, 3, 0, [], 0) :: (12, .iload 4, 2, 4, 0, [], 0) :: (14, .invokevirtual 100, 3, 39, 5, [(0, 0), (0, 0), (0, 0), (0, 3), (0, 557)], 0) :: (17, .aload_n 0, 1, 0, 0, [], 0) :: (18, .dup, 1, 0, 0, [], 0) :: (19, .getfield 34, 3, 6, 4, [(0, 0), (0, 280)], 0) :: (22, .iconst 1, 1, 0, 0, [], 1) :: (23, .iadd, 1, 0, 0, [], 0) :: (24, .putfield 34, 3, 6, 4, [(0, 0), (0, 280)], 0) :: (27, .aload_n 0, 1, 0, 0, [], 0) :: (28, .getfield 34, 3, 6, 4, [(0, 0), (0, 280)], 0) :: (31, .iconst 1, 1, 0, 0, [], 1) :: (32, .isub, 1, 0, 0, [], 0) :: (33, .ireturn, 1, 0, 0, [], 0) :: []
set_option maxRecDepth 100000 in
def uX11_phone_25 : List zEn := (52, .aload_n 0, 1, 0, 0, [], 0) :: (53, .getfield 10, 3, 11, 0, [(0, 2), (0, 457)], 0) :: (56, .iload_n 1, 1, 1, 0, [], 0) :: (57, .iload_n 2, 1, 2, 0, [], 0) :: (58, .sipush 1000, 3, 0, 0, [], 1000) :: (61, .idiv, 1, 0, 0, [], 0) :: (62, .iload_n 2, 1, 2, 0, [], 0) :: (63, .sipush 1000, 3, 0, 0, [], 1000) :: (66, .irem, 1, 0, 0, [], 0) :: (67, .iload_n 3, 1, 3, 0, [], 0) :: (68, .invokevirtual 117, 3, 40, 5, [(0, 1), (0, 0), (0, 0), (0, 6), (0, 553)], 0) :: (71, .ireturn, 1, 0, 0, [], 0) :: []
set_option maxRecDepth 100000 in
def uX11_phone_18 : List zEn := (37, .aload_n 0, 1, 0, 0, [], 0) :: (38, .getfield 10, 3, 11, 0, [(0, 2), (0, 457)], 0) :: (41, .getfield 72, 3, 6, 4, [(0, 0), (0, 281)], 0) :: (44, .bipush 16, 2, 0, 0, [], 16) :: (46, .if_icmp .lt 6, 3, 25, 0, [], 0) :: (49, .ldc 76, 2, 0, 0, [(0, 499)], (-1000000003)) :: (51, .ireturn, 1, 0, 0, [], 0) :: uX11_phone_25
set_option maxRecDepth 100000 in
def uX11_phone_16 : List zEn := (34, .ldc 75, 2, 0, 0, [(0, 498)], (-1000000001)) :: (36, .ireturn, 1, 0, 0, [], 0) :: uX11_phone_18
set_option maxRecDepth 100000 in
def uX11_phone_0 : List zEn := (0, .iload_n 1, 1, 1, 0, [], 0) :: (1, .invokestatic 114, 3, 38, 1, [(0, 1), (0, 0), (0, 0), (0, 550)], 0) :: (4, .ifCond .eq 30, 3, 16, 0, [], 0) :: (7, .iload_n 2, 1, 2, 0, [], 0) :: (8, .ifCond .lt 26, 3, 16, 0, [], 0) :: (11, .aload_n 0, 1, 0, 0, [], 0) :: (12, .iload_n 2, 1, 2, 0, [], 0) :: (13, .sipush 1000, 3, 0, 0, [], 1000) :: (16, .idiv, 1, 0, 0, [], 0) :: (17, .invokevirtual 81, 3, 18, 2, [(0, 1), (0, 0), (0, 0), (0, 11), (0, 508)], 0) :: (20, .ifCond .eq 14, 3, 16, 0, [], 0) :: (23, .iload_n 3, 1, 3, 0, [], 0) :: (24, .iconst 0, 1, 0, 0, [], 0) :: (25, .sipush 255, 3, 0, 0, [], 255) :: (28, .invokestatic 68, 3, 12, 3, [(0, 1), (0, 0), (0, 0), (0, 495)], 0) :: (31, .ifCond .ne 6, 3, 18, 0, [], 0) :: uX11_phone_16
set_option maxRecDepth 100000 in
theorem jX11_phone_16 : zj pX11_phone 16 = uX11_phone_16 := rfl
set_option maxRecDepth 100000 in
theorem jX11_phone_18 : zj pX11_phone 18 = uX11_phone_18 := rfl
set_option maxRecDepth 100000 in
theorem jX11_phone_25 : zj pX11_phone 25 = uX11_phone_25 := rfl
set_option maxRecDepth 100000 in
def uX12_phoneAt_0 : List zEn := (0, .bipush 110, 2, 0, 0, [], 110) :: (2, .bipush 14, 2, 0, 0, [], 14) :: (4, .iload_n 1, 1, 1, 0, [], 0) :: (5, .imul, 1, 0, 0, [], 0) :: (6, .iadd, 1, 0, 0, [], 0) :: (7, .ireturn, 1, 0, 0, [], 0) :: []
set_option maxRecDepth 100000 in
def uX12_phone_52 : List zEn := (96, .aload_n 0, 1, 0, 0, [], 0) :: (97, .getfield 7, 3, 12, 0, [(0, 2), (0, 1250)], 0) :: (100, .iload 4, 2, 4, 0, [], 0) :: (102, .iload_n 1, 1, 1, 0, [], 0) :: (103, .iastore, 1, 0, 0, [], 0) :: (104, .aload_n 0, 1, 0, 0, [], 0) :: (105, .getfield 7, 3, 12, 0, [(0, 2), (0, 1250)], 0) :: (108, .iload 4, 2, 4, 0, [], 0) :: (110, .iconst 1, 1, 0, 0, [], 1) :: (111, .iadd, 1, 0, 0, [], 0) :: (112, .iload_n 2, 1, 2, 0, [], 0) :: (113, .sipush 1000, 3, 0, 0, [], 1000) :: (116, .idiv, 1, 0, 0, [], 0) :: (117, .iastore, 1, 0, 0, [], 0) :: (118, .aload_n 0, 1, 0, 0, [], 0) :: (119, .getfield 7, 3, 12, 0, [(0, 2), (0, 1250)], 0) :: (122, .iload 4, 2, 4, 0, [], 0) :: (124, .iconst 2, 1, 0, 0, [], 2) :: (125, .iadd, 1, 0, 0, [], 0) :: (126, .iload_n 2, 1, 2, 0, [], 0) :: (127, .sipush 1000, 3, 0, 0, [], 1000) :: (130, .irem, 1, 0, 0, [], 0) :: (131, .iastore, 1, 0, 0, [], 0) :: (132, .aload_n 0, 1, 0, 0, [], 0) :: (133, .getfield 7, 3, 12, 0, [(0, 2), (0, 1250)], 0) :: (136, .iload 4, 2, 4, 0, [], 0) :: (138, .iconst 3, 1, 0, 0, [], 3) :: (139, .iadd, 1, 0, 0, [], 0) :: (140, .iload_n 3, 1, 3, 0, [], 0) :: (141, .iastore, 1, 0, 0, [], 0) :: (142, .aload_n 0, 1, 0, 0, [], 0) :: (143, .getfield 7, 3, 12, 0, [(0, 2), (0, 1250)], 0) :: (146, .iload 4, 2, 4, 0, [], 0) :: (148, .bipush 8, 2, 0, 0, [], 8) :: (150, .iadd, 1, 0, 0, [], 0) :: (151, .sipush 999, 3, 0, 0, [], 999) :: (154, .iastore, 1, 0, 0, [], 0) :: (155, .aload_n 0, 1, 0, 0, [], 0) :: (156, .getfield 7, 3, 12, 0, [(0, 2), (0, 1250)], 0) :: (159, .iload 4, 2, 4, 0, [], 0) :: (161, .bipush 9, 2, 0, 0, [], 9) :: (163, .iadd, 1, 0, 0, [], 0) :: (164, .iconst (-1), 1, 0, 0, [], (-1)) :: (165, .iastore, 1, 0, 0, [], 0) :: (166, .aload_n 0, 1, 0, 0, [], 0) :: (167, .getfield 7, 3, 12, 0, [(0, 2), (0, 1250)], 0) :: (170, .iconst 1, 1, 0, 0, [], 1) :: (171, .dup2, 1, 0, 0, [], 0) :: (172, .iaload, 1, 0, 0, [], 0) :: (173, .iconst 1, 1, 0, 0, [], 1) :: (174, .iadd, 1, 0, 0, [], 0) :: (175, .iastore, 1, 0, 0, [], 0) :: (176, .aload_n 0, 1, 0, 0, [], 0) :: (177, .getfield 7, 3, 12, 0, [(0, 2), (0, 1250)], 0) :: (180, .iconst 1, 1, 0, 0, [], 1) :: (181, .iaload, 1, 0, 0, [], 0) :: (182, .iconst 1, 1, 0, 0, [], 1) :: (183, .isub, 1, 0, 0, [], 0) :: (184, .ireturn, 1, 0, 0, [], 0) :: []
set_option maxRecDepth 100000 in
def uX12_phone_40 : List zEn := (72, .iload 5, 2, 5, 0, [], 0) :: (74, .bipush 14, 2, 0, 0, [], 14) :: (76, .if_icmp .ge 20, 3, 52, 0, [], 0) :: (79, .aload_n 0, 1, 0, 0, [], 0) :: (80, .getfield 7, 3, 12, 0, [(0, 2), (0, 1250)], 0) :: (83, .iload 4, 2, 4, 0, [], 0) :: (85, .iload 5, 2, 5, 0, [], 0) :: (87, .iadd, 1, 0, 0, [], 0) :: (88, .iconst 0, 1, 0, 0, [], 0) :: (89, .iastore, 1, 0, 0, [], 0) :: (90, .iinc 5 1, 3, 5, 0, [], 1) :: (93, .goto (-21), 3, 39, 0, [], 0) :: uX12_phone_52
set_option maxRecDepth 100000 in
def tX12_phone_40 : List zEn := uX12_phone_40
set_option maxRecDepth 100000 in
def uX12_phone_39 : List zEn := (72, .nop, 0, 0, 0, [], 0) :: tX12_phone_40
set_option maxRecDepth 100000 in
def uX12_phone_30 : List zEn := (57, .aload_n 0, 1, 0, 0, [], 0) :: (58, .aload_n 0, 1, 0, 0, [], 0) :: (59, .getfield 7, 3, 12, 0, [(0, 2), (0, 1250)], 0) :: (62, .iconst 1, 1, 0, 0, [], 1) :: (63, .iaload, 1, 0, 0, [], 0) :: (64, .invokevirtual 120, 3, 42, 2, [(0, 1), (0, 0), (0, 0), (0, 12), (0, 1422)], 0) :: (67, .istore 4, 2, 4, 0, [], 0) :: (69, .iconst 0, 1, 0, 0, [], 0) :: (70, .istore 5, 2, 5, 0, [], 0) :: uX12_phone_39
set_option maxRecDepth 100000 in
def uX12_phone_22 : List zEn := (43, .aload_n 0, 1, 0, 0, [], 0) :: (44, .getfield 7, 3, 12, 0, [(0, 2), (0, 1250)], 0) :: (47, .iconst 1, 1, 0, 0, [], 1) :: (48, .iaload, 1, 0, 0, [], 0) :: (49, .bipush 16, 2, 0, 0, [], 16) :: (51, .if_icmp .ne 6, 3, 30, 0, [], 0) :: (54, .ldc 88, 2, 0, 0, [(0, 1373)], (-1000000003)) :: (56, .ireturn, 1, 0, 0, [], 0) :: uX12_phone_30
set_option maxRecDepth 100000 in
def uX12_phone_20 : List zEn := (40, .ldc 87, 2, 0, 0, [(0, 1372)], (-1000000001)) :: (42, .ireturn, 1, 0, 0, [], 0) :: uX12_phone_22
set_option maxRecDepth 100000 in
def uX12_phone_0 : List zEn := (0, .iload_n 1, 1, 1, 0, [], 0) :: (1, .i2l, 1, 0, 0, [], 0) :: (2, .lconst 0, 1, 0, 0, [], 0) :: (3, .ldc2_w 142, 3, 0, 0, [(0, 1421)], 5) :: (6, .invokestatic 77, 3, 15, 3, [(0, 1), (0, 0), (0, 0), (0, 1368)], 0) :: (9, .ifCond .eq 31, 3, 20, 0, [], 0) :: (12, .iload_n 2, 1, 2, 0, [], 0) :: (13, .ifCond .lt 27, 3, 20, 0, [], 0) :: (16, .aload_n 0, 1, 0, 0, [], 0) :: (17, .iload_n 2, 1, 2, 0, [], 0) :: (18, .sipush 1000, 3, 0, 0, [], 1000) :: (21, .idiv, 1, 0, 0, [], 0) :: (22, .invokevirtual 93, 3, 22, 2, [(0, 1), (0, 0), (0, 0), (0, 12), (0, 1382)], 0) :: (25, .ifCond .eq 15, 3, 20, 0, [], 0) :: (28, .iload_n 3, 1, 3, 0, [], 0) :: (29, .i2l, 1, 0, 0, [], 0) :: (30, .lconst 0, 1, 0, 0, [], 0) :: (31, .ldc2_w 85, 3, 0, 0, [(0, 1371)], 255) :: (34, .invokestatic 77, 3, 15, 3, [(0, 1), (0, 0), (0, 0), (0, 1368)], 0) :: (37, .ifCond .ne 6, 3, 22, 0, [], 0) :: uX12_phone_20
set_option maxRecDepth 100000 in
theorem jX12_phone_20 : zj pX12_phone 20 = uX12_phone_20 := rfl
set_option maxRecDepth 100000 in
theorem jX12_phone_22 : zj pX12_phone 22 = uX12_phone_22 := rfl
set_option maxRecDepth 100000 in
theorem jX12_phone_30 : zj pX12_phone 30 = uX12_phone_30 := rfl
set_option maxRecDepth 100000 in
theorem jX12_phone_39 : zj pX12_phone 39 = uX12_phone_39 := rfl
set_option maxRecDepth 100000 in
theorem jX12_phone_52 : zj pX12_phone 52 = uX12_phone_52 := rfl
set_option maxRecDepth 100000 in
def uX11_isPhone_0 : List zEn := (0, .iload_n 1, 1, 1, 0, [], 0) :: (1, .iconst 0, 1, 0, 0, [], 0) :: (2, .aload_n 0, 1, 0, 0, [], 0) :: (3, .getfield 10, 3, 11, 0, [(0, 2), (0, 457)], 0) :: (6, .getfield 72, 3, 6, 4, [(0, 0), (0, 281)], 0) :: (9, .iconst 1, 1, 0, 0, [], 1) :: (10, .isub, 1, 0, 0, [], 0) :: (11, .invokestatic 68, 3, 12, 3, [(0, 1), (0, 0), (0, 0), (0, 495)], 0) :: (14, .ireturn, 1, 1, 0, [], 0) :: []
set_option maxRecDepth 100000 in
def uX3_lacks_0 : List zEn := (0, .sipush 255, 3, 0, 0, [], 255) :: (3, .aload_n 0, 1, 0, 0, [], 0) :: (4, .getfield 21, 3, 3, 3, [(0, 0), (0, 221)], 0) :: (7, .iconst (-1), 1, 0, 0, [], (-1)) :: (8, .ixor, 1, 0, 0, [], 0) :: (9, .iand, 1, 0, 0, [], 0) :: (10, .ireturn, 1, 0, 0, [], 0) :: []
set_option maxRecDepth 100000 in
def uJ6_bitCount_0f7a4_0 : List zEn := (0, .iload_n 0, 1, 0, 0, [], 0) :: (1, .iload_n 0, 1, 0, 0, [], 0) :: (2, .iconst 1, 1, 0, 0, [], 1) :: (3, .iushr, 1, 0, 0, [], 0) :: (4, .ldc_w 265, 3, 0, 0, [(0, 584)], 1431655765) :: (7, .iand, 1, 0, 0, [], 0) :: (8, .isub, 1, 0, 0, [], 0) :: (9, .istore_n 0, 1, 0, 0, [], 0) :: (10, .iload_n 0, 1, 0, 0, [], 0) :: (11, .ldc_w 266, 3, 0, 0, [(0, 585)], 858993459) :: (14, .iand, 1, 0, 0, [], 0) :: (15, .iload_n 0, 1, 0, 0, [], 0) :: (16, .iconst 2, 1, 0, 0, [], 2) :: (17, .iushr, 1, 0, 0, [], 0) :: (18, .ldc_w 266, 3, 0, 0, [(0, 585)], 858993459) :: (21, .iand, 1, 0, 0, [], 0) :: (22, .iadd, 1, 0, 0, [], 0) :: (23, .istore_n 0, 1, 0, 0, [], 0) :: (24, .iload_n 0, 1, 0, 0, [], 0) :: (25, .iload_n 0, 1, 0, 0, [], 0) :: (26, .iconst 4, 1, 0, 0, [], 4) :: (27, .iushr, 1, 0, 0, [], 0) :: (28, .iadd, 1, 0, 0, [], 0) :: (29, .ldc_w 267, 3, 0, 0, [(0, 586)], 252645135) :: (32, .iand, 1, 0, 0, [], 0) :: (33, .istore_n 0, 1, 0, 0, [], 0) :: (34, .iload_n 0, 1, 0, 0, [], 0) :: (35, .iload_n 0, 1, 0, 0, [], 0) :: (36, .bipush 8, 2, 0, 0, [], 8) :: (38, .iushr, 1, 0, 0, [], 0) :: (39, .iadd, 1, 0, 0, [], 0) :: (40, .istore_n 0, 1, 0, 0, [], 0) :: (41, .iload_n 0, 1, 0, 0, [], 0) :: (42, .iload_n 0, 1, 0, 0, [], 0) :: (43, .bipush 16, 2, 0, 0, [], 16) :: (45, .iushr, 1, 0, 0, [], 0) :: (46, .iadd, 1, 0, 0, [], 0) :: (47, .istore_n 0, 1, 0, 0, [], 0) :: (48, .iload_n 0, 1, 0, 0, [], 0) :: (49, .bipush 63, 2, 0, 0, [], 63) :: (51, .iand, 1, 0, 0, [], 0) :: (52, .ireturn, 1, 0, 0, [], 0) :: []
set_option maxRecDepth 100000 in
def uX3_droppedHarm_0 : List zEn := (0, .iconst 5, 1, 0, 0, [], 5) :: (1, .iconst 2, 1, 0, 0, [], 2) :: (2, .aload_n 0, 1, 0, 0, [], 0) :: (3, .invokevirtual 52, 3, 45, 1, [(0, 1), (0, 0), (0, 0), (0, 3), (0, 577)], 0) :: (6, .invokestatic 56, 3, 46, 1, [(0, 1), (0, 0), (0, 0), (0, 581)], 0) :: (9, .imul, 1, 0, 0, [], 0) :: (10, .iadd, 1, 0, 0, [], 0) :: (11, .ireturn, 1, 0, 0, [], 0) :: []
set_option maxRecDepth 100000 in
def uX3_harm_22 : List zEn := (70, .iconst 5, 1, 0, 0, [], 5) :: (71, .ireturn, 1, 0, 0, [], 0) :: []
set_option maxRecDepth 100000 in
def uX3_harm_20 : List zEn := (67, .bipush 99, 2, 0, 0, [], 99) :: (69, .ireturn, 1, 0, 0, [], 0) :: uX3_harm_22
set_option maxRecDepth 100000 in
def uX3_harm_13 : List zEn := (56, .bipush 10, 2, 0, 0, [], 10) :: (58, .aload_n 0, 1, 0, 0, [], 0) :: (59, .getfield 18, 3, 3, 2, [(0, 0), (0, 219)], 0) :: (62, .bipush 100, 2, 0, 0, [], 100) :: (64, .idiv, 1, 0, 0, [], 0) :: (65, .iadd, 1, 0, 0, [], 0) :: (66, .ireturn, 1, 0, 0, [], 0) :: uX3_harm_20
set_option maxRecDepth 100000 in
def uX3_harm_11 : List zEn := (53, .bipush 10, 2, 0, 0, [], 10) :: (55, .ireturn, 1, 0, 0, [], 0) :: uX3_harm_13
set_option maxRecDepth 100000 in
def uX3_harm_6 : List zEn := (45, .aload_n 0, 1, 0, 0, [], 0) :: (46, .invokevirtual 62, 3, 47, 1, [(0, 1), (0, 0), (0, 0), (0, 3), (0, 573)], 0) :: (49, .bipush 9, 2, 0, 0, [], 9) :: (51, .iadd, 1, 0, 0, [], 0) :: (52, .ireturn, 1, 0, 0, [], 0) :: uX3_harm_11
set_option maxRecDepth 100000 in
def uX3_harm_3 : List zEn := (40, .aload_n 0, 1, 0, 0, [], 0) :: (41, .invokevirtual 62, 3, 47, 1, [(0, 1), (0, 0), (0, 0), (0, 3), (0, 573)], 0) :: (44, .ireturn, 1, 0, 0, [], 0) :: uX3_harm_6
set_option maxRecDepth 100000 in
def uX3_harm_0 : List zEn := (0, .aload_n 0, 1, 0, 0, [], 0) :: (1, .getfield 9, 3, 3, 0, [(0, 0), (0, 211)], 0) :: (4, .tableswitch 66 1 5 #[36, 49, 52, 41, 63], 36, 22, 0, [(1, 3), (2, 11), (3, 13), (4, 6), (5, 20)], 0) :: uX3_harm_3
set_option maxRecDepth 100000 in
theorem jX3_harm_3 : zj pX3_harm 3 = uX3_harm_3 := rfl
set_option maxRecDepth 100000 in
theorem jX3_harm_6 : zj pX3_harm 6 = uX3_harm_6 := rfl
set_option maxRecDepth 100000 in
theorem jX3_harm_11 : zj pX3_harm 11 = uX3_harm_11 := rfl
set_option maxRecDepth 100000 in
theorem jX3_harm_13 : zj pX3_harm 13 = uX3_harm_13 := rfl
set_option maxRecDepth 100000 in
theorem jX3_harm_20 : zj pX3_harm 20 = uX3_harm_20 := rfl
set_option maxRecDepth 100000 in
theorem jX3_harm_22 : zj pX3_harm 22 = uX3_harm_22 := rfl
set_option maxRecDepth 100000 in
def uX3_span_24 : List zEn := (58, .iload_n 1, 1, 1, 0, [], 0) :: (59, .ireturn, 1, 0, 0, [], 0) :: []
set_option maxRecDepth 100000 in
def uX3_span_16 : List zEn := (48, .iconst 0, 1, 0, 0, [], 0) :: (49, .iload_n 1, 1, 1, 0, [], 0) :: (50, .iconst 2, 1, 0, 0, [], 2) :: (51, .idiv, 1, 0, 0, [], 0) :: (52, .iconst 5, 1, 0, 0, [], 5) :: (53, .isub, 1, 0, 0, [], 0) :: (54, .invokestatic 65, 3, 19, 2, [(0, 1), (0, 0), (0, 0), (0, 591)], 0) :: (57, .ireturn, 1, 0, 0, [], 0) :: uX3_span_24
set_option maxRecDepth 100000 in
def uX3_span_12 : List zEn := (44, .iload_n 1, 1, 1, 0, [], 0) :: (45, .iconst 2, 1, 0, 0, [], 2) :: (46, .idiv, 1, 0, 0, [], 0) :: (47, .ireturn, 1, 0, 0, [], 0) :: uX3_span_16
set_option maxRecDepth 100000 in
def uX3_span_0 : List zEn := (0, .iconst 0, 1, 0, 0, [], 0) :: (1, .bipush 100, 2, 0, 0, [], 100) :: (3, .aload_n 0, 1, 0, 0, [], 0) :: (4, .getfield 18, 3, 3, 2, [(0, 0), (0, 219)], 0) :: (7, .bipush 10, 2, 0, 0, [], 10) :: (9, .idiv, 1, 0, 0, [], 0) :: (10, .isub, 1, 0, 0, [], 0) :: (11, .invokestatic 65, 3, 19, 2, [(0, 1), (0, 0), (0, 0), (0, 591)], 0) :: (14, .istore_n 1, 1, 1, 0, [], 0) :: (15, .aload_n 0, 1, 0, 0, [], 0) :: (16, .getfield 9, 3, 3, 0, [(0, 0), (0, 211)], 0) :: (19, .lookupswitch 39 #[(2, 25), (3, 29)], 25, 24, 0, [(2, 12), (3, 16)], 0) :: uX3_span_12
set_option maxRecDepth 100000 in
theorem jX3_span_12 : zj pX3_span 12 = uX3_span_12 := rfl
set_option maxRecDepth 100000 in
theorem jX3_span_16 : zj pX3_span 16 = uX3_span_16 := rfl
set_option maxRecDepth 100000 in
theorem jX3_span_24 : zj pX3_span 24 = uX3_span_24 := rfl
set_option maxRecDepth 100000 in
def uX3_fresh_13 : List zEn := (54, .bipush 100, 2, 0, 0, [], 100) :: (56, .ireturn, 1, 0, 0, [], 0) :: []
set_option maxRecDepth 100000 in
def uX3_fresh_11 : List zEn := (52, .iconst 0, 1, 0, 0, [], 0) :: (53, .ireturn, 1, 0, 0, [], 0) :: uX3_fresh_13
set_option maxRecDepth 100000 in
def uX3_fresh_9 : List zEn := (49, .bipush 40, 2, 0, 0, [], 40) :: (51, .ireturn, 1, 0, 0, [], 0) :: uX3_fresh_11
set_option maxRecDepth 100000 in
def uX3_fresh_7 : List zEn := (46, .bipush 80, 2, 0, 0, [], 80) :: (48, .ireturn, 1, 0, 0, [], 0) :: uX3_fresh_9
set_option maxRecDepth 100000 in
def uX3_fresh_5 : List zEn := (43, .bipush 80, 2, 0, 0, [], 80) :: (45, .ireturn, 1, 0, 0, [], 0) :: uX3_fresh_7
set_option maxRecDepth 100000 in
def uX3_fresh_3 : List zEn := (40, .bipush 90, 2, 0, 0, [], 90) :: (42, .ireturn, 1, 0, 0, [], 0) :: uX3_fresh_5
set_option maxRecDepth 100000 in
def uX3_fresh_0 : List zEn := (0, .aload_n 0, 1, 0, 0, [], 0) :: (1, .getfield 9, 3, 3, 0, [(0, 0), (0, 211)], 0) :: (4, .tableswitch 50 1 5 #[36, 42, 45, 39, 48], 36, 13, 0, [(1, 3), (2, 7), (3, 9), (4, 5), (5, 11)], 0) :: uX3_fresh_3
set_option maxRecDepth 100000 in
theorem jX3_fresh_3 : zj pX3_fresh 3 = uX3_fresh_3 := rfl
set_option maxRecDepth 100000 in
theorem jX3_fresh_5 : zj pX3_fresh 5 = uX3_fresh_5 := rfl
set_option maxRecDepth 100000 in
theorem jX3_fresh_7 : zj pX3_fresh 7 = uX3_fresh_7 := rfl
set_option maxRecDepth 100000 in
theorem jX3_fresh_9 : zj pX3_fresh 9 = uX3_fresh_9 := rfl
set_option maxRecDepth 100000 in
theorem jX3_fresh_11 : zj pX3_fresh 11 = uX3_fresh_11 := rfl
set_option maxRecDepth 100000 in
theorem jX3_fresh_13 : zj pX3_fresh 13 = uX3_fresh_13 := rfl
set_option maxRecDepth 100000 in
def uX6_worthWith_0 : List zEn := (0, .aload_n 0, 1, 0, 0, [], 0) :: (1, .getfield 11, 3, 6, 0, [(0, 2), (0, 270)], 0) :: (4, .aload_n 1, 1, 1, 0, [], 0) :: (5, .getfield 111, 3, 3, 1, [(0, 0), (0, 218)], 0) :: (8, .aaload, 1, 0, 0, [], 0) :: (9, .astore_n 3, 1, 3, 0, [], 0) :: (10, .aload_n 3, 1, 3, 0, [], 0) :: (11, .aload_n 0, 1, 0, 0, [], 0) :: (12, .getfield 58, 3, 6, 9, [(0, 0), (0, 292)], 0) :: (15, .invokevirtual 114, 3, 20, 2, [(0, 1), (0, 0), (0, 0), (0, 2), (0, 604)], 0) :: (18, .aload_n 1, 1, 1, 0, [], 0) :: (19, .invokevirtual 118, 3, 50, 1, [(0, 1), (0, 0), (0, 0), (0, 3), (0, 605)], 0) :: (22, .imul, 1, 0, 0, [], 0) :: (23, .bipush 100, 2, 0, 0, [], 100) :: (25, .idiv, 1, 0, 0, [], 0) :: (26, .istore 4, 2, 4, 0, [], 0) :: (28, .iload 4, 2, 4, 0, [], 0) :: (30, .bipush 50, 2, 0, 0, [], 50) :: (32, .aload_n 1, 1, 1, 0, [], 0) :: (33, .invokevirtual 122, 3, 49, 1, [(0, 1), (0, 0), (0, 0), (0, 3), (0, 606)], 0) :: (36, .iconst 2, 1, 0, 0, [], 2) :: (37, .idiv, 1, 0, 0, [], 0) :: (38, .iadd, 1, 0, 0, [], 0) :: (39, .imul, 1, 0, 0, [], 0) :: (40, .bipush 100, 2, 0, 0, [], 100) :: (42, .idiv, 1, 0, 0, [], 0) :: (43, .istore 5, 2, 5, 0, [], 0) :: (45, .iconst 0, 1, 0, 0, [], 0) :: (46, .iload 5, 2, 5, 0, [], 0) :: (48, .iload 5, 2, 5, 0, [], 0) :: (50, .bipush 10, 2, 0, 0, [], 10) :: (52, .idiv, 1, 0, 0, [], 0) :: (53, .aload_n 3, 1, 3, 0, [], 0) :: (54, .getfield 97, 3, 2, 2, [(0, 0), (0, 197)], 0) :: (57, .iload_n 2, 1, 2, 0, [], 0) :: (58, .iand, 1, 0, 0, [], 0) :: (59, .invokestatic 125, 3, 46, 1, [(0, 1), (0, 0), (0, 0), (0, 607)], 0) :: (62, .imul, 1, 0, 0, [], 0) :: (63, .isub, 1, 0, 0, [], 0) :: (64, .invokestatic 130, 3, 19, 2, [(0, 1), (0, 0), (0, 0), (0, 608)], 0) :: (67, .ireturn, 1, 0, 0, [], 0) :: []
set_option maxRecDepth 100000 in
def uX6_worth_0 : List zEn := (0, .aload_n 0, 1, 0, 0, [], 0) :: (1, .aload_n 1, 1, 1, 0, [], 0) :: (2, .aload_n 1, 1, 1, 0, [], 0) :: (3, .getfield 104, 3, 3, 4, [(0, 0), (0, 227)], 0) :: (6, .invokevirtual 107, 3, 51, 3, [(0, 1), (0, 0), (0, 0), (0, 6), (0, 600)], 0) :: (9, .ireturn, 1, 0, 0, [], 0) :: []
set_option maxRecDepth 100000 in
def uX10_tightness_12 : List zEn := (94, .iconst 0, 1, 0, 0, [], 0) :: (95, .ireturn, 1, 0, 0, [], 0) :: []
set_option maxRecDepth 100000 in
def uX10_tightness_10 : List zEn := (92, .iconst 5, 1, 0, 0, [], 5) :: (93, .ireturn, 1, 0, 0, [], 0) :: uX10_tightness_12
set_option maxRecDepth 100000 in
def uX10_tightness_8 : List zEn := (90, .iconst 4, 1, 0, 0, [], 4) :: (91, .ireturn, 1, 0, 0, [], 0) :: uX10_tightness_10
set_option maxRecDepth 100000 in
def uX10_tightness_6 : List zEn := (88, .iconst 3, 1, 0, 0, [], 3) :: (89, .ireturn, 1, 0, 0, [], 0) :: uX10_tightness_8
set_option maxRecDepth 100000 in
def uX10_tightness_4 : List zEn := (86, .iconst 2, 1, 0, 0, [], 2) :: (87, .ireturn, 1, 0, 0, [], 0) :: uX10_tightness_6
set_option maxRecDepth 100000 in
def uX10_tightness_2 : List zEn := (84, .iconst 1, 1, 0, 0, [], 1) :: (85, .ireturn, 1, 0, 0, [], 0) :: uX10_tightness_4
set_option maxRecDepth 100000 in
def uX10_tightness_0 : List zEn := (0, .iload_n 0, 1, 0, 0, [], 0) :: (1, .lookupswitch 93 #[(38, 85), (42, 91), (43, 89), (45, 89), (47, 91), (60, 87), (61, 87), (62, 87), (124, 83)], 83, 12, 0, [(38, 4), (42, 10), (43, 8), (45, 8), (47, 10), (60, 6), (61, 6), (62, 6), (124, 2)], 0) :: uX10_tightness_2
set_option maxRecDepth 100000 in
theorem jX10_tightness_2 : zj pX10_tightness 2 = uX10_tightness_2 := rfl
set_option maxRecDepth 100000 in
theorem jX10_tightness_4 : zj pX10_tightness 4 = uX10_tightness_4 := rfl
set_option maxRecDepth 100000 in
theorem jX10_tightness_6 : zj pX10_tightness 6 = uX10_tightness_6 := rfl
set_option maxRecDepth 100000 in
theorem jX10_tightness_8 : zj pX10_tightness 8 = uX10_tightness_8 := rfl
set_option maxRecDepth 100000 in
theorem jX10_tightness_10 : zj pX10_tightness 10 = uX10_tightness_10 := rfl
set_option maxRecDepth 100000 in
theorem jX10_tightness_12 : zj pX10_tightness 12 = uX10_tightness_12 := rfl
set_option maxRecDepth 100000 in
def uX1_isBinary_6 : List zEn := (12, .ireturn, 1, 1, 0, [], 0) :: []
set_option maxRecDepth 100000 in
def uX1_isBinary_5 : List zEn := (11, .iconst 0, 1, 0, 0, [], 0) :: uX1_isBinary_6
set_option maxRecDepth 100000 in
def uX1_isBinary_0 : List zEn := (0, .iload_n 0, 1, 0, 0, [], 0) :: (1, .invokestatic 57, 3, 53, 1, [(0, 1), (0, 0), (0, 0), (0, 625)], 0) :: (4, .ifCond .le 7, 3, 5, 0, [], 0) :: (7, .iconst 1, 1, 0, 0, [], 1) :: (8, .goto 4, 3, 6, 0, [], 0) :: uX1_isBinary_5
set_option maxRecDepth 100000 in
theorem jX1_isBinary_5 : zj pX1_isBinary 5 = uX1_isBinary_5 := rfl
set_option maxRecDepth 100000 in
theorem jX1_isBinary_6 : zj pX1_isBinary 6 = uX1_isBinary_6 := rfl
set_option maxRecDepth 100000 in
def uX1_join_58 : List zEn := (160, .ireturn, 1, 0, 0, [], 0) :: []
set_option maxRecDepth 100000 in
def uX1_join_55 : List zEn := (157, .iload_n 1, 1, 1, 0, [], 0) :: (158, .iload_n 2, 1, 2, 0, [], 0) :: (159, .idiv, 1, 0, 0, [], 0) :: uX1_join_58
set_option maxRecDepth 100000 in
def uX1_join_51 : List zEn := (149, .iload_n 2, 1, 2, 0, [], 0) :: (150, .ifCond .ne 7, 3, 55, 0, [], 0) :: (153, .iconst 0, 1, 0, 0, [], 0) :: (154, .goto 6, 3, 58, 0, [], 0) :: uX1_join_55
set_option maxRecDepth 100000 in
def uX1_join_47 : List zEn := (145, .iload_n 1, 1, 1, 0, [], 0) :: (146, .iload_n 2, 1, 2, 0, [], 0) :: (147, .imul, 1, 0, 0, [], 0) :: (148, .ireturn, 1, 0, 0, [], 0) :: uX1_join_51
set_option maxRecDepth 100000 in
def uX1_join_43 : List zEn := (141, .iload_n 1, 1, 1, 0, [], 0) :: (142, .iload_n 2, 1, 2, 0, [], 0) :: (143, .isub, 1, 0, 0, [], 0) :: (144, .ireturn, 1, 0, 0, [], 0) :: uX1_join_47
set_option maxRecDepth 100000 in
def uX1_join_39 : List zEn := (137, .iload_n 1, 1, 1, 0, [], 0) :: (138, .iload_n 2, 1, 2, 0, [], 0) :: (139, .iadd, 1, 0, 0, [], 0) :: (140, .ireturn, 1, 0, 0, [], 0) :: uX1_join_43
set_option maxRecDepth 100000 in
def uX1_join_38 : List zEn := (136, .ireturn, 1, 0, 0, [], 0) :: uX1_join_39
set_option maxRecDepth 100000 in
def uX1_join_37 : List zEn := (135, .iconst 0, 1, 0, 0, [], 0) :: uX1_join_38
set_option maxRecDepth 100000 in
def uX1_join_32 : List zEn := (126, .iload_n 1, 1, 1, 0, [], 0) :: (127, .iload_n 2, 1, 2, 0, [], 0) :: (128, .if_icmp .le 7, 3, 37, 0, [], 0) :: (131, .iconst 1, 1, 0, 0, [], 1) :: (132, .goto 4, 3, 38, 0, [], 0) :: uX1_join_37
set_option maxRecDepth 100000 in
def uX1_join_31 : List zEn := (125, .ireturn, 1, 0, 0, [], 0) :: uX1_join_32
set_option maxRecDepth 100000 in
def uX1_join_30 : List zEn := (124, .iconst 0, 1, 0, 0, [], 0) :: uX1_join_31
set_option maxRecDepth 100000 in
def uX1_join_25 : List zEn := (115, .iload_n 1, 1, 1, 0, [], 0) :: (116, .iload_n 2, 1, 2, 0, [], 0) :: (117, .if_icmp .ne 7, 3, 30, 0, [], 0) :: (120, .iconst 1, 1, 0, 0, [], 1) :: (121, .goto 4, 3, 31, 0, [], 0) :: uX1_join_30
set_option maxRecDepth 100000 in
def uX1_join_24 : List zEn := (114, .ireturn, 1, 0, 0, [], 0) :: uX1_join_25
set_option maxRecDepth 100000 in
def uX1_join_23 : List zEn := (113, .iconst 0, 1, 0, 0, [], 0) :: uX1_join_24
set_option maxRecDepth 100000 in
def uX1_join_18 : List zEn := (104, .iload_n 1, 1, 1, 0, [], 0) :: (105, .iload_n 2, 1, 2, 0, [], 0) :: (106, .if_icmp .ge 7, 3, 23, 0, [], 0) :: (109, .iconst 1, 1, 0, 0, [], 1) :: (110, .goto 4, 3, 24, 0, [], 0) :: uX1_join_23
set_option maxRecDepth 100000 in
def uX1_join_17 : List zEn := (103, .ireturn, 1, 0, 0, [], 0) :: uX1_join_18
set_option maxRecDepth 100000 in
def uX1_join_16 : List zEn := (102, .iconst 0, 1, 0, 0, [], 0) :: uX1_join_17
set_option maxRecDepth 100000 in
def uX1_join_10 : List zEn := (90, .iload_n 1, 1, 1, 0, [], 0) :: (91, .ifCond .eq 11, 3, 16, 0, [], 0) :: (94, .iload_n 2, 1, 2, 0, [], 0) :: (95, .ifCond .eq 7, 3, 16, 0, [], 0) :: (98, .iconst 1, 1, 0, 0, [], 1) :: (99, .goto 4, 3, 17, 0, [], 0) :: uX1_join_16
set_option maxRecDepth 100000 in
def uX1_join_9 : List zEn := (89, .ireturn, 1, 0, 0, [], 0) :: uX1_join_10
set_option maxRecDepth 100000 in
def uX1_join_8 : List zEn := (88, .iconst 0, 1, 0, 0, [], 0) :: uX1_join_9
set_option maxRecDepth 100000 in
def uX1_join_6 : List zEn := (84, .iconst 1, 1, 0, 0, [], 1) :: (85, .goto 4, 3, 9, 0, [], 0) :: uX1_join_8
set_option maxRecDepth 100000 in
def uX1_join_2 : List zEn := (76, .iload_n 1, 1, 1, 0, [], 0) :: (77, .ifCond .ne 7, 3, 6, 0, [], 0) :: (80, .iload_n 2, 1, 2, 0, [], 0) :: (81, .ifCond .eq 7, 3, 8, 0, [], 0) :: uX1_join_6
set_option maxRecDepth 100000 in
def uX1_join_0 : List zEn := (0, .iload_n 0, 1, 0, 0, [], 0) :: (1, .lookupswitch 148 #[(38, 89), (42, 144), (43, 136), (45, 140), (60, 103), (61, 114), (62, 125), (124, 75)], 75, 51, 0, [(38, 10), (42, 47), (43, 39), (45, 43), (60, 18), (61, 25), (62, 32), (124, 2)], 0) :: uX1_join_2
set_option maxRecDepth 100000 in
theorem jX1_join_2 : zj pX1_join 2 = uX1_join_2 := rfl
set_option maxRecDepth 100000 in
theorem jX1_join_6 : zj pX1_join 6 = uX1_join_6 := rfl
set_option maxRecDepth 100000 in
theorem jX1_join_8 : zj pX1_join 8 = uX1_join_8 := rfl
set_option maxRecDepth 100000 in
theorem jX1_join_9 : zj pX1_join 9 = uX1_join_9 := rfl
set_option maxRecDepth 100000 in
theorem jX1_join_10 : zj pX1_join 10 = uX1_join_10 := rfl
set_option maxRecDepth 100000 in
theorem jX1_join_16 : zj pX1_join 16 = uX1_join_16 := rfl
set_option maxRecDepth 100000 in
theorem jX1_join_17 : zj pX1_join 17 = uX1_join_17 := rfl
set_option maxRecDepth 100000 in
theorem jX1_join_18 : zj pX1_join 18 = uX1_join_18 := rfl
set_option maxRecDepth 100000 in
theorem jX1_join_23 : zj pX1_join 23 = uX1_join_23 := rfl
set_option maxRecDepth 100000 in
theorem jX1_join_24 : zj pX1_join 24 = uX1_join_24 := rfl
set_option maxRecDepth 100000 in
theorem jX1_join_25 : zj pX1_join 25 = uX1_join_25 := rfl
set_option maxRecDepth 100000 in
theorem jX1_join_30 : zj pX1_join 30 = uX1_join_30 := rfl
set_option maxRecDepth 100000 in
theorem jX1_join_31 : zj pX1_join 31 = uX1_join_31 := rfl
set_option maxRecDepth 100000 in
theorem jX1_join_32 : zj pX1_join 32 = uX1_join_32 := rfl
set_option maxRecDepth 100000 in
theorem jX1_join_37 : zj pX1_join 37 = uX1_join_37 := rfl
set_option maxRecDepth 100000 in
theorem jX1_join_38 : zj pX1_join 38 = uX1_join_38 := rfl
set_option maxRecDepth 100000 in
theorem jX1_join_39 : zj pX1_join 39 = uX1_join_39 := rfl
set_option maxRecDepth 100000 in
theorem jX1_join_43 : zj pX1_join 43 = uX1_join_43 := rfl
set_option maxRecDepth 100000 in
theorem jX1_join_47 : zj pX1_join 47 = uX1_join_47 := rfl
set_option maxRecDepth 100000 in
theorem jX1_join_51 : zj pX1_join 51 = uX1_join_51 := rfl
set_option maxRecDepth 100000 in
theorem jX1_join_55 : zj pX1_join 55 = uX1_join_55 := rfl
set_option maxRecDepth 100000 in
theorem jX1_join_58 : zj pX1_join 58 = uX1_join_58 := rfl
set_option maxRecDepth 100000 in
def uX1_named_21 : List zEn := (121, .iconst 0, 1, 0, 0, [], 0) :: (122, .ireturn, 1, 0, 0, [], 0) :: []
set_option maxRecDepth 100000 in
def uX1_named_18 : List zEn := (116, .aload_n 1, 1, 1, 0, [], 0) :: (117, .getfield 83, 3, 3, 9, [(0, 0), (0, 243)], 0) :: (120, .ireturn, 1, 0, 0, [], 0) :: uX1_named_21
set_option maxRecDepth 100000 in
def uX1_named_14 : List zEn := (108, .aload_n 1, 1, 1, 0, [], 0) :: (109, .getfield 80, 3, 3, 3, [(0, 0), (0, 223)], 0) :: (112, .invokestatic 71, 3, 46, 1, [(0, 1), (0, 0), (0, 0), (0, 634)], 0) :: (115, .ireturn, 1, 0, 0, [], 0) :: uX1_named_18
set_option maxRecDepth 100000 in
def uX1_named_12 : List zEn := (106, .iload_n 2, 1, 2, 0, [], 0) :: (107, .ireturn, 1, 0, 0, [], 0) :: uX1_named_14
set_option maxRecDepth 100000 in
def uX1_named_9 : List zEn := (101, .aload_n 1, 1, 1, 0, [], 0) :: (102, .invokevirtual 76, 3, 49, 1, [(0, 1), (0, 0), (0, 0), (0, 3), (0, 635)], 0) :: (105, .ireturn, 1, 0, 0, [], 0) :: uX1_named_12
set_option maxRecDepth 100000 in
def uX1_named_5 : List zEn := (93, .aload_n 1, 1, 1, 0, [], 0) :: (94, .getfield 68, 3, 3, 4, [(0, 0), (0, 228)], 0) :: (97, .invokestatic 71, 3, 46, 1, [(0, 1), (0, 0), (0, 0), (0, 634)], 0) :: (100, .ireturn, 1, 0, 0, [], 0) :: uX1_named_9
set_option maxRecDepth 100000 in
def uX1_named_2 : List zEn := (88, .aload_n 1, 1, 1, 0, [], 0) :: (89, .getfield 63, 3, 3, 0, [(0, 0), (0, 213)], 0) :: (92, .ireturn, 1, 0, 0, [], 0) :: uX1_named_5
set_option maxRecDepth 100000 in
def uX1_named_0 : List zEn := (0, .iload_n 0, 1, 0, 0, [], 0) :: (1, .tableswitch 120 98 115 #[115, 120, 105, 120, 92, 107, 120, 120, 120, 87, 120, 120, 120, 120, 120, 120, 120, 100], 87, 21, 0, [(98, 18), (99, 21), (100, 12), (101, 21), (102, 5), (103, 14), (104, 21), (105, 21), (106, 21), (107, 2), (108, 21), (109, 21), (110, 21), (111, 21), (112, 21), (113, 21), (114, 21), (115, 9)], 0) :: uX1_named_2
set_option maxRecDepth 100000 in
theorem jX1_named_2 : zj pX1_named 2 = uX1_named_2 := rfl
set_option maxRecDepth 100000 in
theorem jX1_named_5 : zj pX1_named 5 = uX1_named_5 := rfl
set_option maxRecDepth 100000 in
theorem jX1_named_9 : zj pX1_named 9 = uX1_named_9 := rfl
set_option maxRecDepth 100000 in
theorem jX1_named_12 : zj pX1_named 12 = uX1_named_12 := rfl
set_option maxRecDepth 100000 in
theorem jX1_named_14 : zj pX1_named 14 = uX1_named_14 := rfl
set_option maxRecDepth 100000 in
theorem jX1_named_18 : zj pX1_named 18 = uX1_named_18 := rfl
set_option maxRecDepth 100000 in
theorem jX1_named_21 : zj pX1_named 21 = uX1_named_21 := rfl
set_option maxRecDepth 100000 in
def uX1_worksOut_84 : List zEn := (163, .ireturn, 1, 0, 0, [], 0) :: []
set_option maxRecDepth 100000 in
def uX1_worksOut_80 : List zEn := (156, .aload_n 0, 1, 0, 0, [], 0) :: (157, .getfield 26, 3, 1, 3, [(0, 2), (0, 154)], 0) :: (160, .iload 4, 2, 4, 0, [], 0) :: (162, .iaload, 1, 0, 0, [], 0) :: uX1_worksOut_84
set_option maxRecDepth 100000 in
def uX1_worksOut_76 : List zEn := (147, .iload 4, 2, 4, 0, [], 0) :: (149, .ifCond .ge 7, 3, 80, 0, [], 0) :: (152, .iconst 0, 1, 0, 0, [], 0) :: (153, .goto 10, 3, 84, 0, [], 0) :: uX1_worksOut_80
set_option maxRecDepth 100000 in
def uX1_worksOut_74 : List zEn := (141, .iinc 5 1, 3, 5, 0, [], 1) :: (144, .goto (-138), 3, 4, 0, [], 0) :: uX1_worksOut_76
set_option maxRecDepth 100000 in
def uX1_worksOut_73 : List zEn := (140, .iastore, 1, 0, 0, [], 0) :: uX1_worksOut_74
set_option maxRecDepth 100000 in
def uX1_worksOut_68 : List zEn := (132, .iload 6, 2, 6, 0, [], 0) :: (134, .ineg, 1, 0, 0, [], 0) :: (135, .aload_n 2, 1, 2, 0, [], 0) :: (136, .iload_n 3, 1, 3, 0, [], 0) :: (137, .invokestatic 53, 3, 56, 3, [(0, 1), (0, 0), (0, 0), (0, 631)], 0) :: uX1_worksOut_73
set_option maxRecDepth 100000 in
def uX1_worksOut_57 : List zEn := (106, .iload 4, 2, 4, 0, [], 0) :: (108, .bipush 95, 2, 0, 0, [], 95) :: (110, .if_icmp .ge 31, 3, 74, 0, [], 0) :: (113, .iinc 4 1, 3, 4, 0, [], 1) :: (116, .aload_n 0, 1, 0, 0, [], 0) :: (117, .getfield 26, 3, 1, 3, [(0, 2), (0, 154)], 0) :: (120, .iload 4, 2, 4, 0, [], 0) :: (122, .iload 6, 2, 6, 0, [], 0) :: (124, .ifCond .lt 8, 3, 68, 0, [], 0) :: (127, .iload 6, 2, 6, 0, [], 0) :: (129, .goto 11, 3, 73, 0, [], 0) :: uX1_worksOut_68
set_option maxRecDepth 100000 in
def uX1_worksOut_31 : List zEn := (56, .iload 6, 2, 6, 0, [], 0) :: (58, .ineg, 1, 0, 0, [], 0) :: (59, .invokestatic 45, 3, 54, 1, [(0, 1), (0, 0), (0, 0), (0, 622)], 0) :: (62, .ifCond .eq 44, 3, 57, 0, [], 0) :: (65, .iload 4, 2, 4, 0, [], 0) :: (67, .iconst 1, 1, 0, 0, [], 1) :: (68, .if_icmp .lt 38, 3, 57, 0, [], 0) :: (71, .iinc 4 (-1), 3, 4, 0, [], (-1)) :: (74, .aload_n 0, 1, 0, 0, [], 0) :: (75, .getfield 26, 3, 1, 3, [(0, 2), (0, 154)], 0) :: (78, .iload 4, 2, 4, 0, [], 0) :: (80, .iload 6, 2, 6, 0, [], 0) :: (82, .ineg, 1, 0, 0, [], 0) :: (83, .aload_n 0, 1, 0, 0, [], 0) :: (84, .getfield 26, 3, 1, 3, [(0, 2), (0, 154)], 0) :: (87, .iload 4, 2, 4, 0, [], 0) :: (89, .iaload, 1, 0, 0, [], 0) :: (90, .aload_n 0, 1, 0, 0, [], 0) :: (91, .getfield 26, 3, 1, 3, [(0, 2), (0, 154)], 0) :: (94, .iload 4, 2, 4, 0, [], 0) :: (96, .iconst 1, 1, 0, 0, [], 1) :: (97, .iadd, 1, 0, 0, [], 0) :: (98, .iaload, 1, 0, 0, [], 0) :: (99, .invokestatic 49, 3, 55, 3, [(0, 1), (0, 0), (0, 0), (0, 628)], 0) :: (102, .iastore, 1, 0, 0, [], 0) :: (103, .goto 38, 3, 74, 0, [], 0) :: uX1_worksOut_57
set_option maxRecDepth 100000 in
def uX1_worksOut_29 : List zEn := (52, .iastore, 1, 0, 0, [], 0) :: (53, .goto 88, 3, 74, 0, [], 0) :: uX1_worksOut_31
set_option maxRecDepth 100000 in
def uX1_worksOut_28 : List zEn := (51, .iconst 0, 1, 0, 0, [], 0) :: uX1_worksOut_29
set_option maxRecDepth 100000 in
def uX1_worksOut_5 : List zEn := (6, .iload 5, 2, 5, 0, [], 0) :: (8, .aload_n 1, 1, 1, 0, [], 0) :: (9, .arraylength, 1, 0, 0, [], 0) :: (10, .if_icmp .ge 137, 3, 76, 0, [], 0) :: (13, .aload_n 1, 1, 1, 0, [], 0) :: (14, .iload 5, 2, 5, 0, [], 0) :: (16, .iaload, 1, 0, 0, [], 0) :: (17, .istore 6, 2, 6, 0, [], 0) :: (19, .iload 6, 2, 6, 0, [], 0) :: (21, .bipush (-33), 2, 0, 0, [], (-33)) :: (23, .if_icmp .ne 33, 3, 31, 0, [], 0) :: (26, .iload 4, 2, 4, 0, [], 0) :: (28, .ifCond .lt 28, 3, 31, 0, [], 0) :: (31, .aload_n 0, 1, 0, 0, [], 0) :: (32, .getfield 26, 3, 1, 3, [(0, 2), (0, 154)], 0) :: (35, .iload 4, 2, 4, 0, [], 0) :: (37, .aload_n 0, 1, 0, 0, [], 0) :: (38, .getfield 26, 3, 1, 3, [(0, 2), (0, 154)], 0) :: (41, .iload 4, 2, 4, 0, [], 0) :: (43, .iaload, 1, 0, 0, [], 0) :: (44, .ifCond .ne 7, 3, 28, 0, [], 0) :: (47, .iconst 1, 1, 0, 0, [], 1) :: (48, .goto 4, 3, 29, 0, [], 0) :: uX1_worksOut_28
set_option maxRecDepth 100000 in
def tX1_worksOut_5 : List zEn := uX1_worksOut_5
set_option maxRecDepth 100000 in
def uX1_worksOut_4 : List zEn := (6, .nop, 0, 0, 0, [], 0) :: tX1_worksOut_5
set_option maxRecDepth 100000 in
def uX1_worksOut_0 : List zEn := (0, .iconst (-1), 1, 0, 0, [], (-1)) :: (1, .istore 4, 2, 4, 0, [], 0) :: (3, .iconst 0, 1, 0, 0, [], 0) :: (4, .istore 5, 2, 5, 0, [], 0) :: uX1_worksOut_4
set_option maxRecDepth 100000 in
theorem jX1_worksOut_4 : zj pX1_worksOut 4 = uX1_worksOut_4 := rfl
set_option maxRecDepth 100000 in
theorem jX1_worksOut_28 : zj pX1_worksOut 28 = uX1_worksOut_28 := rfl
set_option maxRecDepth 100000 in
theorem jX1_worksOut_29 : zj pX1_worksOut 29 = uX1_worksOut_29 := rfl
set_option maxRecDepth 100000 in
theorem jX1_worksOut_31 : zj pX1_worksOut 31 = uX1_worksOut_31 := rfl
set_option maxRecDepth 100000 in
theorem jX1_worksOut_57 : zj pX1_worksOut 57 = uX1_worksOut_57 := rfl
set_option maxRecDepth 100000 in
theorem jX1_worksOut_68 : zj pX1_worksOut 68 = uX1_worksOut_68 := rfl
set_option maxRecDepth 100000 in
theorem jX1_worksOut_73 : zj pX1_worksOut 73 = uX1_worksOut_73 := rfl
set_option maxRecDepth 100000 in
theorem jX1_worksOut_74 : zj pX1_worksOut 74 = uX1_worksOut_74 := rfl
set_option maxRecDepth 100000 in
theorem jX1_worksOut_76 : zj pX1_worksOut 76 = uX1_worksOut_76 := rfl
set_option maxRecDepth 100000 in
theorem jX1_worksOut_80 : zj pX1_worksOut 80 = uX1_worksOut_80 := rfl
set_option maxRecDepth 100000 in
theorem jX1_worksOut_84 : zj pX1_worksOut 84 = uX1_worksOut_84 := rfl
set_option maxRecDepth 100000 in
def uX1_gives_17 : List zEn := (33, .aload_n 0, 1, 0, 0, [], 0) :: (34, .aload_n 0, 1, 0, 0, [], 0) :: (35, .getfield 11, 3, 1, 0, [(0, 2), (0, 148)], 0) :: (38, .iload 5, 2, 5, 0, [], 0) :: (40, .aaload, 1, 0, 0, [], 0) :: (41, .getfield 38, 3, 9, 2, [(0, 2), (0, 1013)], 0) :: (44, .aload_n 2, 1, 2, 0, [], 0) :: (45, .iload_n 3, 1, 3, 0, [], 0) :: (46, .invokevirtual 41, 3, 57, 4, [(0, 1), (0, 0), (0, 0), (0, 1), (0, 618)], 0) :: (49, .ireturn, 1, 0, 0, [], 0) :: []
set_option maxRecDepth 100000 in
def uX1_gives_15 : List zEn := (30, .iload 4, 2, 4, 0, [], 0) :: (32, .ireturn, 1, 0, 0, [], 0) :: uX1_gives_17
set_option maxRecDepth 100000 in
def uX1_gives_0 : List zEn := (0, .aload_n 0, 1, 0, 0, [], 0) :: (1, .getfield 22, 3, 1, 2, [(0, 2), (0, 152)], 0) :: (4, .iload_n 1, 1, 1, 0, [], 0) :: (5, .iaload, 1, 0, 0, [], 0) :: (6, .istore 5, 2, 5, 0, [], 0) :: (8, .iload 5, 2, 5, 0, [], 0) :: (10, .ifCond .lt 20, 3, 15, 0, [], 0) :: (13, .iload 5, 2, 5, 0, [], 0) :: (15, .bipush 14, 2, 0, 0, [], 14) :: (17, .if_icmp .ge 13, 3, 15, 0, [], 0) :: (20, .aload_n 0, 1, 0, 0, [], 0) :: (21, .getfield 11, 3, 1, 0, [(0, 2), (0, 148)], 0) :: (24, .iload 5, 2, 5, 0, [], 0) :: (26, .aaload, 1, 0, 0, [], 0) :: (27, .ifnonnull 6, 3, 17, 0, [], 0) :: uX1_gives_15
set_option maxRecDepth 100000 in
theorem jX1_gives_15 : zj pX1_gives 15 = uX1_gives_15 := rfl
set_option maxRecDepth 100000 in
theorem jX1_gives_17 : zj pX1_gives 17 = uX1_gives_17 := rfl
set_option maxRecDepth 100000 in
def uX6_isForeseen_22 : List zEn := (44, .ireturn, 1, 1, 0, [], 0) :: []
set_option maxRecDepth 100000 in
def uX6_isForeseen_21 : List zEn := (43, .iconst 0, 1, 0, 0, [], 0) :: uX6_isForeseen_22
set_option maxRecDepth 100000 in
def uX6_isForeseen_17 : List zEn := (33, .invokevirtual 136, 3, 58, 5, [(0, 1), (0, 0), (0, 0), (0, 1), (0, 614)], 0) :: (36, .ifCond .eq 7, 3, 21, 0, [], 0) :: (39, .iconst 1, 1, 0, 0, [], 1) :: (40, .goto 4, 3, 22, 0, [], 0) :: uX6_isForeseen_21
set_option maxRecDepth 100000 in
def uX6_isForeseen_16 : List zEn := (32, .iconst 0, 1, 0, 0, [], 0) :: uX6_isForeseen_17
set_option maxRecDepth 100000 in
def uX6_isForeseen_0 : List zEn := (0, .aload_n 1, 1, 1, 0, [], 0) :: (1, .getfield 143, 3, 3, 9, [(0, 0), (0, 244)], 0) :: (4, .ldc 146, 2, 0, 0, [(0, 613)], (-1000000005)) :: (6, .if_icmp .eq 37, 3, 21, 0, [], 0) :: (9, .aload_n 0, 1, 0, 0, [], 0) :: (10, .getfield 47, 3, 6, 7, [(0, 2), (0, 288)], 0) :: (13, .iconst 2, 1, 0, 0, [], 2) :: (14, .aload_n 1, 1, 1, 0, [], 0) :: (15, .aload_n 0, 1, 0, 0, [], 0) :: (16, .getfield 58, 3, 6, 9, [(0, 0), (0, 292)], 0) :: (19, .aload_n 1, 1, 1, 0, [], 0) :: (20, .invokevirtual 122, 3, 49, 1, [(0, 1), (0, 0), (0, 0), (0, 3), (0, 606)], 0) :: (23, .bipush 20, 2, 0, 0, [], 20) :: (25, .if_icmp .ge 7, 3, 16, 0, [], 0) :: (28, .iconst 1, 1, 0, 0, [], 1) :: (29, .goto 4, 3, 17, 0, [], 0) :: uX6_isForeseen_16
set_option maxRecDepth 100000 in
theorem jX6_isForeseen_16 : zj pX6_isForeseen 16 = uX6_isForeseen_16 := rfl
set_option maxRecDepth 100000 in
theorem jX6_isForeseen_17 : zj pX6_isForeseen 17 = uX6_isForeseen_17 := rfl
set_option maxRecDepth 100000 in
theorem jX6_isForeseen_21 : zj pX6_isForeseen 21 = uX6_isForeseen_21 := rfl
set_option maxRecDepth 100000 in
theorem jX6_isForeseen_22 : zj pX6_isForeseen 22 = uX6_isForeseen_22 := rfl
set_option maxRecDepth 100000 in
def uX3_fact_47 : List zEn := (155, .ldc 47, 2, 0, 0, [(0, 640)], (-1000000001)) :: (157, .ireturn, 1, 0, 0, [], 0) :: []
set_option maxRecDepth 100000 in
def uX3_fact_46 : List zEn := (154, .ireturn, 1, 0, 0, [], 0) :: uX3_fact_47
set_option maxRecDepth 100000 in
def uX3_fact_45 : List zEn := (153, .iconst 0, 1, 0, 0, [], 0) :: uX3_fact_46
set_option maxRecDepth 100000 in
def uX3_fact_40 : List zEn := (142, .aload_n 0, 1, 0, 0, [], 0) :: (143, .getfield 44, 3, 3, 10, [(0, 1), (0, 245)], 0) :: (146, .ifCond .eq 7, 3, 45, 0, [], 0) :: (149, .iconst 1, 1, 0, 0, [], 1) :: (150, .goto 4, 3, 46, 0, [], 0) :: uX3_fact_45
set_option maxRecDepth 100000 in
def uX3_fact_37 : List zEn := (137, .aload_n 0, 1, 0, 0, [], 0) :: (138, .getfield 41, 3, 3, 9, [(0, 0), (0, 242)], 0) :: (141, .ireturn, 1, 0, 0, [], 0) :: uX3_fact_40
set_option maxRecDepth 100000 in
def uX3_fact_34 : List zEn := (132, .aload_n 0, 1, 0, 0, [], 0) :: (133, .getfield 37, 3, 3, 8, [(0, 0), (0, 239)], 0) :: (136, .ireturn, 1, 0, 0, [], 0) :: uX3_fact_37
set_option maxRecDepth 100000 in
def uX3_fact_33 : List zEn := (131, .ireturn, 1, 0, 0, [], 0) :: uX3_fact_34
set_option maxRecDepth 100000 in
def uX3_fact_32 : List zEn := (130, .iconst 0, 1, 0, 0, [], 0) :: uX3_fact_33
set_option maxRecDepth 100000 in
def uX3_fact_27 : List zEn := (119, .aload_n 0, 1, 0, 0, [], 0) :: (120, .getfield 34, 3, 3, 7, [(0, 1), (0, 236)], 0) :: (123, .ifCond .eq 7, 3, 32, 0, [], 0) :: (126, .iconst 1, 1, 0, 0, [], 1) :: (127, .goto 4, 3, 33, 0, [], 0) :: uX3_fact_32
set_option maxRecDepth 100000 in
def uX3_fact_26 : List zEn := (118, .ireturn, 1, 0, 0, [], 0) :: uX3_fact_27
set_option maxRecDepth 100000 in
def uX3_fact_25 : List zEn := (117, .iconst 0, 1, 0, 0, [], 0) :: uX3_fact_26
set_option maxRecDepth 100000 in
def uX3_fact_20 : List zEn := (106, .aload_n 0, 1, 0, 0, [], 0) :: (107, .getfield 30, 3, 3, 6, [(0, 1), (0, 233)], 0) :: (110, .ifCond .eq 7, 3, 25, 0, [], 0) :: (113, .iconst 1, 1, 0, 0, [], 1) :: (114, .goto 4, 3, 26, 0, [], 0) :: uX3_fact_25
set_option maxRecDepth 100000 in
def uX3_fact_17 : List zEn := (101, .aload_n 0, 1, 0, 0, [], 0) :: (102, .getfield 27, 3, 3, 5, [(0, 0), (0, 229)], 0) :: (105, .ireturn, 1, 0, 0, [], 0) :: uX3_fact_20
set_option maxRecDepth 100000 in
def uX3_fact_14 : List zEn := (96, .aload_n 0, 1, 0, 0, [], 0) :: (97, .getfield 24, 3, 3, 4, [(0, 0), (0, 225)], 0) :: (100, .ireturn, 1, 0, 0, [], 0) :: uX3_fact_17
set_option maxRecDepth 100000 in
def uX3_fact_11 : List zEn := (91, .aload_n 0, 1, 0, 0, [], 0) :: (92, .getfield 21, 3, 3, 3, [(0, 0), (0, 221)], 0) :: (95, .ireturn, 1, 0, 0, [], 0) :: uX3_fact_14
set_option maxRecDepth 100000 in
def uX3_fact_8 : List zEn := (86, .aload_n 0, 1, 0, 0, [], 0) :: (87, .getfield 18, 3, 3, 2, [(0, 0), (0, 219)], 0) :: (90, .ireturn, 1, 0, 0, [], 0) :: uX3_fact_11
set_option maxRecDepth 100000 in
def uX3_fact_5 : List zEn := (81, .aload_n 0, 1, 0, 0, [], 0) :: (82, .getfield 15, 3, 3, 1, [(0, 0), (0, 216)], 0) :: (85, .ireturn, 1, 0, 0, [], 0) :: uX3_fact_8
set_option maxRecDepth 100000 in
def uX3_fact_2 : List zEn := (76, .aload_n 0, 1, 0, 0, [], 0) :: (77, .getfield 9, 3, 3, 0, [(0, 0), (0, 211)], 0) :: (80, .ireturn, 1, 0, 0, [], 0) :: uX3_fact_5
set_option maxRecDepth 100000 in
def uX3_fact_0 : List zEn := (0, .iload_n 1, 1, 1, 0, [], 0) :: (1, .tableswitch 154 0 14 #[75, 80, 85, 90, 95, 100, 105, 118, 154, 154, 154, 154, 131, 136, 141], 75, 47, 0, [(0, 2), (1, 5), (2, 8), (3, 11), (4, 14), (5, 17), (6, 20), (7, 27), (8, 47), (9, 47), (10, 47), (11, 47), (12, 34), (13, 37), (14, 40)], 0) :: uX3_fact_2
set_option maxRecDepth 100000 in
theorem jX3_fact_2 : zj pX3_fact 2 = uX3_fact_2 := rfl
set_option maxRecDepth 100000 in
theorem jX3_fact_5 : zj pX3_fact 5 = uX3_fact_5 := rfl
set_option maxRecDepth 100000 in
theorem jX3_fact_8 : zj pX3_fact 8 = uX3_fact_8 := rfl
set_option maxRecDepth 100000 in
theorem jX3_fact_11 : zj pX3_fact 11 = uX3_fact_11 := rfl
set_option maxRecDepth 100000 in
theorem jX3_fact_14 : zj pX3_fact 14 = uX3_fact_14 := rfl
set_option maxRecDepth 100000 in
theorem jX3_fact_17 : zj pX3_fact 17 = uX3_fact_17 := rfl
set_option maxRecDepth 100000 in
theorem jX3_fact_20 : zj pX3_fact 20 = uX3_fact_20 := rfl
set_option maxRecDepth 100000 in
theorem jX3_fact_25 : zj pX3_fact 25 = uX3_fact_25 := rfl
set_option maxRecDepth 100000 in
theorem jX3_fact_26 : zj pX3_fact 26 = uX3_fact_26 := rfl
set_option maxRecDepth 100000 in
theorem jX3_fact_27 : zj pX3_fact 27 = uX3_fact_27 := rfl
set_option maxRecDepth 100000 in
theorem jX3_fact_32 : zj pX3_fact 32 = uX3_fact_32 := rfl
set_option maxRecDepth 100000 in
theorem jX3_fact_33 : zj pX3_fact 33 = uX3_fact_33 := rfl
set_option maxRecDepth 100000 in
theorem jX3_fact_34 : zj pX3_fact 34 = uX3_fact_34 := rfl
set_option maxRecDepth 100000 in
theorem jX3_fact_37 : zj pX3_fact 37 = uX3_fact_37 := rfl
set_option maxRecDepth 100000 in
theorem jX3_fact_40 : zj pX3_fact 40 = uX3_fact_40 := rfl
set_option maxRecDepth 100000 in
theorem jX3_fact_45 : zj pX3_fact 45 = uX3_fact_45 := rfl
set_option maxRecDepth 100000 in
theorem jX3_fact_46 : zj pX3_fact 46 = uX3_fact_46 := rfl
set_option maxRecDepth 100000 in
theorem jX3_fact_47 : zj pX3_fact 47 = uX3_fact_47 := rfl
set_option maxRecDepth 100000 in
def uX11_told_42 : List zEn := (121, .aload_n 3, 1, 3, 0, [], 0) :: (122, .iload_n 2, 1, 2, 0, [], 0) :: (123, .invokevirtual 148, 3, 60, 2, [(0, 1), (0, 0), (0, 0), (0, 3), (0, 636)], 0) :: (126, .ireturn, 1, 0, 0, [], 0) :: []
set_option maxRecDepth 100000 in
def uX11_told_41 : List zEn := (120, .ireturn, 1, 0, 0, [], 0) :: uX11_told_42
set_option maxRecDepth 100000 in
def uX11_told_40 : List zEn := (119, .iconst 0, 1, 0, 0, [], 0) :: uX11_told_41
set_option maxRecDepth 100000 in
def uX11_told_33 : List zEn := (104, .aload_n 0, 1, 0, 0, [], 0) :: (105, .getfield 10, 3, 11, 0, [(0, 2), (0, 457)], 0) :: (108, .aload_n 3, 1, 3, 0, [], 0) :: (109, .invokevirtual 144, 3, 59, 2, [(0, 1), (0, 0), (0, 0), (0, 6), (0, 609)], 0) :: (112, .ifCond .eq 7, 3, 40, 0, [], 0) :: (115, .iconst 1, 1, 0, 0, [], 1) :: (116, .goto 4, 3, 41, 0, [], 0) :: uX11_told_40
set_option maxRecDepth 100000 in
def uX11_told_28 : List zEn := (95, .aload_n 0, 1, 0, 0, [], 0) :: (96, .getfield 10, 3, 11, 0, [(0, 2), (0, 457)], 0) :: (99, .aload_n 3, 1, 3, 0, [], 0) :: (100, .invokevirtual 140, 3, 52, 2, [(0, 1), (0, 0), (0, 0), (0, 6), (0, 596)], 0) :: (103, .ireturn, 1, 0, 0, [], 0) :: uX11_told_33
set_option maxRecDepth 100000 in
def uX11_told_25 : List zEn := (90, .aload_n 3, 1, 3, 0, [], 0) :: (91, .invokevirtual 137, 3, 50, 1, [(0, 1), (0, 0), (0, 0), (0, 3), (0, 592)], 0) :: (94, .ireturn, 1, 0, 0, [], 0) :: uX11_told_28
set_option maxRecDepth 100000 in
def uX11_told_22 : List zEn := (85, .aload_n 3, 1, 3, 0, [], 0) :: (86, .invokevirtual 134, 3, 49, 1, [(0, 1), (0, 0), (0, 0), (0, 3), (0, 587)], 0) :: (89, .ireturn, 1, 0, 0, [], 0) :: uX11_told_25
set_option maxRecDepth 100000 in
def uX11_told_19 : List zEn := (80, .aload_n 3, 1, 3, 0, [], 0) :: (81, .invokevirtual 128, 3, 48, 1, [(0, 1), (0, 0), (0, 0), (0, 3), (0, 569)], 0) :: (84, .ireturn, 1, 0, 0, [], 0) :: uX11_told_22
set_option maxRecDepth 100000 in
def uX11_told_11 : List zEn := (21, .aload_n 0, 1, 0, 0, [], 0) :: (22, .getfield 10, 3, 11, 0, [(0, 2), (0, 457)], 0) :: (25, .getfield 124, 3, 6, 3, [(0, 2), (0, 279)], 0) :: (28, .iload_n 1, 1, 1, 0, [], 0) :: (29, .aaload, 1, 0, 0, [], 0) :: (30, .astore_n 3, 1, 3, 0, [], 0) :: (31, .iload_n 2, 1, 2, 0, [], 0) :: (32, .tableswitch 89 8 15 #[48, 53, 58, 63, 89, 89, 89, 72], 48, 42, 0, [(8, 19), (9, 22), (10, 25), (11, 28), (12, 42), (13, 42), (14, 42), (15, 33)], 0) :: uX11_told_19
set_option maxRecDepth 100000 in
def uX11_told_9 : List zEn := (18, .ldc 75, 2, 0, 0, [(0, 498)], (-1000000001)) :: (20, .ireturn, 1, 0, 0, [], 0) :: uX11_told_11
set_option maxRecDepth 100000 in
def uX11_told_0 : List zEn := (0, .aload_n 0, 1, 0, 0, [], 0) :: (1, .iload_n 1, 1, 1, 0, [], 0) :: (2, .invokevirtual 121, 3, 44, 2, [(0, 1), (0, 0), (0, 0), (0, 11), (0, 565)], 0) :: (5, .ifCond .eq 13, 3, 9, 0, [], 0) :: (8, .iload_n 2, 1, 2, 0, [], 0) :: (9, .iconst 0, 1, 0, 0, [], 0) :: (10, .bipush 15, 2, 0, 0, [], 15) :: (12, .invokestatic 68, 3, 12, 3, [(0, 1), (0, 0), (0, 0), (0, 495)], 0) :: (15, .ifCond .ne 6, 3, 11, 0, [], 0) :: uX11_told_9
set_option maxRecDepth 100000 in
theorem jX11_told_9 : zj pX11_told 9 = uX11_told_9 := rfl
set_option maxRecDepth 100000 in
theorem jX11_told_11 : zj pX11_told 11 = uX11_told_11 := rfl
set_option maxRecDepth 100000 in
theorem jX11_told_19 : zj pX11_told 19 = uX11_told_19 := rfl
set_option maxRecDepth 100000 in
theorem jX11_told_22 : zj pX11_told 22 = uX11_told_22 := rfl
set_option maxRecDepth 100000 in
theorem jX11_told_25 : zj pX11_told 25 = uX11_told_25 := rfl
set_option maxRecDepth 100000 in
theorem jX11_told_28 : zj pX11_told 28 = uX11_told_28 := rfl
set_option maxRecDepth 100000 in
theorem jX11_told_33 : zj pX11_told 33 = uX11_told_33 := rfl
set_option maxRecDepth 100000 in
theorem jX11_told_40 : zj pX11_told 40 = uX11_told_40 := rfl
set_option maxRecDepth 100000 in
theorem jX11_told_41 : zj pX11_told 41 = uX11_told_41 := rfl
set_option maxRecDepth 100000 in
theorem jX11_told_42 : zj pX11_told 42 = uX11_told_42 := rfl
set_option maxRecDepth 100000 in
def uX12_isPhone_0 : List zEn := (0, .iload_n 1, 1, 1, 0, [], 0) :: (1, .i2l, 1, 0, 0, [], 0) :: (2, .lconst 0, 1, 0, 0, [], 0) :: (3, .aload_n 0, 1, 0, 0, [], 0) :: (4, .getfield 7, 3, 12, 0, [(0, 2), (0, 1250)], 0) :: (7, .iconst 1, 1, 0, 0, [], 1) :: (8, .iaload, 1, 0, 0, [], 0) :: (9, .iconst 1, 1, 0, 0, [], 1) :: (10, .isub, 1, 0, 0, [], 0) :: (11, .i2l, 1, 0, 0, [], 0) :: (12, .invokestatic 77, 3, 15, 3, [(0, 1), (0, 0), (0, 0), (0, 1368)], 0) :: (15, .ireturn, 1, 1, 0, [], 0) :: []
set_option maxRecDepth 100000 in
def uX12_ones_18 : List zEn := (24, .iload_n 1, 1, 1, 0, [], 0) :: (25, .ireturn, 1, 0, 0, [], 0) :: []
set_option maxRecDepth 100000 in
def uX12_ones_5 : List zEn := (4, .iload_n 2, 1, 2, 0, [], 0) :: (5, .bipush 8, 2, 0, 0, [], 8) :: (7, .if_icmp .ge 17, 3, 18, 0, [], 0) :: (10, .iload_n 1, 1, 1, 0, [], 0) :: (11, .iload_n 0, 1, 0, 0, [], 0) :: (12, .iload_n 2, 1, 2, 0, [], 0) :: (13, .ishr, 1, 0, 0, [], 0) :: (14, .iconst 1, 1, 0, 0, [], 1) :: (15, .iand, 1, 0, 0, [], 0) :: (16, .iadd, 1, 0, 0, [], 0) :: (17, .istore_n 1, 1, 1, 0, [], 0) :: (18, .iinc 2 1, 3, 2, 0, [], 1) :: (21, .goto (-17), 3, 4, 0, [], 0) :: uX12_ones_18
set_option maxRecDepth 100000 in
def tX12_ones_5 : List zEn := uX12_ones_5
set_option maxRecDepth 100000 in
def uX12_ones_4 : List zEn := (4, .nop, 0, 0, 0, [], 0) :: tX12_ones_5
set_option maxRecDepth 100000 in
def uX12_ones_0 : List zEn := (0, .iconst 0, 1, 0, 0, [], 0) :: (1, .istore_n 1, 1, 1, 0, [], 0) :: (2, .iconst 0, 1, 0, 0, [], 0) :: (3, .istore_n 2, 1, 2, 0, [], 0) :: uX12_ones_4
set_option maxRecDepth 100000 in
theorem jX12_ones_4 : zj pX12_ones 4 = uX12_ones_4 := rfl
set_option maxRecDepth 100000 in
theorem jX12_ones_18 : zj pX12_ones 18 = uX12_ones_18 := rfl
set_option maxRecDepth 100000 in
def uX12_harmOf_29 : List zEn := (71, .iconst 5, 1, 0, 0, [], 5) :: (72, .ireturn, 1, 0, 0, [], 0) :: []
set_option maxRecDepth 100000 in
def uX12_harmOf_27 : List zEn := (68, .bipush 99, 2, 0, 0, [], 99) :: (70, .ireturn, 1, 0, 0, [], 0) :: uX12_harmOf_29
set_option maxRecDepth 100000 in
def uX12_harmOf_21 : List zEn := (60, .bipush 10, 2, 0, 0, [], 10) :: (62, .iload_n 2, 1, 2, 0, [], 0) :: (63, .bipush 100, 2, 0, 0, [], 100) :: (65, .idiv, 1, 0, 0, [], 0) :: (66, .iadd, 1, 0, 0, [], 0) :: (67, .ireturn, 1, 0, 0, [], 0) :: uX12_harmOf_27
set_option maxRecDepth 100000 in
def uX12_harmOf_19 : List zEn := (57, .bipush 10, 2, 0, 0, [], 10) :: (59, .ireturn, 1, 0, 0, [], 0) :: uX12_harmOf_21
set_option maxRecDepth 100000 in
def uX12_harmOf_13 : List zEn := (50, .bipush 14, 2, 0, 0, [], 14) :: (52, .iconst 2, 1, 0, 0, [], 2) :: (53, .iload_n 3, 1, 3, 0, [], 0) :: (54, .imul, 1, 0, 0, [], 0) :: (55, .iadd, 1, 0, 0, [], 0) :: (56, .ireturn, 1, 0, 0, [], 0) :: uX12_harmOf_19
set_option maxRecDepth 100000 in
def uX12_harmOf_7 : List zEn := (44, .iconst 5, 1, 0, 0, [], 5) :: (45, .iconst 2, 1, 0, 0, [], 2) :: (46, .iload_n 3, 1, 3, 0, [], 0) :: (47, .imul, 1, 0, 0, [], 0) :: (48, .iadd, 1, 0, 0, [], 0) :: (49, .ireturn, 1, 0, 0, [], 0) :: uX12_harmOf_13
set_option maxRecDepth 100000 in
def uX12_harmOf_0 : List zEn := (0, .bipush 8, 2, 0, 0, [], 8) :: (2, .iload_n 1, 1, 1, 0, [], 0) :: (3, .invokestatic 117, 3, 63, 1, [(0, 1), (0, 0), (0, 0), (0, 1442)], 0) :: (6, .isub, 1, 0, 0, [], 0) :: (7, .istore_n 3, 1, 3, 0, [], 0) :: (8, .iload_n 0, 1, 0, 0, [], 0) :: (9, .tableswitch 62 1 5 #[35, 48, 51, 41, 59], 35, 29, 0, [(1, 7), (2, 19), (3, 21), (4, 13), (5, 27)], 0) :: uX12_harmOf_7
set_option maxRecDepth 100000 in
theorem jX12_harmOf_7 : zj pX12_harmOf 7 = uX12_harmOf_7 := rfl
set_option maxRecDepth 100000 in
theorem jX12_harmOf_13 : zj pX12_harmOf 13 = uX12_harmOf_13 := rfl
set_option maxRecDepth 100000 in
theorem jX12_harmOf_19 : zj pX12_harmOf 19 = uX12_harmOf_19 := rfl
set_option maxRecDepth 100000 in
theorem jX12_harmOf_21 : zj pX12_harmOf 21 = uX12_harmOf_21 := rfl
set_option maxRecDepth 100000 in
theorem jX12_harmOf_27 : zj pX12_harmOf 27 = uX12_harmOf_27 := rfl
set_option maxRecDepth 100000 in
theorem jX12_harmOf_29 : zj pX12_harmOf 29 = uX12_harmOf_29 := rfl
set_option maxRecDepth 100000 in
def uX12_harm_0 : List zEn := (0, .aload_n 0, 1, 0, 0, [], 0) :: (1, .getfield 7, 3, 12, 0, [(0, 2), (0, 1250)], 0) :: (4, .aload_n 0, 1, 0, 0, [], 0) :: (5, .iload_n 1, 1, 1, 0, [], 0) :: (6, .invokevirtual 120, 3, 42, 2, [(0, 1), (0, 0), (0, 0), (0, 12), (0, 1422)], 0) :: (9, .iaload, 1, 0, 0, [], 0) :: (10, .aload_n 0, 1, 0, 0, [], 0) :: (11, .getfield 7, 3, 12, 0, [(0, 2), (0, 1250)], 0) :: (14, .aload_n 0, 1, 0, 0, [], 0) :: (15, .iload_n 1, 1, 1, 0, [], 0) :: (16, .invokevirtual 120, 3, 42, 2, [(0, 1), (0, 0), (0, 0), (0, 12), (0, 1422)], 0) :: (19, .iconst 3, 1, 0, 0, [], 3) :: (20, .iadd, 1, 0, 0, [], 0) :: (21, .iaload, 1, 0, 0, [], 0) :: (22, .aload_n 0, 1, 0, 0, [], 0) :: (23, .getfield 7, 3, 12, 0, [(0, 2), (0, 1250)], 0) :: (26, .aload_n 0, 1, 0, 0, [], 0) :: (27, .iload_n 1, 1, 1, 0, [], 0) :: (28, .invokevirtual 120, 3, 42, 2, [(0, 1), (0, 0), (0, 0), (0, 12), (0, 1422)], 0) :: (31, .iconst 2, 1, 0, 0, [], 2) :: (32, .iadd, 1, 0, 0, [], 0) :: (33, .iaload, 1, 0, 0, [], 0) :: (34, .invokestatic 123, 3, 64, 3, [(0, 1), (0, 0), (0, 0), (0, 1439)], 0) :: (37, .ireturn, 1, 0, 0, [], 0) :: []
set_option maxRecDepth 100000 in
def uX12_span_51 : List zEn := (79, .ireturn, 1, 0, 0, [], 0) :: []
set_option maxRecDepth 100000 in
def uX12_span_48 : List zEn := (76, .iload_n 3, 1, 3, 0, [], 0) :: (77, .iconst 5, 1, 0, 0, [], 5) :: (78, .isub, 1, 0, 0, [], 0) :: uX12_span_51
set_option maxRecDepth 100000 in
def uX12_span_43 : List zEn := (67, .iload_n 3, 1, 3, 0, [], 0) :: (68, .iconst 5, 1, 0, 0, [], 5) :: (69, .if_icmp .ge 7, 3, 48, 0, [], 0) :: (72, .iconst 0, 1, 0, 0, [], 0) :: (73, .goto 6, 3, 51, 0, [], 0) :: uX12_span_48
set_option maxRecDepth 100000 in
def uX12_span_37 : List zEn := (57, .istore_n 3, 1, 3, 0, [], 0) :: (58, .iload_n 2, 1, 2, 0, [], 0) :: (59, .iconst 3, 1, 0, 0, [], 3) :: (60, .if_icmp .eq 7, 3, 43, 0, [], 0) :: (63, .iload_n 3, 1, 3, 0, [], 0) :: (64, .goto 15, 3, 51, 0, [], 0) :: uX12_span_43
set_option maxRecDepth 100000 in
def uX12_span_36 : List zEn := (56, .iload_n 3, 1, 3, 0, [], 0) :: uX12_span_37
set_option maxRecDepth 100000 in
def uX12_span_32 : List zEn := (50, .iload_n 3, 1, 3, 0, [], 0) :: (51, .iconst 2, 1, 0, 0, [], 2) :: (52, .idiv, 1, 0, 0, [], 0) :: (53, .goto 4, 3, 37, 0, [], 0) :: uX12_span_36
set_option maxRecDepth 100000 in
def uX12_span_25 : List zEn := (39, .istore_n 3, 1, 3, 0, [], 0) :: (40, .iload_n 2, 1, 2, 0, [], 0) :: (41, .iconst 2, 1, 0, 0, [], 2) :: (42, .if_icmp .eq 8, 3, 32, 0, [], 0) :: (45, .iload_n 2, 1, 2, 0, [], 0) :: (46, .iconst 3, 1, 0, 0, [], 3) :: (47, .if_icmp .ne 9, 3, 36, 0, [], 0) :: uX12_span_32
set_option maxRecDepth 100000 in
def uX12_span_24 : List zEn := (38, .iload_n 3, 1, 3, 0, [], 0) :: uX12_span_25
set_option maxRecDepth 100000 in
def uX12_span_0 : List zEn := (0, .aload_n 0, 1, 0, 0, [], 0) :: (1, .getfield 7, 3, 12, 0, [(0, 2), (0, 1250)], 0) :: (4, .aload_n 0, 1, 0, 0, [], 0) :: (5, .iload_n 1, 1, 1, 0, [], 0) :: (6, .invokevirtual 120, 3, 42, 2, [(0, 1), (0, 0), (0, 0), (0, 12), (0, 1422)], 0) :: (9, .iaload, 1, 0, 0, [], 0) :: (10, .istore_n 2, 1, 2, 0, [], 0) :: (11, .bipush 100, 2, 0, 0, [], 100) :: (13, .aload_n 0, 1, 0, 0, [], 0) :: (14, .getfield 7, 3, 12, 0, [(0, 2), (0, 1250)], 0) :: (17, .aload_n 0, 1, 0, 0, [], 0) :: (18, .iload_n 1, 1, 1, 0, [], 0) :: (19, .invokevirtual 120, 3, 42, 2, [(0, 1), (0, 0), (0, 0), (0, 12), (0, 1422)], 0) :: (22, .iconst 2, 1, 0, 0, [], 2) :: (23, .iadd, 1, 0, 0, [], 0) :: (24, .iaload, 1, 0, 0, [], 0) :: (25, .bipush 10, 2, 0, 0, [], 10) :: (27, .idiv, 1, 0, 0, [], 0) :: (28, .isub, 1, 0, 0, [], 0) :: (29, .istore_n 3, 1, 3, 0, [], 0) :: (30, .iload_n 3, 1, 3, 0, [], 0) :: (31, .ifCond .ge 7, 3, 24, 0, [], 0) :: (34, .iconst 0, 1, 0, 0, [], 0) :: (35, .goto 4, 3, 25, 0, [], 0) :: uX12_span_24
set_option maxRecDepth 100000 in
theorem jX12_span_24 : zj pX12_span 24 = uX12_span_24 := rfl
set_option maxRecDepth 100000 in
theorem jX12_span_25 : zj pX12_span 25 = uX12_span_25 := rfl
set_option maxRecDepth 100000 in
theorem jX12_span_32 : zj pX12_span 32 = uX12_span_32 := rfl
set_option maxRecDepth 100000 in
theorem jX12_span_36 : zj pX12_span 36 = uX12_span_36 := rfl
set_option maxRecDepth 100000 in
theorem jX12_span_37 : zj pX12_span 37 = uX12_span_37 := rfl
set_option maxRecDepth 100000 in
theorem jX12_span_43 : zj pX12_span 43 = uX12_span_43 := rfl
set_option maxRecDepth 100000 in
theorem jX12_span_48 : zj pX12_span 48 = uX12_span_48 := rfl
set_option maxRecDepth 100000 in
theorem jX12_span_51 : zj pX12_span 51 = uX12_span_51 := rfl
set_option maxRecDepth 100000 in
def uX12_freshOf_10 : List zEn := (47, .bipush 100, 2, 0, 0, [], 100) :: (49, .ireturn, 1, 0, 0, [], 0) :: []
set_option maxRecDepth 100000 in
def uX12_freshOf_8 : List zEn := (45, .iconst 0, 1, 0, 0, [], 0) :: (46, .ireturn, 1, 0, 0, [], 0) :: uX12_freshOf_10
set_option maxRecDepth 100000 in
def uX12_freshOf_6 : List zEn := (42, .bipush 40, 2, 0, 0, [], 40) :: (44, .ireturn, 1, 0, 0, [], 0) :: uX12_freshOf_8
set_option maxRecDepth 100000 in
def uX12_freshOf_4 : List zEn := (39, .bipush 80, 2, 0, 0, [], 80) :: (41, .ireturn, 1, 0, 0, [], 0) :: uX12_freshOf_6
set_option maxRecDepth 100000 in
def uX12_freshOf_2 : List zEn := (36, .bipush 90, 2, 0, 0, [], 90) :: (38, .ireturn, 1, 0, 0, [], 0) :: uX12_freshOf_4
set_option maxRecDepth 100000 in
def uX12_freshOf_0 : List zEn := (0, .iload_n 0, 1, 0, 0, [], 0) :: (1, .tableswitch 46 1 5 #[35, 38, 41, 38, 44], 35, 10, 0, [(1, 2), (2, 4), (3, 6), (4, 4), (5, 8)], 0) :: uX12_freshOf_2
set_option maxRecDepth 100000 in
theorem jX12_freshOf_2 : zj pX12_freshOf 2 = uX12_freshOf_2 := rfl
set_option maxRecDepth 100000 in
theorem jX12_freshOf_4 : zj pX12_freshOf 4 = uX12_freshOf_4 := rfl
set_option maxRecDepth 100000 in
theorem jX12_freshOf_6 : zj pX12_freshOf 6 = uX12_freshOf_6 := rfl
set_option maxRecDepth 100000 in
theorem jX12_freshOf_8 : zj pX12_freshOf 8 = uX12_freshOf_8 := rfl
set_option maxRecDepth 100000 in
theorem jX12_freshOf_10 : zj pX12_freshOf 10 = uX12_freshOf_10 := rfl
set_option maxRecDepth 100000 in
def uX12_worthWith_65 : List zEn := (104, .ireturn, 1, 0, 0, [], 0) :: []
set_option maxRecDepth 100000 in
def uX12_worthWith_64 : List zEn := (102, .iload 4, 2, 4, 0, [], 0) :: uX12_worthWith_65
set_option maxRecDepth 100000 in
def uX12_worthWith_0 : List zEn := (0, .aload_n 0, 1, 0, 0, [], 0) :: (1, .iload_n 1, 1, 1, 0, [], 0) :: (2, .invokevirtual 120, 3, 42, 2, [(0, 1), (0, 0), (0, 0), (0, 12), (0, 1422)], 0) :: (5, .istore_n 3, 1, 3, 0, [], 0) :: (6, .aload_n 0, 1, 0, 0, [], 0) :: (7, .aload_n 0, 1, 0, 0, [], 0) :: (8, .getfield 7, 3, 12, 0, [(0, 2), (0, 1250)], 0) :: (11, .iload_n 3, 1, 3, 0, [], 0) :: (12, .iconst 1, 1, 0, 0, [], 1) :: (13, .iadd, 1, 0, 0, [], 0) :: (14, .iaload, 1, 0, 0, [], 0) :: (15, .aload_n 0, 1, 0, 0, [], 0) :: (16, .getfield 7, 3, 12, 0, [(0, 2), (0, 1250)], 0) :: (19, .bipush 7, 2, 0, 0, [], 7) :: (21, .iaload, 1, 0, 0, [], 0) :: (22, .invokevirtual 99, 3, 23, 3, [(0, 1), (0, 0), (0, 0), (0, 12), (0, 1387)], 0) :: (25, .aload_n 0, 1, 0, 0, [], 0) :: (26, .getfield 7, 3, 12, 0, [(0, 2), (0, 1250)], 0) :: (29, .iload_n 3, 1, 3, 0, [], 0) :: (30, .iaload, 1, 0, 0, [], 0) :: (31, .invokestatic 127, 3, 67, 1, [(0, 1), (0, 0), (0, 0), (0, 1449)], 0) :: (34, .imul, 1, 0, 0, [], 0) :: (35, .bipush 100, 2, 0, 0, [], 100) :: (37, .idiv, 1, 0, 0, [], 0) :: (38, .istore 4, 2, 4, 0, [], 0) :: (40, .iload 4, 2, 4, 0, [], 0) :: (42, .bipush 50, 2, 0, 0, [], 50) :: (44, .aload_n 0, 1, 0, 0, [], 0) :: (45, .iload_n 1, 1, 1, 0, [], 0) :: (46, .invokevirtual 130, 3, 66, 2, [(0, 1), (0, 0), (0, 0), (0, 12), (0, 1445)], 0) :: (49, .iconst 2, 1, 0, 0, [], 2) :: (50, .idiv, 1, 0, 0, [], 0) :: (51, .iadd, 1, 0, 0, [], 0) :: (52, .imul, 1, 0, 0, [], 0) :: (53, .bipush 100, 2, 0, 0, [], 100) :: (55, .idiv, 1, 0, 0, [], 0) :: (56, .istore 4, 2, 4, 0, [], 0) :: (58, .iload 4, 2, 4, 0, [], 0) :: (60, .iload 4, 2, 4, 0, [], 0) :: (62, .bipush 10, 2, 0, 0, [], 10) :: (64, .idiv, 1, 0, 0, [], 0) :: (65, .iload_n 2, 1, 2, 0, [], 0) :: (66, .aload_n 0, 1, 0, 0, [], 0) :: (67, .getfield 7, 3, 12, 0, [(0, 2), (0, 1250)], 0) :: (70, .aload_n 0, 1, 0, 0, [], 0) :: (71, .aload_n 0, 1, 0, 0, [], 0) :: (72, .getfield 7, 3, 12, 0, [(0, 2), (0, 1250)], 0) :: (75, .iload_n 3, 1, 3, 0, [], 0) :: (76, .iconst 1, 1, 0, 0, [], 1) :: (77, .iadd, 1, 0, 0, [], 0) :: (78, .iaload, 1, 0, 0, [], 0) :: (79, .invokevirtual 89, 3, 16, 2, [(0, 1), (0, 0), (0, 0), (0, 12), (0, 1374)], 0) :: (82, .iconst 2, 1, 0, 0, [], 2) :: (83, .iadd, 1, 0, 0, [], 0) :: (84, .iaload, 1, 0, 0, [], 0) :: (85, .iand, 1, 0, 0, [], 0) :: (86, .invokestatic 117, 3, 63, 1, [(0, 1), (0, 0), (0, 0), (0, 1442)], 0) :: (89, .imul, 1, 0, 0, [], 0) :: (90, .isub, 1, 0, 0, [], 0) :: (91, .istore 4, 2, 4, 0, [], 0) :: (93, .iload 4, 2, 4, 0, [], 0) :: (95, .ifCond .ge 7, 3, 64, 0, [], 0) :: (98, .iconst 0, 1, 0, 0, [], 0) :: (99, .goto 5, 3, 65, 0, [], 0) :: uX12_worthWith_64
set_option maxRecDepth 100000 in
theorem jX12_worthWith_64 : zj pX12_worthWith 64 = uX12_worthWith_64 := rfl
set_option maxRecDepth 100000 in
theorem jX12_worthWith_65 : zj pX12_worthWith 65 = uX12_worthWith_65 := rfl
set_option maxRecDepth 100000 in
def uX12_worth_0 : List zEn := (0, .aload_n 0, 1, 0, 0, [], 0) :: (1, .iload_n 1, 1, 1, 0, [], 0) :: (2, .aload_n 0, 1, 0, 0, [], 0) :: (3, .getfield 7, 3, 12, 0, [(0, 2), (0, 1250)], 0) :: (6, .aload_n 0, 1, 0, 0, [], 0) :: (7, .iload_n 1, 1, 1, 0, [], 0) :: (8, .invokevirtual 120, 3, 42, 2, [(0, 1), (0, 0), (0, 0), (0, 12), (0, 1422)], 0) :: (11, .iconst 4, 1, 0, 0, [], 4) :: (12, .iadd, 1, 0, 0, [], 0) :: (13, .iaload, 1, 0, 0, [], 0) :: (14, .invokevirtual 133, 3, 68, 3, [(0, 1), (0, 0), (0, 0), (0, 12), (0, 1456)], 0) :: (17, .ireturn, 1, 0, 0, [], 0) :: []
set_option maxRecDepth 100000 in
def uX12_orNone_5 : List zEn := (10, .ireturn, 1, 0, 0, [], 0) :: []
set_option maxRecDepth 100000 in
def uX12_orNone_4 : List zEn := (9, .iload_n 0, 1, 0, 0, [], 0) :: uX12_orNone_5
set_option maxRecDepth 100000 in
def uX12_orNone_0 : List zEn := (0, .iload_n 0, 1, 0, 0, [], 0) :: (1, .ifCond .ge 8, 3, 4, 0, [], 0) :: (4, .ldc 76, 2, 0, 0, [(0, 1463)], (-1000000005)) :: (6, .goto 4, 3, 5, 0, [], 0) :: uX12_orNone_4
set_option maxRecDepth 100000 in
theorem jX12_orNone_4 : zj pX12_orNone 4 = uX12_orNone_4 := rfl
set_option maxRecDepth 100000 in
theorem jX12_orNone_5 : zj pX12_orNone 5 = uX12_orNone_5 := rfl
set_option maxRecDepth 100000 in
def uX12_textAt_0 : List zEn := (0, .sipush 340, 3, 0, 0, [], 340) :: (3, .sipush 200, 3, 0, 0, [], 200) :: (6, .iload_n 1, 1, 1, 0, [], 0) :: (7, .imul, 1, 0, 0, [], 0) :: (8, .iadd, 1, 0, 0, [], 0) :: (9, .ireturn, 1, 0, 0, [], 0) :: []
set_option maxRecDepth 100000 in
def uX12_counts_25 : List zEn := (40, .iload_n 2, 1, 2, 0, [], 0) :: (41, .ireturn, 1, 0, 0, [], 0) :: []
set_option maxRecDepth 100000 in
def uX12_counts_22 : List zEn := (33, .istore_n 2, 1, 2, 0, [], 0) :: (34, .iinc 3 1, 3, 3, 0, [], 1) :: (37, .goto (-33), 3, 4, 0, [], 0) :: uX12_counts_25
set_option maxRecDepth 100000 in
def uX12_counts_21 : List zEn := (32, .iload_n 2, 1, 2, 0, [], 0) :: uX12_counts_22
set_option maxRecDepth 100000 in
def uX12_counts_5 : List zEn := (4, .iload_n 3, 1, 3, 0, [], 0) :: (5, .aload_n 0, 1, 0, 0, [], 0) :: (6, .getfield 7, 3, 12, 0, [(0, 2), (0, 1250)], 0) :: (9, .iconst 2, 1, 0, 0, [], 2) :: (10, .iaload, 1, 0, 0, [], 0) :: (11, .if_icmp .ge 29, 3, 25, 0, [], 0) :: (14, .aload_n 0, 1, 0, 0, [], 0) :: (15, .getfield 7, 3, 12, 0, [(0, 2), (0, 1250)], 0) :: (18, .aload_n 0, 1, 0, 0, [], 0) :: (19, .iload_n 3, 1, 3, 0, [], 0) :: (20, .invokevirtual 297, 3, 71, 2, [(0, 1), (0, 0), (0, 0), (0, 12), (0, 1472)], 0) :: (23, .iaload, 1, 0, 0, [], 0) :: (24, .iload_n 1, 1, 1, 0, [], 0) :: (25, .if_icmp .ne 7, 3, 21, 0, [], 0) :: (28, .iload_n 3, 1, 3, 0, [], 0) :: (29, .goto 4, 3, 22, 0, [], 0) :: uX12_counts_21
set_option maxRecDepth 100000 in
def tX12_counts_5 : List zEn := uX12_counts_5
set_option maxRecDepth 100000 in
def uX12_counts_4 : List zEn := (4, .nop, 0, 0, 0, [], 0) :: tX12_counts_5
set_option maxRecDepth 100000 in
def uX12_counts_0 : List zEn := (0, .iconst (-1), 1, 0, 0, [], (-1)) :: (1, .istore_n 2, 1, 2, 0, [], 0) :: (2, .iconst 0, 1, 0, 0, [], 0) :: (3, .istore_n 3, 1, 3, 0, [], 0) :: uX12_counts_4
set_option maxRecDepth 100000 in
theorem jX12_counts_4 : zj pX12_counts 4 = uX12_counts_4 := rfl
set_option maxRecDepth 100000 in
theorem jX12_counts_21 : zj pX12_counts 21 = uX12_counts_21 := rfl
set_option maxRecDepth 100000 in
theorem jX12_counts_22 : zj pX12_counts 22 = uX12_counts_22 := rfl
set_option maxRecDepth 100000 in
theorem jX12_counts_25 : zj pX12_counts 25 = uX12_counts_25 := rfl
set_option maxRecDepth 100000 in
def uX12_joined_64 : List zEn := (210, .ireturn, 1, 0, 0, [], 0) :: []
set_option maxRecDepth 100000 in
def uX12_joined_63 : List zEn := (209, .iconst 0, 1, 0, 0, [], 0) :: uX12_joined_64
set_option maxRecDepth 100000 in
def uX12_joined_61 : List zEn := (205, .iconst 1, 1, 0, 0, [], 1) :: (206, .goto 4, 3, 64, 0, [], 0) :: uX12_joined_63
set_option maxRecDepth 100000 in
def uX12_joined_57 : List zEn := (197, .iload_n 1, 1, 1, 0, [], 0) :: (198, .ifCond .ne 7, 3, 61, 0, [], 0) :: (201, .iload_n 2, 1, 2, 0, [], 0) :: (202, .ifCond .eq 7, 3, 63, 0, [], 0) :: uX12_joined_61
set_option maxRecDepth 100000 in
def uX12_joined_56 : List zEn := (196, .ireturn, 1, 0, 0, [], 0) :: uX12_joined_57
set_option maxRecDepth 100000 in
def uX12_joined_55 : List zEn := (195, .iconst 0, 1, 0, 0, [], 0) :: uX12_joined_56
set_option maxRecDepth 100000 in
def uX12_joined_49 : List zEn := (183, .iload_n 1, 1, 1, 0, [], 0) :: (184, .ifCond .eq 11, 3, 55, 0, [], 0) :: (187, .iload_n 2, 1, 2, 0, [], 0) :: (188, .ifCond .eq 7, 3, 55, 0, [], 0) :: (191, .iconst 1, 1, 0, 0, [], 1) :: (192, .goto 4, 3, 56, 0, [], 0) :: uX12_joined_55
set_option maxRecDepth 100000 in
def uX12_joined_48 : List zEn := (182, .ireturn, 1, 0, 0, [], 0) :: uX12_joined_49
set_option maxRecDepth 100000 in
def uX12_joined_47 : List zEn := (181, .iconst 0, 1, 0, 0, [], 0) :: uX12_joined_48
set_option maxRecDepth 100000 in
def uX12_joined_42 : List zEn := (172, .iload_n 1, 1, 1, 0, [], 0) :: (173, .iload_n 2, 1, 2, 0, [], 0) :: (174, .if_icmp .ne 7, 3, 47, 0, [], 0) :: (177, .iconst 1, 1, 0, 0, [], 1) :: (178, .goto 4, 3, 48, 0, [], 0) :: uX12_joined_47
set_option maxRecDepth 100000 in
def uX12_joined_41 : List zEn := (171, .ireturn, 1, 0, 0, [], 0) :: uX12_joined_42
set_option maxRecDepth 100000 in
def uX12_joined_40 : List zEn := (170, .iconst 0, 1, 0, 0, [], 0) :: uX12_joined_41
set_option maxRecDepth 100000 in
def uX12_joined_35 : List zEn := (161, .iload_n 1, 1, 1, 0, [], 0) :: (162, .iload_n 2, 1, 2, 0, [], 0) :: (163, .if_icmp .le 7, 3, 40, 0, [], 0) :: (166, .iconst 1, 1, 0, 0, [], 1) :: (167, .goto 4, 3, 41, 0, [], 0) :: uX12_joined_40
set_option maxRecDepth 100000 in
def uX12_joined_34 : List zEn := (160, .ireturn, 1, 0, 0, [], 0) :: uX12_joined_35
set_option maxRecDepth 100000 in
def uX12_joined_33 : List zEn := (159, .iconst 0, 1, 0, 0, [], 0) :: uX12_joined_34
set_option maxRecDepth 100000 in
def uX12_joined_28 : List zEn := (150, .iload_n 1, 1, 1, 0, [], 0) :: (151, .iload_n 2, 1, 2, 0, [], 0) :: (152, .if_icmp .ge 7, 3, 33, 0, [], 0) :: (155, .iconst 1, 1, 0, 0, [], 1) :: (156, .goto 4, 3, 34, 0, [], 0) :: uX12_joined_33
set_option maxRecDepth 100000 in
def uX12_joined_27 : List zEn := (149, .ireturn, 1, 0, 0, [], 0) :: uX12_joined_28
set_option maxRecDepth 100000 in
def uX12_joined_24 : List zEn := (146, .iload_n 1, 1, 1, 0, [], 0) :: (147, .iload_n 2, 1, 2, 0, [], 0) :: (148, .idiv, 1, 0, 0, [], 0) :: uX12_joined_27
set_option maxRecDepth 100000 in
def uX12_joined_18 : List zEn := (136, .iload_n 2, 1, 2, 0, [], 0) :: (137, .iconst (-1), 1, 0, 0, [], (-1)) :: (138, .if_icmp .ne 8, 3, 24, 0, [], 0) :: (141, .iload_n 1, 1, 1, 0, [], 0) :: (142, .ineg, 1, 0, 0, [], 0) :: (143, .goto 6, 3, 27, 0, [], 0) :: uX12_joined_24
set_option maxRecDepth 100000 in
def uX12_joined_14 : List zEn := (128, .iload_n 2, 1, 2, 0, [], 0) :: (129, .ifCond .ne 7, 3, 18, 0, [], 0) :: (132, .iconst 0, 1, 0, 0, [], 0) :: (133, .goto 16, 3, 27, 0, [], 0) :: uX12_joined_18
set_option maxRecDepth 100000 in
def uX12_joined_10 : List zEn := (124, .iload_n 1, 1, 1, 0, [], 0) :: (125, .iload_n 2, 1, 2, 0, [], 0) :: (126, .imul, 1, 0, 0, [], 0) :: (127, .ireturn, 1, 0, 0, [], 0) :: uX12_joined_14
set_option maxRecDepth 100000 in
def uX12_joined_6 : List zEn := (120, .iload_n 1, 1, 1, 0, [], 0) :: (121, .iload_n 2, 1, 2, 0, [], 0) :: (122, .isub, 1, 0, 0, [], 0) :: (123, .ireturn, 1, 0, 0, [], 0) :: uX12_joined_10
set_option maxRecDepth 100000 in
def uX12_joined_2 : List zEn := (116, .iload_n 1, 1, 1, 0, [], 0) :: (117, .iload_n 2, 1, 2, 0, [], 0) :: (118, .iadd, 1, 0, 0, [], 0) :: (119, .ireturn, 1, 0, 0, [], 0) :: uX12_joined_6
set_option maxRecDepth 100000 in
def uX12_joined_0 : List zEn := (0, .iload_n 0, 1, 0, 0, [], 0) :: (1, .tableswitch 196 38 62 #[182, 196, 196, 196, 123, 115, 196, 119, 196, 127, 196, 196, 196, 196, 196, 196, 196, 196, 196, 196, 196, 196, 149, 171, 160], 115, 57, 0, [(38, 49), (39, 57), (40, 57), (41, 57), (42, 10), (43, 2), (44, 57), (45, 6), (46, 57), (47, 14), (48, 57), (49, 57), (50, 57), (51, 57), (52, 57), (53, 57), (54, 57), (55, 57), (56, 57), (57, 57), (58, 57), (59, 57), (60, 28), (61, 42), (62, 35)], 0) :: uX12_joined_2
set_option maxRecDepth 100000 in
theorem jX12_joined_2 : zj pX12_joined 2 = uX12_joined_2 := rfl
set_option maxRecDepth 100000 in
theorem jX12_joined_6 : zj pX12_joined 6 = uX12_joined_6 := rfl
set_option maxRecDepth 100000 in
theorem jX12_joined_10 : zj pX12_joined 10 = uX12_joined_10 := rfl
set_option maxRecDepth 100000 in
theorem jX12_joined_14 : zj pX12_joined 14 = uX12_joined_14 := rfl
set_option maxRecDepth 100000 in
theorem jX12_joined_18 : zj pX12_joined 18 = uX12_joined_18 := rfl
set_option maxRecDepth 100000 in
theorem jX12_joined_24 : zj pX12_joined 24 = uX12_joined_24 := rfl
set_option maxRecDepth 100000 in
theorem jX12_joined_27 : zj pX12_joined 27 = uX12_joined_27 := rfl
set_option maxRecDepth 100000 in
theorem jX12_joined_28 : zj pX12_joined 28 = uX12_joined_28 := rfl
set_option maxRecDepth 100000 in
theorem jX12_joined_33 : zj pX12_joined 33 = uX12_joined_33 := rfl
set_option maxRecDepth 100000 in
theorem jX12_joined_34 : zj pX12_joined 34 = uX12_joined_34 := rfl
set_option maxRecDepth 100000 in
theorem jX12_joined_35 : zj pX12_joined 35 = uX12_joined_35 := rfl
set_option maxRecDepth 100000 in
theorem jX12_joined_40 : zj pX12_joined 40 = uX12_joined_40 := rfl
set_option maxRecDepth 100000 in
theorem jX12_joined_41 : zj pX12_joined 41 = uX12_joined_41 := rfl
set_option maxRecDepth 100000 in
theorem jX12_joined_42 : zj pX12_joined 42 = uX12_joined_42 := rfl
set_option maxRecDepth 100000 in
theorem jX12_joined_47 : zj pX12_joined 47 = uX12_joined_47 := rfl
set_option maxRecDepth 100000 in
theorem jX12_joined_48 : zj pX12_joined 48 = uX12_joined_48 := rfl
set_option maxRecDepth 100000 in
theorem jX12_joined_49 : zj pX12_joined 49 = uX12_joined_49 := rfl
set_option maxRecDepth 100000 in
theorem jX12_joined_55 : zj pX12_joined 55 = uX12_joined_55 := rfl
set_option maxRecDepth 100000 in
theorem jX12_joined_56 : zj pX12_joined 56 = uX12_joined_56 := rfl
set_option maxRecDepth 100000 in
theorem jX12_joined_57 : zj pX12_joined 57 = uX12_joined_57 := rfl
set_option maxRecDepth 100000 in
theorem jX12_joined_61 : zj pX12_joined 61 = uX12_joined_61 := rfl
set_option maxRecDepth 100000 in
theorem jX12_joined_63 : zj pX12_joined 63 = uX12_joined_63 := rfl
set_option maxRecDepth 100000 in
theorem jX12_joined_64 : zj pX12_joined 64 = uX12_joined_64 := rfl
set_option maxRecDepth 100000 in
def uX12_worked_101 : List zEn := (163, .aload_n 0, 1, 0, 0, [], 0) :: (164, .getfield 61, 3, 12, 31, [(0, 2), (0, 1281)], 0) :: (167, .iconst 0, 1, 0, 0, [], 0) :: (168, .iaload, 1, 0, 0, [], 0) :: (169, .ireturn, 1, 0, 0, [], 0) :: []
set_option maxRecDepth 100000 in
def uX12_worked_99 : List zEn := (157, .iinc 3 1, 3, 3, 0, [], 1) :: (160, .goto (-156), 3, 4, 0, [], 0) :: uX12_worked_101
set_option maxRecDepth 100000 in
def uX12_worked_80 : List zEn := (127, .iinc 2 (-1), 3, 2, 0, [], (-1)) :: (130, .aload_n 0, 1, 0, 0, [], 0) :: (131, .getfield 61, 3, 12, 31, [(0, 2), (0, 1281)], 0) :: (134, .iload_n 2, 1, 2, 0, [], 0) :: (135, .iconst 1, 1, 0, 0, [], 1) :: (136, .isub, 1, 0, 0, [], 0) :: (137, .iload 5, 2, 5, 0, [], 0) :: (139, .aload_n 0, 1, 0, 0, [], 0) :: (140, .getfield 61, 3, 12, 31, [(0, 2), (0, 1281)], 0) :: (143, .iload_n 2, 1, 2, 0, [], 0) :: (144, .iconst 1, 1, 0, 0, [], 1) :: (145, .isub, 1, 0, 0, [], 0) :: (146, .iaload, 1, 0, 0, [], 0) :: (147, .aload_n 0, 1, 0, 0, [], 0) :: (148, .getfield 61, 3, 12, 31, [(0, 2), (0, 1281)], 0) :: (151, .iload_n 2, 1, 2, 0, [], 0) :: (152, .iaload, 1, 0, 0, [], 0) :: (153, .invokestatic 311, 3, 73, 3, [(0, 1), (0, 0), (0, 0), (0, 1480)], 0) :: (156, .iastore, 1, 0, 0, [], 0) :: uX12_worked_99
set_option maxRecDepth 100000 in
def uX12_worked_78 : List zEn := (123, .iastore, 1, 0, 0, [], 0) :: (124, .goto 33, 3, 99, 0, [], 0) :: uX12_worked_80
set_option maxRecDepth 100000 in
def uX12_worked_77 : List zEn := (122, .iconst 0, 1, 0, 0, [], 0) :: uX12_worked_78
set_option maxRecDepth 100000 in
def uX12_worked_60 : List zEn := (93, .iload 5, 2, 5, 0, [], 0) :: (95, .bipush 33, 2, 0, 0, [], 33) :: (97, .if_icmp .ne 30, 3, 80, 0, [], 0) :: (100, .aload_n 0, 1, 0, 0, [], 0) :: (101, .getfield 61, 3, 12, 31, [(0, 2), (0, 1281)], 0) :: (104, .iload_n 2, 1, 2, 0, [], 0) :: (105, .iconst 1, 1, 0, 0, [], 1) :: (106, .isub, 1, 0, 0, [], 0) :: (107, .aload_n 0, 1, 0, 0, [], 0) :: (108, .getfield 61, 3, 12, 31, [(0, 2), (0, 1281)], 0) :: (111, .iload_n 2, 1, 2, 0, [], 0) :: (112, .iconst 1, 1, 0, 0, [], 1) :: (113, .isub, 1, 0, 0, [], 0) :: (114, .iaload, 1, 0, 0, [], 0) :: (115, .ifCond .ne 7, 3, 77, 0, [], 0) :: (118, .iconst 1, 1, 0, 0, [], 1) :: (119, .goto 4, 3, 78, 0, [], 0) :: uX12_worked_77
set_option maxRecDepth 100000 in
def uX12_worked_57 : List zEn := (86, .iastore, 1, 0, 0, [], 0) :: (87, .iinc 2 1, 3, 2, 0, [], 1) :: (90, .goto 67, 3, 99, 0, [], 0) :: uX12_worked_60
set_option maxRecDepth 100000 in
def uX12_worked_53 : List zEn := (79, .aload_n 0, 1, 0, 0, [], 0) :: (80, .getfield 58, 3, 12, 30, [(0, 2), (0, 1280)], 0) :: (83, .iload 5, 2, 5, 0, [], 0) :: (85, .iaload, 1, 0, 0, [], 0) :: uX12_worked_57
set_option maxRecDepth 100000 in
def uX12_worked_5 : List zEn := (4, .iload_n 3, 1, 3, 0, [], 0) :: (5, .aload_n 0, 1, 0, 0, [], 0) :: (6, .getfield 7, 3, 12, 0, [(0, 2), (0, 1250)], 0) :: (9, .aload_n 0, 1, 0, 0, [], 0) :: (10, .iload_n 1, 1, 1, 0, [], 0) :: (11, .invokevirtual 297, 3, 71, 2, [(0, 1), (0, 0), (0, 0), (0, 12), (0, 1472)], 0) :: (14, .iconst 2, 1, 0, 0, [], 2) :: (15, .iadd, 1, 0, 0, [], 0) :: (16, .iaload, 1, 0, 0, [], 0) :: (17, .if_icmp .ge 146, 3, 101, 0, [], 0) :: (20, .aload_n 0, 1, 0, 0, [], 0) :: (21, .getfield 7, 3, 12, 0, [(0, 2), (0, 1250)], 0) :: (24, .aload_n 0, 1, 0, 0, [], 0) :: (25, .iload_n 1, 1, 1, 0, [], 0) :: (26, .invokevirtual 297, 3, 71, 2, [(0, 1), (0, 0), (0, 0), (0, 12), (0, 1472)], 0) :: (29, .iconst 4, 1, 0, 0, [], 4) :: (30, .iadd, 1, 0, 0, [], 0) :: (31, .iconst 2, 1, 0, 0, [], 2) :: (32, .iload_n 3, 1, 3, 0, [], 0) :: (33, .imul, 1, 0, 0, [], 0) :: (34, .iadd, 1, 0, 0, [], 0) :: (35, .iaload, 1, 0, 0, [], 0) :: (36, .istore 4, 2, 4, 0, [], 0) :: (38, .aload_n 0, 1, 0, 0, [], 0) :: (39, .getfield 7, 3, 12, 0, [(0, 2), (0, 1250)], 0) :: (42, .aload_n 0, 1, 0, 0, [], 0) :: (43, .iload_n 1, 1, 1, 0, [], 0) :: (44, .invokevirtual 297, 3, 71, 2, [(0, 1), (0, 0), (0, 0), (0, 12), (0, 1472)], 0) :: (47, .iconst 4, 1, 0, 0, [], 4) :: (48, .iadd, 1, 0, 0, [], 0) :: (49, .iconst 2, 1, 0, 0, [], 2) :: (50, .iload_n 3, 1, 3, 0, [], 0) :: (51, .imul, 1, 0, 0, [], 0) :: (52, .iadd, 1, 0, 0, [], 0) :: (53, .iconst 1, 1, 0, 0, [], 1) :: (54, .iadd, 1, 0, 0, [], 0) :: (55, .iaload, 1, 0, 0, [], 0) :: (56, .istore 5, 2, 5, 0, [], 0) :: (58, .iload 4, 2, 4, 0, [], 0) :: (60, .iconst 2, 1, 0, 0, [], 2) :: (61, .if_icmp .eq 32, 3, 60, 0, [], 0) :: (64, .aload_n 0, 1, 0, 0, [], 0) :: (65, .getfield 61, 3, 12, 31, [(0, 2), (0, 1281)], 0) :: (68, .iload_n 2, 1, 2, 0, [], 0) :: (69, .iload 4, 2, 4, 0, [], 0) :: (71, .ifCond .ne 8, 3, 53, 0, [], 0) :: (74, .iload 5, 2, 5, 0, [], 0) :: (76, .goto 10, 3, 57, 0, [], 0) :: uX12_worked_53
set_option maxRecDepth 100000 in
def tX12_worked_5 : List zEn := uX12_worked_5
set_option maxRecDepth 100000 in
def uX12_worked_4 : List zEn := (4, .nop, 0, 0, 0, [], 0) :: tX12_worked_5
set_option maxRecDepth 100000 in
def uX12_worked_0 : List zEn := (0, .iconst 0, 1, 0, 0, [], 0) :: (1, .istore_n 2, 1, 2, 0, [], 0) :: (2, .iconst 0, 1, 0, 0, [], 0) :: (3, .istore_n 3, 1, 3, 0, [], 0) :: uX12_worked_4
set_option maxRecDepth 100000 in
theorem jX12_worked_4 : zj pX12_worked 4 = uX12_worked_4 := rfl
set_option maxRecDepth 100000 in
theorem jX12_worked_53 : zj pX12_worked 53 = uX12_worked_53 := rfl
set_option maxRecDepth 100000 in
theorem jX12_worked_57 : zj pX12_worked 57 = uX12_worked_57 := rfl
set_option maxRecDepth 100000 in
theorem jX12_worked_60 : zj pX12_worked 60 = uX12_worked_60 := rfl
set_option maxRecDepth 100000 in
theorem jX12_worked_77 : zj pX12_worked 77 = uX12_worked_77 := rfl
set_option maxRecDepth 100000 in
theorem jX12_worked_78 : zj pX12_worked 78 = uX12_worked_78 := rfl
set_option maxRecDepth 100000 in
theorem jX12_worked_80 : zj pX12_worked 80 = uX12_worked_80 := rfl
set_option maxRecDepth 100000 in
theorem jX12_worked_99 : zj pX12_worked 99 = uX12_worked_99 := rfl
set_option maxRecDepth 100000 in
theorem jX12_worked_101 : zj pX12_worked 101 = uX12_worked_101 := rfl
set_option maxRecDepth 100000 in
def uX12_isForeseen_58 : List zEn := (100, .ireturn, 1, 1, 0, [], 0) :: []
set_option maxRecDepth 100000 in
def uX12_isForeseen_57 : List zEn := (99, .iconst 0, 1, 0, 0, [], 0) :: uX12_isForeseen_58
set_option maxRecDepth 100000 in
def uX12_isForeseen_55 : List zEn := (95, .iconst 1, 1, 0, 0, [], 1) :: (96, .goto 4, 3, 58, 0, [], 0) :: uX12_isForeseen_57
set_option maxRecDepth 100000 in
def uX12_isForeseen_51 : List zEn := (87, .aload_n 0, 1, 0, 0, [], 0) :: (88, .iload_n 3, 1, 3, 0, [], 0) :: (89, .invokevirtual 139, 3, 74, 2, [(0, 1), (0, 0), (0, 0), (0, 12), (0, 1476)], 0) :: (92, .ifCond .eq 7, 3, 57, 0, [], 0) :: uX12_isForeseen_55
set_option maxRecDepth 100000 in
def uX12_isForeseen_0 : List zEn := (0, .aload_n 0, 1, 0, 0, [], 0) :: (1, .iload_n 1, 1, 1, 0, [], 0) :: (2, .invokevirtual 120, 3, 42, 2, [(0, 1), (0, 0), (0, 0), (0, 12), (0, 1422)], 0) :: (5, .istore_n 2, 1, 2, 0, [], 0) :: (6, .aload_n 0, 1, 0, 0, [], 0) :: (7, .iconst 2, 1, 0, 0, [], 2) :: (8, .invokevirtual 136, 3, 72, 2, [(0, 1), (0, 0), (0, 0), (0, 12), (0, 1468)], 0) :: (11, .istore_n 3, 1, 3, 0, [], 0) :: (12, .aload_n 0, 1, 0, 0, [], 0) :: (13, .getfield 58, 3, 12, 30, [(0, 2), (0, 1280)], 0) :: (16, .bipush 98, 2, 0, 0, [], 98) :: (18, .aload_n 0, 1, 0, 0, [], 0) :: (19, .getfield 7, 3, 12, 0, [(0, 2), (0, 1250)], 0) :: (22, .iload_n 2, 1, 2, 0, [], 0) :: (23, .bipush 9, 2, 0, 0, [], 9) :: (25, .iadd, 1, 0, 0, [], 0) :: (26, .iaload, 1, 0, 0, [], 0) :: (27, .iastore, 1, 0, 0, [], 0) :: (28, .aload_n 0, 1, 0, 0, [], 0) :: (29, .getfield 58, 3, 12, 30, [(0, 2), (0, 1280)], 0) :: (32, .bipush 115, 2, 0, 0, [], 115) :: (34, .aload_n 0, 1, 0, 0, [], 0) :: (35, .iload_n 1, 1, 1, 0, [], 0) :: (36, .invokevirtual 130, 3, 66, 2, [(0, 1), (0, 0), (0, 0), (0, 12), (0, 1445)], 0) :: (39, .iastore, 1, 0, 0, [], 0) :: (40, .aload_n 0, 1, 0, 0, [], 0) :: (41, .getfield 58, 3, 12, 30, [(0, 2), (0, 1280)], 0) :: (44, .bipush 102, 2, 0, 0, [], 102) :: (46, .aload_n 0, 1, 0, 0, [], 0) :: (47, .getfield 7, 3, 12, 0, [(0, 2), (0, 1250)], 0) :: (50, .iload_n 2, 1, 2, 0, [], 0) :: (51, .iconst 4, 1, 0, 0, [], 4) :: (52, .iadd, 1, 0, 0, [], 0) :: (53, .iaload, 1, 0, 0, [], 0) :: (54, .invokestatic 117, 3, 63, 1, [(0, 1), (0, 0), (0, 0), (0, 1442)], 0) :: (57, .iastore, 1, 0, 0, [], 0) :: (58, .aload_n 0, 1, 0, 0, [], 0) :: (59, .getfield 7, 3, 12, 0, [(0, 2), (0, 1250)], 0) :: (62, .iload_n 2, 1, 2, 0, [], 0) :: (63, .bipush 9, 2, 0, 0, [], 9) :: (65, .iadd, 1, 0, 0, [], 0) :: (66, .iaload, 1, 0, 0, [], 0) :: (67, .ifCond .lt 32, 3, 57, 0, [], 0) :: (70, .iload_n 3, 1, 3, 0, [], 0) :: (71, .ifCond .ge 16, 3, 51, 0, [], 0) :: (74, .aload_n 0, 1, 0, 0, [], 0) :: (75, .iload_n 1, 1, 1, 0, [], 0) :: (76, .invokevirtual 130, 3, 66, 2, [(0, 1), (0, 0), (0, 0), (0, 12), (0, 1445)], 0) :: (79, .bipush 20, 2, 0, 0, [], 20) :: (81, .if_icmp .ge 18, 3, 57, 0, [], 0) :: (84, .goto 11, 3, 55, 0, [], 0) :: uX12_isForeseen_51
set_option maxRecDepth 100000 in
theorem jX12_isForeseen_51 : zj pX12_isForeseen 51 = uX12_isForeseen_51 := rfl
set_option maxRecDepth 100000 in
theorem jX12_isForeseen_55 : zj pX12_isForeseen 55 = uX12_isForeseen_55 := rfl
set_option maxRecDepth 100000 in
theorem jX12_isForeseen_57 : zj pX12_isForeseen 57 = uX12_isForeseen_57 := rfl
set_option maxRecDepth 100000 in
theorem jX12_isForeseen_58 : zj pX12_isForeseen 58 = uX12_isForeseen_58 := rfl
set_option maxRecDepth 100000 in
def uX12_told_66 : List zEn := (151, .aload_n 0, 1, 0, 0, [], 0) :: (152, .getfield 7, 3, 12, 0, [(0, 2), (0, 1250)], 0) :: (155, .iload_n 3, 1, 3, 0, [], 0) :: (156, .iload_n 2, 1, 2, 0, [], 0) :: (157, .iadd, 1, 0, 0, [], 0) :: (158, .iaload, 1, 0, 0, [], 0) :: (159, .ireturn, 1, 0, 0, [], 0) :: []
set_option maxRecDepth 100000 in
def uX12_told_65 : List zEn := (150, .ireturn, 1, 0, 0, [], 0) :: uX12_told_66
set_option maxRecDepth 100000 in
def uX12_told_64 : List zEn := (149, .iconst 0, 1, 0, 0, [], 0) :: uX12_told_65
set_option maxRecDepth 100000 in
def uX12_told_58 : List zEn := (137, .aload_n 0, 1, 0, 0, [], 0) :: (138, .iload_n 1, 1, 1, 0, [], 0) :: (139, .invokevirtual 158, 3, 75, 2, [(0, 1), (0, 0), (0, 0), (0, 12), (0, 1464)], 0) :: (142, .ifCond .eq 7, 3, 64, 0, [], 0) :: (145, .iconst 1, 1, 0, 0, [], 1) :: (146, .goto 4, 3, 65, 0, [], 0) :: uX12_told_64
set_option maxRecDepth 100000 in
def uX12_told_51 : List zEn := (127, .aload_n 0, 1, 0, 0, [], 0) :: (128, .getfield 7, 3, 12, 0, [(0, 2), (0, 1250)], 0) :: (131, .iload_n 3, 1, 3, 0, [], 0) :: (132, .bipush 10, 2, 0, 0, [], 10) :: (134, .iadd, 1, 0, 0, [], 0) :: (135, .iaload, 1, 0, 0, [], 0) :: (136, .ireturn, 1, 0, 0, [], 0) :: uX12_told_58
set_option maxRecDepth 100000 in
def uX12_told_43 : List zEn := (114, .aload_n 0, 1, 0, 0, [], 0) :: (115, .getfield 7, 3, 12, 0, [(0, 2), (0, 1250)], 0) :: (118, .iload_n 3, 1, 3, 0, [], 0) :: (119, .bipush 9, 2, 0, 0, [], 9) :: (121, .iadd, 1, 0, 0, [], 0) :: (122, .iaload, 1, 0, 0, [], 0) :: (123, .invokestatic 155, 3, 70, 1, [(0, 1), (0, 0), (0, 0), (0, 1460)], 0) :: (126, .ireturn, 1, 0, 0, [], 0) :: uX12_told_51
set_option maxRecDepth 100000 in
def uX12_told_36 : List zEn := (104, .aload_n 0, 1, 0, 0, [], 0) :: (105, .getfield 7, 3, 12, 0, [(0, 2), (0, 1250)], 0) :: (108, .iload_n 3, 1, 3, 0, [], 0) :: (109, .bipush 8, 2, 0, 0, [], 8) :: (111, .iadd, 1, 0, 0, [], 0) :: (112, .iaload, 1, 0, 0, [], 0) :: (113, .ireturn, 1, 0, 0, [], 0) :: uX12_told_43
set_option maxRecDepth 100000 in
def uX12_told_32 : List zEn := (98, .aload_n 0, 1, 0, 0, [], 0) :: (99, .iload_n 1, 1, 1, 0, [], 0) :: (100, .invokevirtual 152, 3, 69, 2, [(0, 1), (0, 0), (0, 0), (0, 12), (0, 1452)], 0) :: (103, .ireturn, 1, 0, 0, [], 0) :: uX12_told_36
set_option maxRecDepth 100000 in
def uX12_told_26 : List zEn := (88, .aload_n 0, 1, 0, 0, [], 0) :: (89, .getfield 7, 3, 12, 0, [(0, 2), (0, 1250)], 0) :: (92, .iload_n 3, 1, 3, 0, [], 0) :: (93, .iaload, 1, 0, 0, [], 0) :: (94, .invokestatic 127, 3, 67, 1, [(0, 1), (0, 0), (0, 0), (0, 1449)], 0) :: (97, .ireturn, 1, 0, 0, [], 0) :: uX12_told_32
set_option maxRecDepth 100000 in
def uX12_told_22 : List zEn := (82, .aload_n 0, 1, 0, 0, [], 0) :: (83, .iload_n 1, 1, 1, 0, [], 0) :: (84, .invokevirtual 130, 3, 66, 2, [(0, 1), (0, 0), (0, 0), (0, 12), (0, 1445)], 0) :: (87, .ireturn, 1, 0, 0, [], 0) :: uX12_told_26
set_option maxRecDepth 100000 in
def uX12_told_18 : List zEn := (76, .aload_n 0, 1, 0, 0, [], 0) :: (77, .iload_n 1, 1, 1, 0, [], 0) :: (78, .invokevirtual 149, 3, 65, 2, [(0, 1), (0, 0), (0, 0), (0, 12), (0, 1435)], 0) :: (81, .ireturn, 1, 0, 0, [], 0) :: uX12_told_22
set_option maxRecDepth 100000 in
def uX12_told_12 : List zEn := (23, .aload_n 0, 1, 0, 0, [], 0) :: (24, .iload_n 1, 1, 1, 0, [], 0) :: (25, .invokevirtual 120, 3, 42, 2, [(0, 1), (0, 0), (0, 0), (0, 12), (0, 1422)], 0) :: (28, .istore_n 3, 1, 3, 0, [], 0) :: (29, .iload_n 2, 1, 2, 0, [], 0) :: (30, .tableswitch 121 8 15 #[46, 52, 58, 68, 74, 84, 97, 107], 46, 66, 0, [(8, 18), (9, 22), (10, 26), (11, 32), (12, 36), (13, 43), (14, 51), (15, 58)], 0) :: uX12_told_18
set_option maxRecDepth 100000 in
def uX12_told_10 : List zEn := (20, .ldc 87, 2, 0, 0, [(0, 1372)], (-1000000001)) :: (22, .ireturn, 1, 0, 0, [], 0) :: uX12_told_12
set_option maxRecDepth 100000 in
def uX12_told_0 : List zEn := (0, .aload_n 0, 1, 0, 0, [], 0) :: (1, .iload_n 1, 1, 1, 0, [], 0) :: (2, .invokevirtual 144, 3, 62, 2, [(0, 1), (0, 0), (0, 0), (0, 12), (0, 1430)], 0) :: (5, .ifCond .eq 15, 3, 10, 0, [], 0) :: (8, .iload_n 2, 1, 2, 0, [], 0) :: (9, .i2l, 1, 0, 0, [], 0) :: (10, .lconst 0, 1, 0, 0, [], 0) :: (11, .ldc2_w 147, 3, 0, 0, [(0, 1434)], 15) :: (14, .invokestatic 77, 3, 15, 3, [(0, 1), (0, 0), (0, 0), (0, 1368)], 0) :: (17, .ifCond .ne 6, 3, 12, 0, [], 0) :: uX12_told_10
set_option maxRecDepth 100000 in
theorem jX12_told_10 : zj pX12_told 10 = uX12_told_10 := rfl
set_option maxRecDepth 100000 in
theorem jX12_told_12 : zj pX12_told 12 = uX12_told_12 := rfl
set_option maxRecDepth 100000 in
theorem jX12_told_18 : zj pX12_told 18 = uX12_told_18 := rfl
set_option maxRecDepth 100000 in
theorem jX12_told_22 : zj pX12_told 22 = uX12_told_22 := rfl
set_option maxRecDepth 100000 in
theorem jX12_told_26 : zj pX12_told 26 = uX12_told_26 := rfl
set_option maxRecDepth 100000 in
theorem jX12_told_32 : zj pX12_told 32 = uX12_told_32 := rfl
set_option maxRecDepth 100000 in
theorem jX12_told_36 : zj pX12_told 36 = uX12_told_36 := rfl
set_option maxRecDepth 100000 in
theorem jX12_told_43 : zj pX12_told 43 = uX12_told_43 := rfl
set_option maxRecDepth 100000 in
theorem jX12_told_51 : zj pX12_told 51 = uX12_told_51 := rfl
set_option maxRecDepth 100000 in
theorem jX12_told_58 : zj pX12_told 58 = uX12_told_58 := rfl
set_option maxRecDepth 100000 in
theorem jX12_told_64 : zj pX12_told 64 = uX12_told_64 := rfl
set_option maxRecDepth 100000 in
theorem jX12_told_65 : zj pX12_told 65 = uX12_told_65 := rfl
set_option maxRecDepth 100000 in
theorem jX12_told_66 : zj pX12_told 66 = uX12_told_66 := rfl
set_option maxRecDepth 100000 in
def uX3_isOf_26 : List zEn := (44, .iconst 0, 1, 0, 0, [], 0) :: (45, .ireturn, 1, 1, 0, [], 0) :: []
set_option maxRecDepth 100000 in
def uX3_isOf_20 : List zEn := (32, .getstatic 48, 3, 0, 0, [(0, 649)], 0) :: (35, .iload_n 2, 1, 2, 0, [], 0) :: (36, .iaload, 1, 0, 0, [], 0) :: (37, .istore_n 2, 1, 2, 0, [], 0) :: (38, .iinc 3 1, 3, 3, 0, [], 1) :: (41, .goto (-34), 3, 5, 0, [], 0) :: uX3_isOf_26
set_option maxRecDepth 100000 in
def uX3_isOf_6 : List zEn := (7, .iload_n 3, 1, 3, 0, [], 0) :: (8, .bipush 6, 2, 0, 0, [], 6) :: (10, .if_icmp .ge 34, 3, 26, 0, [], 0) :: (13, .iload_n 2, 1, 2, 0, [], 0) :: (14, .ifCond .lt 30, 3, 26, 0, [], 0) :: (17, .iload_n 2, 1, 2, 0, [], 0) :: (18, .getstatic 48, 3, 0, 0, [(0, 649)], 0) :: (21, .arraylength, 1, 0, 0, [], 0) :: (22, .if_icmp .ge 22, 3, 26, 0, [], 0) :: (25, .iload_n 2, 1, 2, 0, [], 0) :: (26, .iload_n 1, 1, 1, 0, [], 0) :: (27, .if_icmp .ne 5, 3, 20, 0, [], 0) :: (30, .iconst 1, 1, 0, 0, [], 1) :: (31, .ireturn, 1, 1, 0, [], 0) :: uX3_isOf_20
set_option maxRecDepth 100000 in
def tX3_isOf_6 : List zEn := uX3_isOf_6
set_option maxRecDepth 100000 in
def uX3_isOf_5 : List zEn := (7, .nop, 0, 0, 0, [], 0) :: tX3_isOf_6
set_option maxRecDepth 100000 in
def uX3_isOf_0 : List zEn := (0, .aload_n 0, 1, 0, 0, [], 0) :: (1, .getfield 9, 3, 3, 0, [(0, 0), (0, 211)], 0) :: (4, .istore_n 2, 1, 2, 0, [], 0) :: (5, .iconst 0, 1, 0, 0, [], 0) :: (6, .istore_n 3, 1, 3, 0, [], 0) :: uX3_isOf_5
set_option maxRecDepth 100000 in
theorem jX3_isOf_5 : zj pX3_isOf 5 = uX3_isOf_5 := rfl
set_option maxRecDepth 100000 in
theorem jX3_isOf_20 : zj pX3_isOf 20 = uX3_isOf_20 := rfl
set_option maxRecDepth 100000 in
theorem jX3_isOf_26 : zj pX3_isOf 26 = uX3_isOf_26 := rfl
set_option maxRecDepth 100000 in
def uX11_as_23 : List zEn := (45, .ireturn, 1, 0, 0, [], 0) :: []
set_option maxRecDepth 100000 in
def uX11_as_22 : List zEn := (43, .ldc 157, 2, 0, 0, [(0, 651)], (-1000000012)) :: uX11_as_23
set_option maxRecDepth 100000 in
def uX11_as_9 : List zEn := (18, .aload_n 0, 1, 0, 0, [], 0) :: (19, .getfield 10, 3, 11, 0, [(0, 2), (0, 457)], 0) :: (22, .getfield 124, 3, 6, 3, [(0, 2), (0, 279)], 0) :: (25, .iload_n 1, 1, 1, 0, [], 0) :: (26, .aaload, 1, 0, 0, [], 0) :: (27, .astore_n 3, 1, 3, 0, [], 0) :: (28, .aload_n 3, 1, 3, 0, [], 0) :: (29, .iload_n 2, 1, 2, 0, [], 0) :: (30, .invokevirtual 151, 3, 77, 2, [(0, 1), (0, 0), (0, 0), (0, 3), (0, 645)], 0) :: (33, .ifCond .eq 10, 3, 22, 0, [], 0) :: (36, .aload_n 3, 1, 3, 0, [], 0) :: (37, .getfield 154, 3, 3, 2, [(0, 0), (0, 220)], 0) :: (40, .goto 5, 3, 23, 0, [], 0) :: uX11_as_22
set_option maxRecDepth 100000 in
def uX11_as_7 : List zEn := (15, .ldc 75, 2, 0, 0, [(0, 498)], (-1000000001)) :: (17, .ireturn, 1, 0, 0, [], 0) :: uX11_as_9
set_option maxRecDepth 100000 in
def uX11_as_0 : List zEn := (0, .aload_n 0, 1, 0, 0, [], 0) :: (1, .iload_n 1, 1, 1, 0, [], 0) :: (2, .invokevirtual 121, 3, 44, 2, [(0, 1), (0, 0), (0, 0), (0, 11), (0, 565)], 0) :: (5, .ifCond .eq 10, 3, 7, 0, [], 0) :: (8, .iload_n 2, 1, 2, 0, [], 0) :: (9, .invokestatic 114, 3, 38, 1, [(0, 1), (0, 0), (0, 0), (0, 550)], 0) :: (12, .ifCond .ne 6, 3, 9, 0, [], 0) :: uX11_as_7
set_option maxRecDepth 100000 in
theorem jX11_as_7 : zj pX11_as 7 = uX11_as_7 := rfl
set_option maxRecDepth 100000 in
theorem jX11_as_9 : zj pX11_as 9 = uX11_as_9 := rfl
set_option maxRecDepth 100000 in
theorem jX11_as_22 : zj pX11_as 22 = uX11_as_22 := rfl
set_option maxRecDepth 100000 in
theorem jX11_as_23 : zj pX11_as 23 = uX11_as_23 := rfl
set_option maxRecDepth 100000 in
def uX12_isOf_20 : List zEn := (34, .ireturn, 1, 1, 0, [], 0) :: []
set_option maxRecDepth 100000 in
def uX12_isOf_19 : List zEn := (33, .iconst 0, 1, 0, 0, [], 0) :: uX12_isOf_20
set_option maxRecDepth 100000 in
def uX12_isOf_17 : List zEn := (29, .iconst 1, 1, 0, 0, [], 1) :: (30, .goto 4, 3, 20, 0, [], 0) :: uX12_isOf_19
set_option maxRecDepth 100000 in
def uX12_isOf_11 : List zEn := (19, .iload_n 1, 1, 1, 0, [], 0) :: (20, .iconst 2, 1, 0, 0, [], 2) :: (21, .if_icmp .ne 12, 3, 19, 0, [], 0) :: (24, .iload_n 0, 1, 0, 0, [], 0) :: (25, .iconst 3, 1, 0, 0, [], 3) :: (26, .if_icmp .ne 7, 3, 19, 0, [], 0) :: uX12_isOf_17
set_option maxRecDepth 100000 in
def uX12_isOf_0 : List zEn := (0, .iload_n 1, 1, 1, 0, [], 0) :: (1, .ifCond .eq 28, 3, 17, 0, [], 0) :: (4, .iload_n 0, 1, 0, 0, [], 0) :: (5, .iload_n 1, 1, 1, 0, [], 0) :: (6, .if_icmp .eq 23, 3, 17, 0, [], 0) :: (9, .iload_n 1, 1, 1, 0, [], 0) :: (10, .iconst 1, 1, 0, 0, [], 1) :: (11, .if_icmp .ne 8, 3, 11, 0, [], 0) :: (14, .iload_n 0, 1, 0, 0, [], 0) :: (15, .iconst 4, 1, 0, 0, [], 4) :: (16, .if_icmp .eq 13, 3, 17, 0, [], 0) :: uX12_isOf_11
set_option maxRecDepth 100000 in
theorem jX12_isOf_11 : zj pX12_isOf 11 = uX12_isOf_11 := rfl
set_option maxRecDepth 100000 in
theorem jX12_isOf_17 : zj pX12_isOf 17 = uX12_isOf_17 := rfl
set_option maxRecDepth 100000 in
theorem jX12_isOf_19 : zj pX12_isOf 19 = uX12_isOf_19 := rfl
set_option maxRecDepth 100000 in
theorem jX12_isOf_20 : zj pX12_isOf 20 = uX12_isOf_20 := rfl
set_option maxRecDepth 100000 in
def uX12_as_31 : List zEn := (57, .ireturn, 1, 0, 0, [], 0) :: []
set_option maxRecDepth 100000 in
def uX12_as_30 : List zEn := (55, .ldc 164, 2, 0, 0, [(0, 1490)], (-1000000012)) :: uX12_as_31
set_option maxRecDepth 100000 in
def uX12_as_12 : List zEn := (23, .aload_n 0, 1, 0, 0, [], 0) :: (24, .getfield 7, 3, 12, 0, [(0, 2), (0, 1250)], 0) :: (27, .aload_n 0, 1, 0, 0, [], 0) :: (28, .iload_n 1, 1, 1, 0, [], 0) :: (29, .invokevirtual 120, 3, 42, 2, [(0, 1), (0, 0), (0, 0), (0, 12), (0, 1422)], 0) :: (32, .iaload, 1, 0, 0, [], 0) :: (33, .iload_n 2, 1, 2, 0, [], 0) :: (34, .invokestatic 161, 3, 79, 2, [(0, 1), (0, 0), (0, 0), (0, 1487)], 0) :: (37, .ifCond .eq 18, 3, 30, 0, [], 0) :: (40, .aload_n 0, 1, 0, 0, [], 0) :: (41, .getfield 7, 3, 12, 0, [(0, 2), (0, 1250)], 0) :: (44, .aload_n 0, 1, 0, 0, [], 0) :: (45, .iload_n 1, 1, 1, 0, [], 0) :: (46, .invokevirtual 120, 3, 42, 2, [(0, 1), (0, 0), (0, 0), (0, 12), (0, 1422)], 0) :: (49, .iconst 2, 1, 0, 0, [], 2) :: (50, .iadd, 1, 0, 0, [], 0) :: (51, .iaload, 1, 0, 0, [], 0) :: (52, .goto 5, 3, 31, 0, [], 0) :: uX12_as_30
set_option maxRecDepth 100000 in
def uX12_as_10 : List zEn := (20, .ldc 87, 2, 0, 0, [(0, 1372)], (-1000000001)) :: (22, .ireturn, 1, 0, 0, [], 0) :: uX12_as_12
set_option maxRecDepth 100000 in
def uX12_as_0 : List zEn := (0, .aload_n 0, 1, 0, 0, [], 0) :: (1, .iload_n 1, 1, 1, 0, [], 0) :: (2, .invokevirtual 144, 3, 62, 2, [(0, 1), (0, 0), (0, 0), (0, 12), (0, 1430)], 0) :: (5, .ifCond .eq 15, 3, 10, 0, [], 0) :: (8, .iload_n 2, 1, 2, 0, [], 0) :: (9, .i2l, 1, 0, 0, [], 0) :: (10, .lconst 0, 1, 0, 0, [], 0) :: (11, .ldc2_w 142, 3, 0, 0, [(0, 1421)], 5) :: (14, .invokestatic 77, 3, 15, 3, [(0, 1), (0, 0), (0, 0), (0, 1368)], 0) :: (17, .ifCond .ne 6, 3, 12, 0, [], 0) :: uX12_as_10
set_option maxRecDepth 100000 in
theorem jX12_as_10 : zj pX12_as 10 = uX12_as_10 := rfl
set_option maxRecDepth 100000 in
theorem jX12_as_12 : zj pX12_as 12 = uX12_as_12 := rfl
set_option maxRecDepth 100000 in
theorem jX12_as_30 : zj pX12_as 30 = uX12_as_30 := rfl
set_option maxRecDepth 100000 in
theorem jX12_as_31 : zj pX12_as 31 = uX12_as_31 := rfl
set_option maxRecDepth 100000 in
def uX11_turns_9 : List zEn := (18, .aload_n 0, 1, 0, 0, [], 0) :: (19, .getfield 10, 3, 11, 0, [(0, 2), (0, 457)], 0) :: (22, .getfield 124, 3, 6, 3, [(0, 2), (0, 279)], 0) :: (25, .iload_n 1, 1, 1, 0, [], 0) :: (26, .aaload, 1, 0, 0, [], 0) :: (27, .astore_n 3, 1, 3, 0, [], 0) :: (28, .aload_n 3, 1, 3, 0, [], 0) :: (29, .getfield 158, 3, 3, 0, [(0, 0), (0, 215)], 0) :: (32, .istore 4, 2, 4, 0, [], 0) :: (34, .aload_n 3, 1, 3, 0, [], 0) :: (35, .iload_n 2, 1, 2, 0, [], 0) :: (36, .putfield 158, 3, 3, 0, [(0, 0), (0, 215)], 0) :: (39, .iload 4, 2, 4, 0, [], 0) :: (41, .ireturn, 1, 0, 0, [], 0) :: []
set_option maxRecDepth 100000 in
def uX11_turns_7 : List zEn := (15, .ldc 75, 2, 0, 0, [(0, 498)], (-1000000001)) :: (17, .ireturn, 1, 0, 0, [], 0) :: uX11_turns_9
set_option maxRecDepth 100000 in
def uX11_turns_0 : List zEn := (0, .aload_n 0, 1, 0, 0, [], 0) :: (1, .iload_n 1, 1, 1, 0, [], 0) :: (2, .invokevirtual 121, 3, 44, 2, [(0, 1), (0, 0), (0, 0), (0, 11), (0, 565)], 0) :: (5, .ifCond .eq 10, 3, 7, 0, [], 0) :: (8, .iload_n 2, 1, 2, 0, [], 0) :: (9, .invokestatic 114, 3, 38, 1, [(0, 1), (0, 0), (0, 0), (0, 550)], 0) :: (12, .ifCond .ne 6, 3, 9, 0, [], 0) :: uX11_turns_7
set_option maxRecDepth 100000 in
theorem jX11_turns_7 : zj pX11_turns 7 = uX11_turns_7 := rfl
set_option maxRecDepth 100000 in
theorem jX11_turns_9 : zj pX11_turns 9 = uX11_turns_9 := rfl
set_option maxRecDepth 100000 in
def uX12_turns_18 : List zEn := (35, .ireturn, 1, 0, 0, [], 0) :: []
set_option maxRecDepth 100000 in
def uX12_turns_17 : List zEn := (33, .ldc 87, 2, 0, 0, [(0, 1372)], (-1000000001)) :: uX12_turns_18
set_option maxRecDepth 100000 in
def uX12_turns_0 : List zEn := (0, .aload_n 0, 1, 0, 0, [], 0) :: (1, .iload_n 1, 1, 1, 0, [], 0) :: (2, .invokevirtual 144, 3, 62, 2, [(0, 1), (0, 0), (0, 0), (0, 12), (0, 1430)], 0) :: (5, .ifCond .eq 28, 3, 17, 0, [], 0) :: (8, .iload_n 2, 1, 2, 0, [], 0) :: (9, .i2l, 1, 0, 0, [], 0) :: (10, .lconst 0, 1, 0, 0, [], 0) :: (11, .ldc2_w 142, 3, 0, 0, [(0, 1421)], 5) :: (14, .invokestatic 77, 3, 15, 3, [(0, 1), (0, 0), (0, 0), (0, 1368)], 0) :: (17, .ifCond .eq 16, 3, 17, 0, [], 0) :: (20, .aload_n 0, 1, 0, 0, [], 0) :: (21, .aload_n 0, 1, 0, 0, [], 0) :: (22, .iload_n 1, 1, 1, 0, [], 0) :: (23, .invokevirtual 120, 3, 42, 2, [(0, 1), (0, 0), (0, 0), (0, 12), (0, 1422)], 0) :: (26, .iload_n 2, 1, 2, 0, [], 0) :: (27, .invokevirtual 103, 3, 26, 3, [(0, 1), (0, 0), (0, 0), (0, 12), (0, 1395)], 0) :: (30, .goto 5, 3, 18, 0, [], 0) :: uX12_turns_17
set_option maxRecDepth 100000 in
theorem jX12_turns_17 : zj pX12_turns 17 = uX12_turns_17 := rfl
set_option maxRecDepth 100000 in
theorem jX12_turns_18 : zj pX12_turns 18 = uX12_turns_18 := rfl
set_option maxRecDepth 100000 in
def uX11_flag_40 : List zEn := (80, .ireturn, 1, 0, 0, [], 0) :: []
set_option maxRecDepth 100000 in
def uX11_flag_39 : List zEn := (79, .iconst 1, 1, 0, 0, [], 1) :: uX11_flag_40
set_option maxRecDepth 100000 in
def uX11_flag_34 : List zEn := (69, .iload 5, 2, 5, 0, [], 0) :: (71, .iload_n 3, 1, 3, 0, [], 0) :: (72, .if_icmp .ne 7, 3, 39, 0, [], 0) :: (75, .iconst 0, 1, 0, 0, [], 0) :: (76, .goto 4, 3, 40, 0, [], 0) :: uX11_flag_39
set_option maxRecDepth 100000 in
def uX11_flag_31 : List zEn := (63, .aload 4, 2, 4, 0, [], 0) :: (65, .iload_n 3, 1, 3, 0, [], 0) :: (66, .putfield 164, 3, 3, 7, [(0, 1), (0, 238)], 0) :: uX11_flag_34
set_option maxRecDepth 100000 in
def uX11_flag_24 : List zEn := (48, .istore 5, 2, 5, 0, [], 0) :: (50, .iload_n 2, 1, 2, 0, [], 0) :: (51, .ifCond .ne 12, 3, 31, 0, [], 0) :: (54, .aload 4, 2, 4, 0, [], 0) :: (56, .iload_n 3, 1, 3, 0, [], 0) :: (57, .putfield 161, 3, 3, 6, [(0, 1), (0, 235)], 0) :: (60, .goto 9, 3, 34, 0, [], 0) :: uX11_flag_31
set_option maxRecDepth 100000 in
def uX11_flag_22 : List zEn := (43, .aload 4, 2, 4, 0, [], 0) :: (45, .getfield 164, 3, 3, 7, [(0, 1), (0, 238)], 0) :: uX11_flag_24
set_option maxRecDepth 100000 in
def uX11_flag_11 : List zEn := (20, .aload_n 0, 1, 0, 0, [], 0) :: (21, .getfield 10, 3, 11, 0, [(0, 2), (0, 457)], 0) :: (24, .getfield 124, 3, 6, 3, [(0, 2), (0, 279)], 0) :: (27, .iload_n 1, 1, 1, 0, [], 0) :: (28, .aaload, 1, 0, 0, [], 0) :: (29, .astore 4, 2, 4, 0, [], 0) :: (31, .iload_n 2, 1, 2, 0, [], 0) :: (32, .ifCond .ne 11, 3, 22, 0, [], 0) :: (35, .aload 4, 2, 4, 0, [], 0) :: (37, .getfield 161, 3, 3, 6, [(0, 1), (0, 235)], 0) :: (40, .goto 8, 3, 24, 0, [], 0) :: uX11_flag_22
set_option maxRecDepth 100000 in
def uX11_flag_9 : List zEn := (17, .ldc 75, 2, 0, 0, [(0, 498)], (-1000000001)) :: (19, .ireturn, 1, 0, 0, [], 0) :: uX11_flag_11
set_option maxRecDepth 100000 in
def uX11_flag_0 : List zEn := (0, .aload_n 0, 1, 0, 0, [], 0) :: (1, .iload_n 1, 1, 1, 0, [], 0) :: (2, .invokevirtual 121, 3, 44, 2, [(0, 1), (0, 0), (0, 0), (0, 11), (0, 565)], 0) :: (5, .ifCond .eq 12, 3, 9, 0, [], 0) :: (8, .iload_n 2, 1, 2, 0, [], 0) :: (9, .iconst 0, 1, 0, 0, [], 0) :: (10, .iconst 1, 1, 0, 0, [], 1) :: (11, .invokestatic 68, 3, 12, 3, [(0, 1), (0, 0), (0, 0), (0, 495)], 0) :: (14, .ifCond .ne 6, 3, 11, 0, [], 0) :: uX11_flag_9
set_option maxRecDepth 100000 in
theorem jX11_flag_9 : zj pX11_flag 9 = uX11_flag_9 := rfl
set_option maxRecDepth 100000 in
theorem jX11_flag_11 : zj pX11_flag 11 = uX11_flag_11 := rfl
set_option maxRecDepth 100000 in
theorem jX11_flag_22 : zj pX11_flag 22 = uX11_flag_22 := rfl
set_option maxRecDepth 100000 in
theorem jX11_flag_24 : zj pX11_flag 24 = uX11_flag_24 := rfl
set_option maxRecDepth 100000 in
theorem jX11_flag_31 : zj pX11_flag 31 = uX11_flag_31 := rfl
set_option maxRecDepth 100000 in
theorem jX11_flag_34 : zj pX11_flag 34 = uX11_flag_34 := rfl
set_option maxRecDepth 100000 in
theorem jX11_flag_39 : zj pX11_flag 39 = uX11_flag_39 := rfl
set_option maxRecDepth 100000 in
theorem jX11_flag_40 : zj pX11_flag 40 = uX11_flag_40 := rfl
set_option maxRecDepth 100000 in
def uX12_flag_33 : List zEn := (58, .ireturn, 1, 0, 0, [], 0) :: []
set_option maxRecDepth 100000 in
def uX12_flag_32 : List zEn := (57, .iconst 1, 1, 0, 0, [], 1) :: uX12_flag_33
set_option maxRecDepth 100000 in
def uX12_flag_17 : List zEn := (30, .istore 4, 2, 4, 0, [], 0) :: (32, .aload_n 0, 1, 0, 0, [], 0) :: (33, .aload_n 0, 1, 0, 0, [], 0) :: (34, .iload_n 1, 1, 1, 0, [], 0) :: (35, .invokevirtual 120, 3, 42, 2, [(0, 1), (0, 0), (0, 0), (0, 12), (0, 1422)], 0) :: (38, .bipush 6, 2, 0, 0, [], 6) :: (40, .iadd, 1, 0, 0, [], 0) :: (41, .iload_n 2, 1, 2, 0, [], 0) :: (42, .iadd, 1, 0, 0, [], 0) :: (43, .iload 4, 2, 4, 0, [], 0) :: (45, .invokevirtual 103, 3, 26, 3, [(0, 1), (0, 0), (0, 0), (0, 12), (0, 1395)], 0) :: (48, .iload 4, 2, 4, 0, [], 0) :: (50, .if_icmp .ne 7, 3, 32, 0, [], 0) :: (53, .iconst 0, 1, 0, 0, [], 0) :: (54, .goto 4, 3, 33, 0, [], 0) :: uX12_flag_32
set_option maxRecDepth 100000 in
def uX12_flag_16 : List zEn := (29, .iconst 0, 1, 0, 0, [], 0) :: uX12_flag_17
set_option maxRecDepth 100000 in
def uX12_flag_12 : List zEn := (21, .iload_n 3, 1, 3, 0, [], 0) :: (22, .ifCond .eq 7, 3, 16, 0, [], 0) :: (25, .iconst 1, 1, 0, 0, [], 1) :: (26, .goto 4, 3, 17, 0, [], 0) :: uX12_flag_16
set_option maxRecDepth 100000 in
def uX12_flag_10 : List zEn := (18, .ldc 87, 2, 0, 0, [(0, 1372)], (-1000000001)) :: (20, .ireturn, 1, 0, 0, [], 0) :: uX12_flag_12
set_option maxRecDepth 100000 in
def uX12_flag_0 : List zEn := (0, .aload_n 0, 1, 0, 0, [], 0) :: (1, .iload_n 1, 1, 1, 0, [], 0) :: (2, .invokevirtual 144, 3, 62, 2, [(0, 1), (0, 0), (0, 0), (0, 12), (0, 1430)], 0) :: (5, .ifCond .eq 13, 3, 10, 0, [], 0) :: (8, .iload_n 2, 1, 2, 0, [], 0) :: (9, .i2l, 1, 0, 0, [], 0) :: (10, .lconst 0, 1, 0, 0, [], 0) :: (11, .lconst 1, 1, 0, 0, [], 1) :: (12, .invokestatic 77, 3, 15, 3, [(0, 1), (0, 0), (0, 0), (0, 1368)], 0) :: (15, .ifCond .ne 6, 3, 12, 0, [], 0) :: uX12_flag_10
set_option maxRecDepth 100000 in
theorem jX12_flag_10 : zj pX12_flag 10 = uX12_flag_10 := rfl
set_option maxRecDepth 100000 in
theorem jX12_flag_12 : zj pX12_flag 12 = uX12_flag_12 := rfl
set_option maxRecDepth 100000 in
theorem jX12_flag_16 : zj pX12_flag 16 = uX12_flag_16 := rfl
set_option maxRecDepth 100000 in
theorem jX12_flag_17 : zj pX12_flag 17 = uX12_flag_17 := rfl
set_option maxRecDepth 100000 in
theorem jX12_flag_32 : zj pX12_flag 32 = uX12_flag_32 := rfl
set_option maxRecDepth 100000 in
theorem jX12_flag_33 : zj pX12_flag 33 = uX12_flag_33 := rfl
set_option maxRecDepth 100000 in
def uX11_promise_11 : List zEn := (22, .aload_n 0, 1, 0, 0, [], 0) :: (23, .getfield 10, 3, 11, 0, [(0, 2), (0, 457)], 0) :: (26, .getfield 124, 3, 6, 3, [(0, 2), (0, 279)], 0) :: (29, .iload_n 1, 1, 1, 0, [], 0) :: (30, .aaload, 1, 0, 0, [], 0) :: (31, .astore_n 3, 1, 3, 0, [], 0) :: (32, .aload_n 3, 1, 3, 0, [], 0) :: (33, .getfield 167, 3, 3, 8, [(0, 0), (0, 241)], 0) :: (36, .istore 4, 2, 4, 0, [], 0) :: (38, .aload_n 3, 1, 3, 0, [], 0) :: (39, .iload_n 2, 1, 2, 0, [], 0) :: (40, .putfield 167, 3, 3, 8, [(0, 0), (0, 241)], 0) :: (43, .iload 4, 2, 4, 0, [], 0) :: (45, .ireturn, 1, 0, 0, [], 0) :: []
set_option maxRecDepth 100000 in
def uX11_promise_9 : List zEn := (19, .ldc 75, 2, 0, 0, [(0, 498)], (-1000000001)) :: (21, .ireturn, 1, 0, 0, [], 0) :: uX11_promise_11
set_option maxRecDepth 100000 in
def uX11_promise_0 : List zEn := (0, .aload_n 0, 1, 0, 0, [], 0) :: (1, .iload_n 1, 1, 1, 0, [], 0) :: (2, .invokevirtual 121, 3, 44, 2, [(0, 1), (0, 0), (0, 0), (0, 11), (0, 565)], 0) :: (5, .ifCond .eq 14, 3, 9, 0, [], 0) :: (8, .iload_n 2, 1, 2, 0, [], 0) :: (9, .iconst 0, 1, 0, 0, [], 0) :: (10, .sipush 999, 3, 0, 0, [], 999) :: (13, .invokestatic 68, 3, 12, 3, [(0, 1), (0, 0), (0, 0), (0, 495)], 0) :: (16, .ifCond .ne 6, 3, 11, 0, [], 0) :: uX11_promise_9
set_option maxRecDepth 100000 in
theorem jX11_promise_9 : zj pX11_promise 9 = uX11_promise_9 := rfl
set_option maxRecDepth 100000 in
theorem jX11_promise_11 : zj pX11_promise 11 = uX11_promise_11 := rfl
set_option maxRecDepth 100000 in
def uX12_promise_20 : List zEn := (38, .ireturn, 1, 0, 0, [], 0) :: []
set_option maxRecDepth 100000 in
def uX12_promise_19 : List zEn := (36, .ldc 87, 2, 0, 0, [(0, 1372)], (-1000000001)) :: uX12_promise_20
set_option maxRecDepth 100000 in
def uX12_promise_0 : List zEn := (0, .aload_n 0, 1, 0, 0, [], 0) :: (1, .iload_n 1, 1, 1, 0, [], 0) :: (2, .invokevirtual 144, 3, 62, 2, [(0, 1), (0, 0), (0, 0), (0, 12), (0, 1430)], 0) :: (5, .ifCond .eq 31, 3, 19, 0, [], 0) :: (8, .iload_n 2, 1, 2, 0, [], 0) :: (9, .i2l, 1, 0, 0, [], 0) :: (10, .lconst 0, 1, 0, 0, [], 0) :: (11, .ldc2_w 97, 3, 0, 0, [(0, 1386)], 999) :: (14, .invokestatic 77, 3, 15, 3, [(0, 1), (0, 0), (0, 0), (0, 1368)], 0) :: (17, .ifCond .eq 19, 3, 19, 0, [], 0) :: (20, .aload_n 0, 1, 0, 0, [], 0) :: (21, .aload_n 0, 1, 0, 0, [], 0) :: (22, .iload_n 1, 1, 1, 0, [], 0) :: (23, .invokevirtual 120, 3, 42, 2, [(0, 1), (0, 0), (0, 0), (0, 12), (0, 1422)], 0) :: (26, .bipush 8, 2, 0, 0, [], 8) :: (28, .iadd, 1, 0, 0, [], 0) :: (29, .iload_n 2, 1, 2, 0, [], 0) :: (30, .invokevirtual 103, 3, 26, 3, [(0, 1), (0, 0), (0, 0), (0, 12), (0, 1395)], 0) :: (33, .goto 5, 3, 20, 0, [], 0) :: uX12_promise_19
set_option maxRecDepth 100000 in
theorem jX12_promise_19 : zj pX12_promise 19 = uX12_promise_19 := rfl
set_option maxRecDepth 100000 in
theorem jX12_promise_20 : zj pX12_promise 20 = uX12_promise_20 := rfl
set_option maxRecDepth 100000 in
def uX8_takeEach_48 : List zEn := (72, .iconst 1, 1, 0, 0, [], 1) :: (73, .ireturn, 1, 1, 0, [], 0) :: []
set_option maxRecDepth 100000 in
def uX8_takeEach_46 : List zEn := (66, .iinc 3 1, 3, 3, 0, [], 1) :: (69, .goto (-33), 3, 24, 0, [], 0) :: uX8_takeEach_48
set_option maxRecDepth 100000 in
def uX8_takeEach_25 : List zEn := (36, .iload_n 3, 1, 3, 0, [], 0) :: (37, .bipush 8, 2, 0, 0, [], 8) :: (39, .if_icmp .ge 33, 3, 48, 0, [], 0) :: (42, .iload_n 2, 1, 2, 0, [], 0) :: (43, .iload_n 3, 1, 3, 0, [], 0) :: (44, .ishr, 1, 0, 0, [], 0) :: (45, .iconst 1, 1, 0, 0, [], 1) :: (46, .iand, 1, 0, 0, [], 0) :: (47, .iconst 1, 1, 0, 0, [], 1) :: (48, .if_icmp .ne 18, 3, 46, 0, [], 0) :: (51, .aload_n 0, 1, 0, 0, [], 0) :: (52, .iload_n 1, 1, 1, 0, [], 0) :: (53, .iload_n 3, 1, 3, 0, [], 0) :: (54, .aload_n 0, 1, 0, 0, [], 0) :: (55, .iload_n 1, 1, 1, 0, [], 0) :: (56, .iload_n 3, 1, 3, 0, [], 0) :: (57, .invokevirtual 23, 3, 35, 3, [(0, 1), (0, 0), (0, 0), (0, 8), (0, 677)], 0) :: (60, .iconst 1, 1, 0, 0, [], 1) :: (61, .isub, 1, 0, 0, [], 0) :: (62, .invokevirtual 31, 3, 30, 4, [(0, 1), (0, 0), (0, 0), (0, 8), (0, 678)], 0) :: (65, .pop, 1, 0, 0, [], 0) :: uX8_takeEach_46
set_option maxRecDepth 100000 in
def tX8_takeEach_25 : List zEn := uX8_takeEach_25
set_option maxRecDepth 100000 in
def uX8_takeEach_24 : List zEn := (36, .nop, 0, 0, 0, [], 0) :: tX8_takeEach_25
set_option maxRecDepth 100000 in
def uX8_takeEach_22 : List zEn := (34, .iconst 0, 1, 0, 0, [], 0) :: (35, .istore_n 3, 1, 3, 0, [], 0) :: uX8_takeEach_24
set_option maxRecDepth 100000 in
def uX8_takeEach_20 : List zEn := (28, .iinc 3 1, 3, 3, 0, [], 1) :: (31, .goto (-29), 3, 2, 0, [], 0) :: uX8_takeEach_22
set_option maxRecDepth 100000 in
def uX8_takeEach_3 : List zEn := (2, .iload_n 3, 1, 3, 0, [], 0) :: (3, .bipush 8, 2, 0, 0, [], 8) :: (5, .if_icmp .ge 29, 3, 22, 0, [], 0) :: (8, .iload_n 2, 1, 2, 0, [], 0) :: (9, .iload_n 3, 1, 3, 0, [], 0) :: (10, .ishr, 1, 0, 0, [], 0) :: (11, .iconst 1, 1, 0, 0, [], 1) :: (12, .iand, 1, 0, 0, [], 0) :: (13, .iconst 1, 1, 0, 0, [], 1) :: (14, .if_icmp .ne 14, 3, 20, 0, [], 0) :: (17, .aload_n 0, 1, 0, 0, [], 0) :: (18, .iload_n 1, 1, 1, 0, [], 0) :: (19, .iload_n 3, 1, 3, 0, [], 0) :: (20, .invokevirtual 23, 3, 35, 3, [(0, 1), (0, 0), (0, 0), (0, 8), (0, 677)], 0) :: (23, .ifCond .ne 5, 3, 20, 0, [], 0) :: (26, .iconst 0, 1, 0, 0, [], 0) :: (27, .ireturn, 1, 1, 0, [], 0) :: uX8_takeEach_20
set_option maxRecDepth 100000 in
def tX8_takeEach_3 : List zEn := uX8_takeEach_3
set_option maxRecDepth 100000 in
def uX8_takeEach_2 : List zEn := (2, .nop, 0, 0, 0, [], 0) :: tX8_takeEach_3
set_option maxRecDepth 100000 in
def uX8_takeEach_0 : List zEn := (0, .iconst 0, 1, 0, 0, [], 0) :: (1, .istore_n 3, 1, 3, 0, [], 0) :: uX8_takeEach_2
set_option maxRecDepth 100000 in
theorem jX8_takeEach_2 : zj pX8_takeEach 2 = uX8_takeEach_2 := rfl
set_option maxRecDepth 100000 in
theorem jX8_takeEach_20 : zj pX8_takeEach 20 = uX8_takeEach_20 := rfl
set_option maxRecDepth 100000 in
theorem jX8_takeEach_22 : zj pX8_takeEach 22 = uX8_takeEach_22 := rfl
set_option maxRecDepth 100000 in
theorem jX8_takeEach_24 : zj pX8_takeEach 24 = uX8_takeEach_24 := rfl
set_option maxRecDepth 100000 in
theorem jX8_takeEach_46 : zj pX8_takeEach 46 = uX8_takeEach_46 := rfl
set_option maxRecDepth 100000 in
theorem jX8_takeEach_48 : zj pX8_takeEach 48 = uX8_takeEach_48 := rfl
set_option maxRecDepth 100000 in
def uX6_mendAt_19 : List zEn := (38, .aload_n 0, 1, 0, 0, [], 0) :: (39, .dup, 1, 0, 0, [], 0) :: (40, .getfield 61, 3, 6, 10, [(0, 0), (0, 294)], 0) :: (43, .aload_n 1, 1, 1, 0, [], 0) :: (44, .invokevirtual 161, 3, 48, 1, [(0, 1), (0, 0), (0, 0), (0, 3), (0, 680)], 0) :: (47, .isub, 1, 0, 0, [], 0) :: (48, .putfield 61, 3, 6, 10, [(0, 0), (0, 294)], 0) :: (51, .aload_n 1, 1, 1, 0, [], 0) :: (52, .sipush 255, 3, 0, 0, [], 255) :: (55, .putfield 164, 3, 3, 3, [(0, 0), (0, 224)], 0) :: (58, .aload_n 1, 1, 1, 0, [], 0) :: (59, .dup, 1, 0, 0, [], 0) :: (60, .getfield 104, 3, 3, 4, [(0, 0), (0, 227)], 0) :: (63, .iload_n 3, 1, 3, 0, [], 0) :: (64, .ior, 1, 0, 0, [], 0) :: (65, .putfield 104, 3, 3, 4, [(0, 0), (0, 227)], 0) :: (68, .aload_n 1, 1, 1, 0, [], 0) :: (69, .iconst 1, 1, 0, 0, [], 1) :: (70, .putfield 150, 3, 3, 5, [(0, 0), (0, 231)], 0) :: (73, .aload_n 1, 1, 1, 0, [], 0) :: (74, .iload_n 2, 1, 2, 0, [], 0) :: (75, .putfield 143, 3, 3, 9, [(0, 0), (0, 244)], 0) :: (78, .iload_n 3, 1, 3, 0, [], 0) :: (79, .invokestatic 125, 3, 46, 1, [(0, 1), (0, 0), (0, 0), (0, 607)], 0) :: (82, .ireturn, 1, 0, 0, [], 0) :: []
set_option maxRecDepth 100000 in
def uX6_mendAt_17 : List zEn := (35, .ldc 160, 2, 0, 0, [(0, 679)], (-1000000002)) :: (37, .ireturn, 1, 0, 0, [], 0) :: uX6_mendAt_19
set_option maxRecDepth 100000 in
def uX6_mendAt_0 : List zEn := (0, .aload_n 1, 1, 1, 0, [], 0) :: (1, .invokevirtual 147, 3, 45, 1, [(0, 1), (0, 0), (0, 0), (0, 3), (0, 672)], 0) :: (4, .istore_n 3, 1, 3, 0, [], 0) :: (5, .aload_n 1, 1, 1, 0, [], 0) :: (6, .getfield 150, 3, 3, 5, [(0, 0), (0, 231)], 0) :: (9, .ifCond .ne 26, 3, 17, 0, [], 0) :: (12, .aload_n 1, 1, 1, 0, [], 0) :: (13, .getfield 153, 3, 3, 0, [(0, 0), (0, 214)], 0) :: (16, .iconst 5, 1, 0, 0, [], 5) :: (17, .if_icmp .eq 18, 3, 17, 0, [], 0) :: (20, .aload_n 0, 1, 0, 0, [], 0) :: (21, .getfield 24, 3, 6, 2, [(0, 2), (0, 274)], 0) :: (24, .aload_n 1, 1, 1, 0, [], 0) :: (25, .getfield 111, 3, 3, 1, [(0, 0), (0, 218)], 0) :: (28, .iload_n 3, 1, 3, 0, [], 0) :: (29, .invokevirtual 156, 3, 87, 3, [(0, 1), (0, 0), (0, 0), (0, 8), (0, 673)], 0) :: (32, .ifCond .ne 6, 3, 19, 0, [], 0) :: uX6_mendAt_17
set_option maxRecDepth 100000 in
theorem jX6_mendAt_17 : zj pX6_mendAt 17 = uX6_mendAt_17 := rfl
set_option maxRecDepth 100000 in
theorem jX6_mendAt_19 : zj pX6_mendAt 19 = uX6_mendAt_19 := rfl
set_option maxRecDepth 100000 in
def uX11_mend_11 : List zEn := (20, .aload_n 0, 1, 0, 0, [], 0) :: (21, .getfield 10, 3, 11, 0, [(0, 2), (0, 457)], 0) :: (24, .aload_n 0, 1, 0, 0, [], 0) :: (25, .getfield 10, 3, 11, 0, [(0, 2), (0, 457)], 0) :: (28, .getfield 124, 3, 6, 3, [(0, 2), (0, 279)], 0) :: (31, .iload_n 1, 1, 1, 0, [], 0) :: (32, .aaload, 1, 0, 0, [], 0) :: (33, .iload_n 2, 1, 2, 0, [], 0) :: (34, .invokevirtual 170, 3, 88, 3, [(0, 1), (0, 0), (0, 0), (0, 6), (0, 668)], 0) :: (37, .ireturn, 1, 0, 0, [], 0) :: []
set_option maxRecDepth 100000 in
def uX11_mend_9 : List zEn := (17, .ldc 75, 2, 0, 0, [(0, 498)], (-1000000001)) :: (19, .ireturn, 1, 0, 0, [], 0) :: uX11_mend_11
set_option maxRecDepth 100000 in
def uX11_mend_0 : List zEn := (0, .aload_n 0, 1, 0, 0, [], 0) :: (1, .iload_n 1, 1, 1, 0, [], 0) :: (2, .invokevirtual 121, 3, 44, 2, [(0, 1), (0, 0), (0, 0), (0, 11), (0, 565)], 0) :: (5, .ifCond .eq 12, 3, 9, 0, [], 0) :: (8, .iload_n 2, 1, 2, 0, [], 0) :: (9, .iconst 0, 1, 0, 0, [], 0) :: (10, .iconst 3, 1, 0, 0, [], 3) :: (11, .invokestatic 68, 3, 12, 3, [(0, 1), (0, 0), (0, 0), (0, 495)], 0) :: (14, .ifCond .ne 6, 3, 11, 0, [], 0) :: uX11_mend_9
set_option maxRecDepth 100000 in
theorem jX11_mend_9 : zj pX11_mend 9 = uX11_mend_9 := rfl
set_option maxRecDepth 100000 in
theorem jX11_mend_11 : zj pX11_mend 11 = uX11_mend_11 := rfl
set_option maxRecDepth 100000 in
def uX12_takesShelf_31 : List zEn := (51, .return_, 1, 0, 0, [], 0) :: []
set_option maxRecDepth 100000 in
def uX12_takesShelf_29 : List zEn := (45, .iinc 2 1, 3, 2, 0, [], 1) :: (48, .goto (-46), 3, 2, 0, [], 0) :: uX12_takesShelf_31
set_option maxRecDepth 100000 in
def uX12_takesShelf_19 : List zEn := (30, .aload_n 0, 1, 0, 0, [], 0) :: (31, .getfield 43, 3, 12, 12, [(0, 2), (0, 1262)], 0) :: (34, .iload_n 2, 1, 2, 0, [], 0) :: (35, .aload_n 0, 1, 0, 0, [], 0) :: (36, .getfield 7, 3, 12, 0, [(0, 2), (0, 1250)], 0) :: (39, .bipush 60, 2, 0, 0, [], 60) :: (41, .iload_n 2, 1, 2, 0, [], 0) :: (42, .iadd, 1, 0, 0, [], 0) :: (43, .iaload, 1, 0, 0, [], 0) :: (44, .iastore, 1, 0, 0, [], 0) :: uX12_takesShelf_29
set_option maxRecDepth 100000 in
def uX12_takesShelf_3 : List zEn := (2, .iload_n 2, 1, 2, 0, [], 0) :: (3, .bipush 48, 2, 0, 0, [], 48) :: (5, .if_icmp .ge 46, 3, 31, 0, [], 0) :: (8, .iload_n 1, 1, 1, 0, [], 0) :: (9, .ifCond .eq 21, 3, 19, 0, [], 0) :: (12, .aload_n 0, 1, 0, 0, [], 0) :: (13, .getfield 7, 3, 12, 0, [(0, 2), (0, 1250)], 0) :: (16, .bipush 60, 2, 0, 0, [], 60) :: (18, .iload_n 2, 1, 2, 0, [], 0) :: (19, .iadd, 1, 0, 0, [], 0) :: (20, .aload_n 0, 1, 0, 0, [], 0) :: (21, .getfield 43, 3, 12, 12, [(0, 2), (0, 1262)], 0) :: (24, .iload_n 2, 1, 2, 0, [], 0) :: (25, .iaload, 1, 0, 0, [], 0) :: (26, .iastore, 1, 0, 0, [], 0) :: (27, .goto 18, 3, 29, 0, [], 0) :: uX12_takesShelf_19
set_option maxRecDepth 100000 in
def tX12_takesShelf_3 : List zEn := uX12_takesShelf_3
set_option maxRecDepth 100000 in
def uX12_takesShelf_2 : List zEn := (2, .nop, 0, 0, 0, [], 0) :: tX12_takesShelf_3
set_option maxRecDepth 100000 in
def uX12_takesShelf_0 : List zEn := (0, .iconst 0, 1, 0, 0, [], 0) :: (1, .istore_n 2, 1, 2, 0, [], 0) :: uX12_takesShelf_2
set_option maxRecDepth 100000 in
theorem jX12_takesShelf_2 : zj pX12_takesShelf 2 = uX12_takesShelf_2 := rfl
set_option maxRecDepth 100000 in
theorem jX12_takesShelf_19 : zj pX12_takesShelf 19 = uX12_takesShelf_19 := rfl
set_option maxRecDepth 100000 in
theorem jX12_takesShelf_29 : zj pX12_takesShelf 29 = uX12_takesShelf_29 := rfl
set_option maxRecDepth 100000 in
theorem jX12_takesShelf_31 : zj pX12_takesShelf 31 = uX12_takesShelf_31 := rfl
set_option maxRecDepth 100000 in
def uX12_isAt_13 : List zEn := (21, .ireturn, 1, 1, 0, [], 0) :: []
set_option maxRecDepth 100000 in
def uX12_isAt_12 : List zEn := (20, .iconst 0, 1, 0, 0, [], 0) :: uX12_isAt_13
set_option maxRecDepth 100000 in
def uX12_isAt_0 : List zEn := (0, .aload_n 0, 1, 0, 0, [], 0) :: (1, .getfield 7, 3, 12, 0, [(0, 2), (0, 1250)], 0) :: (4, .aload_n 0, 1, 0, 0, [], 0) :: (5, .iload_n 1, 1, 1, 0, [], 0) :: (6, .invokevirtual 120, 3, 42, 2, [(0, 1), (0, 0), (0, 0), (0, 12), (0, 1422)], 0) :: (9, .iconst 5, 1, 0, 0, [], 5) :: (10, .iadd, 1, 0, 0, [], 0) :: (11, .iaload, 1, 0, 0, [], 0) :: (12, .iload_n 2, 1, 2, 0, [], 0) :: (13, .if_icmp .ne 7, 3, 12, 0, [], 0) :: (16, .iconst 1, 1, 0, 0, [], 1) :: (17, .goto 4, 3, 13, 0, [], 0) :: uX12_isAt_12
set_option maxRecDepth 100000 in
theorem jX12_isAt_12 : zj pX12_isAt 12 = uX12_isAt_12 := rfl
set_option maxRecDepth 100000 in
theorem jX12_isAt_13 : zj pX12_isAt 13 = uX12_isAt_13 := rfl
set_option maxRecDepth 100000 in
def uX12_takesParts_59 : List zEn := (86, .iconst 1, 1, 0, 0, [], 1) :: (87, .ireturn, 1, 1, 0, [], 0) :: []
set_option maxRecDepth 100000 in
def uX12_takesParts_38 : List zEn := (56, .aload_n 0, 1, 0, 0, [], 0) :: (57, .getfield 43, 3, 12, 12, [(0, 2), (0, 1262)], 0) :: (60, .iload 4, 2, 4, 0, [], 0) :: (62, .dup2, 1, 0, 0, [], 0) :: (63, .iaload, 1, 0, 0, [], 0) :: (64, .iconst 1, 1, 0, 0, [], 1) :: (65, .aload_n 0, 1, 0, 0, [], 0) :: (66, .getfield 7, 3, 12, 0, [(0, 2), (0, 1250)], 0) :: (69, .iload_n 2, 1, 2, 0, [], 0) :: (70, .iconst 3, 1, 0, 0, [], 3) :: (71, .iadd, 1, 0, 0, [], 0) :: (72, .iaload, 1, 0, 0, [], 0) :: (73, .iload_n 3, 1, 3, 0, [], 0) :: (74, .ishr, 1, 0, 0, [], 0) :: (75, .iconst 1, 1, 0, 0, [], 1) :: (76, .iand, 1, 0, 0, [], 0) :: (77, .isub, 1, 0, 0, [], 0) :: (78, .isub, 1, 0, 0, [], 0) :: (79, .iastore, 1, 0, 0, [], 0) :: (80, .iinc 3 1, 3, 3, 0, [], 1) :: (83, .goto (-75), 3, 6, 0, [], 0) :: uX12_takesParts_59
set_option maxRecDepth 100000 in
def uX12_takesParts_7 : List zEn := (8, .iload_n 3, 1, 3, 0, [], 0) :: (9, .bipush 8, 2, 0, 0, [], 8) :: (11, .if_icmp .ge 75, 3, 59, 0, [], 0) :: (14, .aload_n 0, 1, 0, 0, [], 0) :: (15, .aload_n 0, 1, 0, 0, [], 0) :: (16, .getfield 7, 3, 12, 0, [(0, 2), (0, 1250)], 0) :: (19, .iload_n 2, 1, 2, 0, [], 0) :: (20, .iconst 1, 1, 0, 0, [], 1) :: (21, .iadd, 1, 0, 0, [], 0) :: (22, .iaload, 1, 0, 0, [], 0) :: (23, .iload_n 3, 1, 3, 0, [], 0) :: (24, .invokevirtual 114, 3, 33, 3, [(0, 1), (0, 0), (0, 0), (0, 12), (0, 1409)], 0) :: (27, .istore 4, 2, 4, 0, [], 0) :: (29, .aload_n 0, 1, 0, 0, [], 0) :: (30, .getfield 7, 3, 12, 0, [(0, 2), (0, 1250)], 0) :: (33, .iload_n 2, 1, 2, 0, [], 0) :: (34, .iconst 3, 1, 0, 0, [], 3) :: (35, .iadd, 1, 0, 0, [], 0) :: (36, .iaload, 1, 0, 0, [], 0) :: (37, .iload_n 3, 1, 3, 0, [], 0) :: (38, .ishr, 1, 0, 0, [], 0) :: (39, .iconst 1, 1, 0, 0, [], 1) :: (40, .iand, 1, 0, 0, [], 0) :: (41, .ifCond .ne 15, 3, 38, 0, [], 0) :: (44, .aload_n 0, 1, 0, 0, [], 0) :: (45, .getfield 43, 3, 12, 12, [(0, 2), (0, 1262)], 0) :: (48, .iload 4, 2, 4, 0, [], 0) :: (50, .iaload, 1, 0, 0, [], 0) :: (51, .ifCond .ne 5, 3, 38, 0, [], 0) :: (54, .iconst 0, 1, 0, 0, [], 0) :: (55, .ireturn, 1, 1, 0, [], 0) :: uX12_takesParts_38
set_option maxRecDepth 100000 in
def tX12_takesParts_7 : List zEn := uX12_takesParts_7
set_option maxRecDepth 100000 in
def uX12_takesParts_6 : List zEn := (8, .nop, 0, 0, 0, [], 0) :: tX12_takesParts_7
set_option maxRecDepth 100000 in
def uX12_takesParts_0 : List zEn := (0, .aload_n 0, 1, 0, 0, [], 0) :: (1, .iload_n 1, 1, 1, 0, [], 0) :: (2, .invokevirtual 120, 3, 42, 2, [(0, 1), (0, 0), (0, 0), (0, 12), (0, 1422)], 0) :: (5, .istore_n 2, 1, 2, 0, [], 0) :: (6, .iconst 0, 1, 0, 0, [], 0) :: (7, .istore_n 3, 1, 3, 0, [], 0) :: uX12_takesParts_6
set_option maxRecDepth 100000 in
theorem jX12_takesParts_6 : zj pX12_takesParts 6 = uX12_takesParts_6 := rfl
set_option maxRecDepth 100000 in
theorem jX12_takesParts_38 : zj pX12_takesParts 38 = uX12_takesParts_38 := rfl
set_option maxRecDepth 100000 in
theorem jX12_takesParts_59 : zj pX12_takesParts 59 = uX12_takesParts_59 := rfl
set_option maxRecDepth 100000 in
def uX12_mend_36 : List zEn := (64, .aload_n 0, 1, 0, 0, [], 0) :: (65, .iconst 1, 1, 0, 0, [], 1) :: (66, .invokevirtual 170, 3, 90, 2, [(0, 0), (0, 0), (0, 0), (0, 12), (0, 1508)], 0) :: (69, .sipush 255, 3, 0, 0, [], 255) :: (72, .aload_n 0, 1, 0, 0, [], 0) :: (73, .getfield 7, 3, 12, 0, [(0, 2), (0, 1250)], 0) :: (76, .iload_n 3, 1, 3, 0, [], 0) :: (77, .iconst 3, 1, 0, 0, [], 3) :: (78, .iadd, 1, 0, 0, [], 0) :: (79, .iaload, 1, 0, 0, [], 0) :: (80, .isub, 1, 0, 0, [], 0) :: (81, .istore 4, 2, 4, 0, [], 0) :: (83, .aload_n 0, 1, 0, 0, [], 0) :: (84, .getfield 7, 3, 12, 0, [(0, 2), (0, 1250)], 0) :: (87, .bipush 6, 2, 0, 0, [], 6) :: (89, .dup2, 1, 0, 0, [], 0) :: (90, .iaload, 1, 0, 0, [], 0) :: (91, .aload_n 0, 1, 0, 0, [], 0) :: (92, .iload_n 1, 1, 1, 0, [], 0) :: (93, .invokevirtual 149, 3, 65, 2, [(0, 1), (0, 0), (0, 0), (0, 12), (0, 1435)], 0) :: (96, .isub, 1, 0, 0, [], 0) :: (97, .iastore, 1, 0, 0, [], 0) :: (98, .aload_n 0, 1, 0, 0, [], 0) :: (99, .getfield 7, 3, 12, 0, [(0, 2), (0, 1250)], 0) :: (102, .iload_n 3, 1, 3, 0, [], 0) :: (103, .iconst 3, 1, 0, 0, [], 3) :: (104, .iadd, 1, 0, 0, [], 0) :: (105, .sipush 255, 3, 0, 0, [], 255) :: (108, .iastore, 1, 0, 0, [], 0) :: (109, .aload_n 0, 1, 0, 0, [], 0) :: (110, .getfield 7, 3, 12, 0, [(0, 2), (0, 1250)], 0) :: (113, .iload_n 3, 1, 3, 0, [], 0) :: (114, .iconst 4, 1, 0, 0, [], 4) :: (115, .iadd, 1, 0, 0, [], 0) :: (116, .dup2, 1, 0, 0, [], 0) :: (117, .iaload, 1, 0, 0, [], 0) :: (118, .iload 4, 2, 4, 0, [], 0) :: (120, .ior, 1, 0, 0, [], 0) :: (121, .iastore, 1, 0, 0, [], 0) :: (122, .aload_n 0, 1, 0, 0, [], 0) :: (123, .getfield 7, 3, 12, 0, [(0, 2), (0, 1250)], 0) :: (126, .iload_n 3, 1, 3, 0, [], 0) :: (127, .iconst 5, 1, 0, 0, [], 5) :: (128, .iadd, 1, 0, 0, [], 0) :: (129, .iconst 1, 1, 0, 0, [], 1) :: (130, .iastore, 1, 0, 0, [], 0) :: (131, .aload_n 0, 1, 0, 0, [], 0) :: (132, .getfield 7, 3, 12, 0, [(0, 2), (0, 1250)], 0) :: (135, .iload_n 3, 1, 3, 0, [], 0) :: (136, .bipush 9, 2, 0, 0, [], 9) :: (138, .iadd, 1, 0, 0, [], 0) :: (139, .iload_n 2, 1, 2, 0, [], 0) :: (140, .iastore, 1, 0, 0, [], 0) :: (141, .iload 4, 2, 4, 0, [], 0) :: (143, .invokestatic 117, 3, 63, 1, [(0, 1), (0, 0), (0, 0), (0, 1442)], 0) :: (146, .ireturn, 1, 0, 0, [], 0) :: []
set_option maxRecDepth 100000 in
def uX12_mend_34 : List zEn := (61, .ldc 180, 2, 0, 0, [(0, 1520)], (-1000000002)) :: (63, .ireturn, 1, 0, 0, [], 0) :: uX12_mend_36
set_option maxRecDepth 100000 in
def uX12_mend_12 : List zEn := (23, .aload_n 0, 1, 0, 0, [], 0) :: (24, .iload_n 1, 1, 1, 0, [], 0) :: (25, .invokevirtual 120, 3, 42, 2, [(0, 1), (0, 0), (0, 0), (0, 12), (0, 1422)], 0) :: (28, .istore_n 3, 1, 3, 0, [], 0) :: (29, .aload_n 0, 1, 0, 0, [], 0) :: (30, .iconst 0, 1, 0, 0, [], 0) :: (31, .invokevirtual 170, 3, 90, 2, [(0, 0), (0, 0), (0, 0), (0, 12), (0, 1508)], 0) :: (34, .aload_n 0, 1, 0, 0, [], 0) :: (35, .iload_n 1, 1, 1, 0, [], 0) :: (36, .iconst 0, 1, 0, 0, [], 0) :: (37, .invokevirtual 174, 3, 91, 3, [(0, 1), (0, 0), (0, 0), (0, 12), (0, 1512)], 0) :: (40, .ifCond .eq 21, 3, 34, 0, [], 0) :: (43, .aload_n 0, 1, 0, 0, [], 0) :: (44, .getfield 7, 3, 12, 0, [(0, 2), (0, 1250)], 0) :: (47, .iload_n 3, 1, 3, 0, [], 0) :: (48, .iaload, 1, 0, 0, [], 0) :: (49, .iconst 5, 1, 0, 0, [], 5) :: (50, .if_icmp .eq 11, 3, 34, 0, [], 0) :: (53, .aload_n 0, 1, 0, 0, [], 0) :: (54, .iload_n 1, 1, 1, 0, [], 0) :: (55, .invokevirtual 177, 3, 92, 2, [(0, 1), (0, 0), (0, 0), (0, 12), (0, 1516)], 0) :: (58, .ifCond .ne 6, 3, 36, 0, [], 0) :: uX12_mend_34
set_option maxRecDepth 100000 in
def uX12_mend_10 : List zEn := (20, .ldc 87, 2, 0, 0, [(0, 1372)], (-1000000001)) :: (22, .ireturn, 1, 0, 0, [], 0) :: uX12_mend_12
set_option maxRecDepth 100000 in
def uX12_mend_0 : List zEn := (0, .aload_n 0, 1, 0, 0, [], 0) :: (1, .iload_n 1, 1, 1, 0, [], 0) :: (2, .invokevirtual 144, 3, 62, 2, [(0, 1), (0, 0), (0, 0), (0, 12), (0, 1430)], 0) :: (5, .ifCond .eq 15, 3, 10, 0, [], 0) :: (8, .iload_n 2, 1, 2, 0, [], 0) :: (9, .i2l, 1, 0, 0, [], 0) :: (10, .lconst 0, 1, 0, 0, [], 0) :: (11, .ldc2_w 168, 3, 0, 0, [(0, 1507)], 3) :: (14, .invokestatic 77, 3, 15, 3, [(0, 1), (0, 0), (0, 0), (0, 1368)], 0) :: (17, .ifCond .ne 6, 3, 12, 0, [], 0) :: uX12_mend_10
set_option maxRecDepth 100000 in
theorem jX12_mend_10 : zj pX12_mend 10 = uX12_mend_10 := rfl
set_option maxRecDepth 100000 in
theorem jX12_mend_12 : zj pX12_mend 12 = uX12_mend_12 := rfl
set_option maxRecDepth 100000 in
theorem jX12_mend_34 : zj pX12_mend 34 = uX12_mend_34 := rfl
set_option maxRecDepth 100000 in
theorem jX12_mend_36 : zj pX12_mend 36 = uX12_mend_36 := rfl
set_option maxRecDepth 100000 in
def uJ9_min_7cf53_6 : List zEn := (10, .ireturn, 1, 0, 0, [], 0) :: []
set_option maxRecDepth 100000 in
def uJ9_min_7cf53_5 : List zEn := (9, .iload_n 1, 1, 1, 0, [], 0) :: uJ9_min_7cf53_6
set_option maxRecDepth 100000 in
def uJ9_min_7cf53_0 : List zEn := (0, .iload_n 0, 1, 0, 0, [], 0) :: (1, .iload_n 1, 1, 1, 0, [], 0) :: (2, .if_icmp .gt 7, 3, 5, 0, [], 0) :: (5, .iload_n 0, 1, 0, 0, [], 0) :: (6, .goto 4, 3, 6, 0, [], 0) :: uJ9_min_7cf53_5
set_option maxRecDepth 100000 in
theorem jJ9_min_7cf53_5 : zj pJ9_min_7cf53 5 = uJ9_min_7cf53_5 := rfl
set_option maxRecDepth 100000 in
theorem jJ9_min_7cf53_6 : zj pJ9_min_7cf53 6 = uJ9_min_7cf53_6 := rfl
set_option maxRecDepth 100000 in
def uX6_scrapOf_0 : List zEn := (0, .iconst 0, 1, 0, 0, [], 0) :: (1, .bipush 99, 2, 0, 0, [], 99) :: (3, .aload_n 0, 1, 0, 0, [], 0) :: (4, .getfield 47, 3, 6, 7, [(0, 2), (0, 288)], 0) :: (7, .iconst 1, 1, 0, 0, [], 1) :: (8, .aload_n 1, 1, 1, 0, [], 0) :: (9, .aload_n 0, 1, 0, 0, [], 0) :: (10, .getfield 58, 3, 6, 9, [(0, 0), (0, 292)], 0) :: (13, .iconst 3, 1, 0, 0, [], 3) :: (14, .invokevirtual 136, 3, 58, 5, [(0, 1), (0, 0), (0, 0), (0, 1), (0, 614)], 0) :: (17, .invokestatic 140, 3, 94, 2, [(0, 1), (0, 0), (0, 0), (0, 693)], 0) :: (20, .invokestatic 130, 3, 19, 2, [(0, 1), (0, 0), (0, 0), (0, 608)], 0) :: (23, .ireturn, 1, 0, 0, [], 0) :: []
set_option maxRecDepth 100000 in
def uX8_addUpTo_0 : List zEn := (0, .aload_n 0, 1, 0, 0, [], 0) :: (1, .iload_n 1, 1, 1, 0, [], 0) :: (2, .iload_n 2, 1, 2, 0, [], 0) :: (3, .invokevirtual 23, 3, 35, 3, [(0, 1), (0, 0), (0, 0), (0, 8), (0, 677)], 0) :: (6, .istore 4, 2, 4, 0, [], 0) :: (8, .iload_n 3, 1, 3, 0, [], 0) :: (9, .bipush 99, 2, 0, 0, [], 99) :: (11, .iload 4, 2, 4, 0, [], 0) :: (13, .isub, 1, 0, 0, [], 0) :: (14, .invokestatic 26, 3, 94, 2, [(0, 1), (0, 0), (0, 0), (0, 704)], 0) :: (17, .istore 5, 2, 5, 0, [], 0) :: (19, .aload_n 0, 1, 0, 0, [], 0) :: (20, .iload_n 1, 1, 1, 0, [], 0) :: (21, .iload_n 2, 1, 2, 0, [], 0) :: (22, .iload 4, 2, 4, 0, [], 0) :: (24, .iload 5, 2, 5, 0, [], 0) :: (26, .iadd, 1, 0, 0, [], 0) :: (27, .invokevirtual 31, 3, 30, 4, [(0, 1), (0, 0), (0, 0), (0, 8), (0, 678)], 0) :: (30, .pop, 1, 0, 0, [], 0) :: (31, .iload 5, 2, 5, 0, [], 0) :: (33, .ireturn, 1, 0, 0, [], 0) :: []
set_option maxRecDepth 100000 in
def uX8_addEach_25 : List zEn := (39, .iload_n 3, 1, 3, 0, [], 0) :: (40, .ireturn, 1, 0, 0, [], 0) :: []
set_option maxRecDepth 100000 in
def uX8_addEach_23 : List zEn := (33, .iinc 4 1, 3, 4, 0, [], 1) :: (36, .goto (-31), 3, 4, 0, [], 0) :: uX8_addEach_25
set_option maxRecDepth 100000 in
def uX8_addEach_5 : List zEn := (5, .iload 4, 2, 4, 0, [], 0) :: (7, .bipush 8, 2, 0, 0, [], 8) :: (9, .if_icmp .ge 30, 3, 25, 0, [], 0) :: (12, .iload_n 2, 1, 2, 0, [], 0) :: (13, .iload 4, 2, 4, 0, [], 0) :: (15, .ishr, 1, 0, 0, [], 0) :: (16, .iconst 1, 1, 0, 0, [], 1) :: (17, .iand, 1, 0, 0, [], 0) :: (18, .iconst 1, 1, 0, 0, [], 1) :: (19, .if_icmp .ne 14, 3, 23, 0, [], 0) :: (22, .iload_n 3, 1, 3, 0, [], 0) :: (23, .aload_n 0, 1, 0, 0, [], 0) :: (24, .iload_n 1, 1, 1, 0, [], 0) :: (25, .iload 4, 2, 4, 0, [], 0) :: (27, .iconst 1, 1, 0, 0, [], 1) :: (28, .invokevirtual 35, 3, 96, 4, [(0, 1), (0, 0), (0, 0), (0, 8), (0, 700)], 0) :: (31, .iadd, 1, 0, 0, [], 0) :: (32, .istore_n 3, 1, 3, 0, [], 0) :: uX8_addEach_23
set_option maxRecDepth 100000 in
def tX8_addEach_5 : List zEn := uX8_addEach_5
set_option maxRecDepth 100000 in
def uX8_addEach_4 : List zEn := (5, .nop, 0, 0, 0, [], 0) :: tX8_addEach_5
set_option maxRecDepth 100000 in
def uX8_addEach_0 : List zEn := (0, .iconst 0, 1, 0, 0, [], 0) :: (1, .istore_n 3, 1, 3, 0, [], 0) :: (2, .iconst 0, 1, 0, 0, [], 0) :: (3, .istore 4, 2, 4, 0, [], 0) :: uX8_addEach_4
set_option maxRecDepth 100000 in
theorem jX8_addEach_4 : zj pX8_addEach 4 = uX8_addEach_4 := rfl
set_option maxRecDepth 100000 in
theorem jX8_addEach_23 : zj pX8_addEach 23 = uX8_addEach_23 := rfl
set_option maxRecDepth 100000 in
theorem jX8_addEach_25 : zj pX8_addEach 25 = uX8_addEach_25 := rfl
set_option maxRecDepth 100000 in
def uX6_stripDown_5 : List zEn := (10, .aload_n 0, 1, 0, 0, [], 0) :: (11, .dup, 1, 0, 0, [], 0) :: (12, .getfield 61, 3, 6, 10, [(0, 0), (0, 294)], 0) :: (15, .aload_n 0, 1, 0, 0, [], 0) :: (16, .aload_n 1, 1, 1, 0, [], 0) :: (17, .invokevirtual 167, 3, 95, 2, [(0, 1), (0, 0), (0, 0), (0, 6), (0, 689)], 0) :: (20, .iadd, 1, 0, 0, [], 0) :: (21, .putfield 61, 3, 6, 10, [(0, 0), (0, 294)], 0) :: (24, .aload_n 0, 1, 0, 0, [], 0) :: (25, .getfield 24, 3, 6, 2, [(0, 2), (0, 274)], 0) :: (28, .aload_n 1, 1, 1, 0, [], 0) :: (29, .getfield 111, 3, 3, 1, [(0, 0), (0, 218)], 0) :: (32, .aload_n 1, 1, 1, 0, [], 0) :: (33, .getfield 164, 3, 3, 3, [(0, 0), (0, 224)], 0) :: (36, .invokevirtual 171, 3, 97, 3, [(0, 1), (0, 0), (0, 0), (0, 8), (0, 696)], 0) :: (39, .istore_n 2, 1, 2, 0, [], 0) :: (40, .aload_n 1, 1, 1, 0, [], 0) :: (41, .iconst 0, 1, 0, 0, [], 0) :: (42, .putfield 164, 3, 3, 3, [(0, 0), (0, 224)], 0) :: (45, .aload_n 1, 1, 1, 0, [], 0) :: (46, .iconst 2, 1, 0, 0, [], 2) :: (47, .putfield 150, 3, 3, 5, [(0, 0), (0, 231)], 0) :: (50, .iload_n 2, 1, 2, 0, [], 0) :: (51, .ireturn, 1, 0, 0, [], 0) :: []
set_option maxRecDepth 100000 in
def uX6_stripDown_0 : List zEn := (0, .aload_n 1, 1, 1, 0, [], 0) :: (1, .getfield 150, 3, 3, 5, [(0, 0), (0, 231)], 0) :: (4, .ifCond .eq 6, 3, 5, 0, [], 0) :: (7, .ldc 160, 2, 0, 0, [(0, 679)], (-1000000002)) :: (9, .ireturn, 1, 0, 0, [], 0) :: uX6_stripDown_5
set_option maxRecDepth 100000 in
theorem jX6_stripDown_5 : zj pX6_stripDown 5 = uX6_stripDown_5 := rfl
set_option maxRecDepth 100000 in
def uX11_strip_14 : List zEn := (29, .ireturn, 1, 0, 0, [], 0) :: []
set_option maxRecDepth 100000 in
def uX11_strip_13 : List zEn := (27, .ldc 75, 2, 0, 0, [(0, 498)], (-1000000001)) :: uX11_strip_14
set_option maxRecDepth 100000 in
def uX11_strip_0 : List zEn := (0, .aload_n 0, 1, 0, 0, [], 0) :: (1, .iload_n 1, 1, 1, 0, [], 0) :: (2, .invokevirtual 121, 3, 44, 2, [(0, 1), (0, 0), (0, 0), (0, 11), (0, 565)], 0) :: (5, .ifCond .eq 22, 3, 13, 0, [], 0) :: (8, .aload_n 0, 1, 0, 0, [], 0) :: (9, .getfield 10, 3, 11, 0, [(0, 2), (0, 457)], 0) :: (12, .aload_n 0, 1, 0, 0, [], 0) :: (13, .getfield 10, 3, 11, 0, [(0, 2), (0, 457)], 0) :: (16, .getfield 124, 3, 6, 3, [(0, 2), (0, 279)], 0) :: (19, .iload_n 1, 1, 1, 0, [], 0) :: (20, .aaload, 1, 0, 0, [], 0) :: (21, .invokevirtual 174, 3, 98, 2, [(0, 1), (0, 0), (0, 0), (0, 6), (0, 685)], 0) :: (24, .goto 5, 3, 14, 0, [], 0) :: uX11_strip_13
set_option maxRecDepth 100000 in
theorem jX11_strip_13 : zj pX11_strip 13 = uX11_strip_13 := rfl
set_option maxRecDepth 100000 in
theorem jX11_strip_14 : zj pX11_strip 14 = uX11_strip_14 := rfl
set_option maxRecDepth 100000 in
def uX12_comesTo_16 : List zEn := (26, .istore_n 3, 1, 3, 0, [], 0) :: (27, .aload_n 0, 1, 0, 0, [], 0) :: (28, .getfield 43, 3, 12, 12, [(0, 2), (0, 1262)], 0) :: (31, .iload_n 1, 1, 1, 0, [], 0) :: (32, .dup2, 1, 0, 0, [], 0) :: (33, .iaload, 1, 0, 0, [], 0) :: (34, .iload_n 3, 1, 3, 0, [], 0) :: (35, .iadd, 1, 0, 0, [], 0) :: (36, .iastore, 1, 0, 0, [], 0) :: (37, .iload_n 3, 1, 3, 0, [], 0) :: (38, .ireturn, 1, 0, 0, [], 0) :: []
set_option maxRecDepth 100000 in
def uX12_comesTo_10 : List zEn := (17, .bipush 99, 2, 0, 0, [], 99) :: (19, .aload_n 0, 1, 0, 0, [], 0) :: (20, .getfield 43, 3, 12, 12, [(0, 2), (0, 1262)], 0) :: (23, .iload_n 1, 1, 1, 0, [], 0) :: (24, .iaload, 1, 0, 0, [], 0) :: (25, .isub, 1, 0, 0, [], 0) :: uX12_comesTo_16
set_option maxRecDepth 100000 in
def uX12_comesTo_0 : List zEn := (0, .iload_n 2, 1, 2, 0, [], 0) :: (1, .bipush 99, 2, 0, 0, [], 99) :: (3, .aload_n 0, 1, 0, 0, [], 0) :: (4, .getfield 43, 3, 12, 12, [(0, 2), (0, 1262)], 0) :: (7, .iload_n 1, 1, 1, 0, [], 0) :: (8, .iaload, 1, 0, 0, [], 0) :: (9, .isub, 1, 0, 0, [], 0) :: (10, .if_icmp .ge 7, 3, 10, 0, [], 0) :: (13, .iload_n 2, 1, 2, 0, [], 0) :: (14, .goto 12, 3, 16, 0, [], 0) :: uX12_comesTo_10
set_option maxRecDepth 100000 in
theorem jX12_comesTo_10 : zj pX12_comesTo 10 = uX12_comesTo_10 := rfl
set_option maxRecDepth 100000 in
theorem jX12_comesTo_16 : zj pX12_comesTo 16 = uX12_comesTo_16 := rfl
set_option maxRecDepth 100000 in
def uX12_givesParts_38 : List zEn := (56, .iload_n 2, 1, 2, 0, [], 0) :: (57, .ireturn, 1, 0, 0, [], 0) :: []
set_option maxRecDepth 100000 in
def uX12_givesParts_5 : List zEn := (4, .iload_n 3, 1, 3, 0, [], 0) :: (5, .bipush 8, 2, 0, 0, [], 8) :: (7, .if_icmp .ge 49, 3, 38, 0, [], 0) :: (10, .iload_n 2, 1, 2, 0, [], 0) :: (11, .aload_n 0, 1, 0, 0, [], 0) :: (12, .aload_n 0, 1, 0, 0, [], 0) :: (13, .aload_n 0, 1, 0, 0, [], 0) :: (14, .getfield 7, 3, 12, 0, [(0, 2), (0, 1250)], 0) :: (17, .aload_n 0, 1, 0, 0, [], 0) :: (18, .iload_n 1, 1, 1, 0, [], 0) :: (19, .invokevirtual 120, 3, 42, 2, [(0, 1), (0, 0), (0, 0), (0, 12), (0, 1422)], 0) :: (22, .iconst 1, 1, 0, 0, [], 1) :: (23, .iadd, 1, 0, 0, [], 0) :: (24, .iaload, 1, 0, 0, [], 0) :: (25, .iload_n 3, 1, 3, 0, [], 0) :: (26, .invokevirtual 114, 3, 33, 3, [(0, 1), (0, 0), (0, 0), (0, 12), (0, 1409)], 0) :: (29, .aload_n 0, 1, 0, 0, [], 0) :: (30, .getfield 7, 3, 12, 0, [(0, 2), (0, 1250)], 0) :: (33, .aload_n 0, 1, 0, 0, [], 0) :: (34, .iload_n 1, 1, 1, 0, [], 0) :: (35, .invokevirtual 120, 3, 42, 2, [(0, 1), (0, 0), (0, 0), (0, 12), (0, 1422)], 0) :: (38, .iconst 3, 1, 0, 0, [], 3) :: (39, .iadd, 1, 0, 0, [], 0) :: (40, .iaload, 1, 0, 0, [], 0) :: (41, .iload_n 3, 1, 3, 0, [], 0) :: (42, .ishr, 1, 0, 0, [], 0) :: (43, .iconst 1, 1, 0, 0, [], 1) :: (44, .iand, 1, 0, 0, [], 0) :: (45, .invokevirtual 165, 3, 100, 3, [(0, 1), (0, 0), (0, 0), (0, 12), (0, 1529)], 0) :: (48, .iadd, 1, 0, 0, [], 0) :: (49, .istore_n 2, 1, 2, 0, [], 0) :: (50, .iinc 3 1, 3, 3, 0, [], 1) :: (53, .goto (-49), 3, 4, 0, [], 0) :: uX12_givesParts_38
set_option maxRecDepth 100000 in
def tX12_givesParts_5 : List zEn := uX12_givesParts_5
set_option maxRecDepth 100000 in
def uX12_givesParts_4 : List zEn := (4, .nop, 0, 0, 0, [], 0) :: tX12_givesParts_5
set_option maxRecDepth 100000 in
def uX12_givesParts_0 : List zEn := (0, .iconst 0, 1, 0, 0, [], 0) :: (1, .istore_n 2, 1, 2, 0, [], 0) :: (2, .iconst 0, 1, 0, 0, [], 0) :: (3, .istore_n 3, 1, 3, 0, [], 0) :: uX12_givesParts_4
set_option maxRecDepth 100000 in
theorem jX12_givesParts_4 : zj pX12_givesParts 4 = uX12_givesParts_4 := rfl
set_option maxRecDepth 100000 in
theorem jX12_givesParts_38 : zj pX12_givesParts 38 = uX12_givesParts_38 := rfl
set_option maxRecDepth 100000 in
def uX12_scrap_53 : List zEn := (93, .ireturn, 1, 0, 0, [], 0) :: []
set_option maxRecDepth 100000 in
def uX12_scrap_52 : List zEn := (92, .iload_n 3, 1, 3, 0, [], 0) :: uX12_scrap_53
set_option maxRecDepth 100000 in
def uX12_scrap_47 : List zEn := (81, .iload_n 3, 1, 3, 0, [], 0) :: (82, .bipush 99, 2, 0, 0, [], 99) :: (84, .if_icmp .le 8, 3, 52, 0, [], 0) :: (87, .bipush 99, 2, 0, 0, [], 99) :: (89, .goto 4, 3, 53, 0, [], 0) :: uX12_scrap_52
set_option maxRecDepth 100000 in
def uX12_scrap_42 : List zEn := (72, .istore_n 3, 1, 3, 0, [], 0) :: (73, .iload_n 3, 1, 3, 0, [], 0) :: (74, .ifCond .ge 7, 3, 47, 0, [], 0) :: (77, .iconst 0, 1, 0, 0, [], 0) :: (78, .goto 15, 3, 53, 0, [], 0) :: uX12_scrap_47
set_option maxRecDepth 100000 in
def uX12_scrap_39 : List zEn := (67, .aload_n 0, 1, 0, 0, [], 0) :: (68, .iload_n 2, 1, 2, 0, [], 0) :: (69, .invokevirtual 139, 3, 74, 2, [(0, 1), (0, 0), (0, 0), (0, 12), (0, 1476)], 0) :: uX12_scrap_42
set_option maxRecDepth 100000 in
def uX12_scrap_0 : List zEn := (0, .aload_n 0, 1, 0, 0, [], 0) :: (1, .iconst 1, 1, 0, 0, [], 1) :: (2, .invokevirtual 136, 3, 72, 2, [(0, 1), (0, 0), (0, 0), (0, 12), (0, 1468)], 0) :: (5, .istore_n 2, 1, 2, 0, [], 0) :: (6, .aload_n 0, 1, 0, 0, [], 0) :: (7, .getfield 58, 3, 12, 30, [(0, 2), (0, 1280)], 0) :: (10, .bipush 107, 2, 0, 0, [], 107) :: (12, .aload_n 0, 1, 0, 0, [], 0) :: (13, .getfield 7, 3, 12, 0, [(0, 2), (0, 1250)], 0) :: (16, .aload_n 0, 1, 0, 0, [], 0) :: (17, .iload_n 1, 1, 1, 0, [], 0) :: (18, .invokevirtual 120, 3, 42, 2, [(0, 1), (0, 0), (0, 0), (0, 12), (0, 1422)], 0) :: (21, .iaload, 1, 0, 0, [], 0) :: (22, .iastore, 1, 0, 0, [], 0) :: (23, .aload_n 0, 1, 0, 0, [], 0) :: (24, .getfield 58, 3, 12, 30, [(0, 2), (0, 1280)], 0) :: (27, .bipush 103, 2, 0, 0, [], 103) :: (29, .aload_n 0, 1, 0, 0, [], 0) :: (30, .getfield 7, 3, 12, 0, [(0, 2), (0, 1250)], 0) :: (33, .aload_n 0, 1, 0, 0, [], 0) :: (34, .iload_n 1, 1, 1, 0, [], 0) :: (35, .invokevirtual 120, 3, 42, 2, [(0, 1), (0, 0), (0, 0), (0, 12), (0, 1422)], 0) :: (38, .iconst 3, 1, 0, 0, [], 3) :: (39, .iadd, 1, 0, 0, [], 0) :: (40, .iaload, 1, 0, 0, [], 0) :: (41, .invokestatic 117, 3, 63, 1, [(0, 1), (0, 0), (0, 0), (0, 1442)], 0) :: (44, .iastore, 1, 0, 0, [], 0) :: (45, .aload_n 0, 1, 0, 0, [], 0) :: (46, .getfield 58, 3, 12, 30, [(0, 2), (0, 1280)], 0) :: (49, .bipush 100, 2, 0, 0, [], 100) :: (51, .aload_n 0, 1, 0, 0, [], 0) :: (52, .getfield 7, 3, 12, 0, [(0, 2), (0, 1250)], 0) :: (55, .bipush 7, 2, 0, 0, [], 7) :: (57, .iaload, 1, 0, 0, [], 0) :: (58, .iastore, 1, 0, 0, [], 0) :: (59, .iload_n 2, 1, 2, 0, [], 0) :: (60, .ifCond .ge 7, 3, 39, 0, [], 0) :: (63, .iconst 3, 1, 0, 0, [], 3) :: (64, .goto 8, 3, 42, 0, [], 0) :: uX12_scrap_39
set_option maxRecDepth 100000 in
theorem jX12_scrap_39 : zj pX12_scrap 39 = uX12_scrap_39 := rfl
set_option maxRecDepth 100000 in
theorem jX12_scrap_42 : zj pX12_scrap 42 = uX12_scrap_42 := rfl
set_option maxRecDepth 100000 in
theorem jX12_scrap_47 : zj pX12_scrap 47 = uX12_scrap_47 := rfl
set_option maxRecDepth 100000 in
theorem jX12_scrap_52 : zj pX12_scrap 52 = uX12_scrap_52 := rfl
set_option maxRecDepth 100000 in
theorem jX12_scrap_53 : zj pX12_scrap 53 = uX12_scrap_53 := rfl
set_option maxRecDepth 100000 in
def uX12_strip_13 : List zEn := (23, .aload_n 0, 1, 0, 0, [], 0) :: (24, .iconst 0, 1, 0, 0, [], 0) :: (25, .invokevirtual 170, 3, 90, 2, [(0, 0), (0, 0), (0, 0), (0, 12), (0, 1508)], 0) :: (28, .aload_n 0, 1, 0, 0, [], 0) :: (29, .iload_n 1, 1, 1, 0, [], 0) :: (30, .invokevirtual 181, 3, 101, 2, [(0, 1), (0, 0), (0, 0), (0, 12), (0, 1525)], 0) :: (33, .istore_n 2, 1, 2, 0, [], 0) :: (34, .aload_n 0, 1, 0, 0, [], 0) :: (35, .iconst 1, 1, 0, 0, [], 1) :: (36, .invokevirtual 170, 3, 90, 2, [(0, 0), (0, 0), (0, 0), (0, 12), (0, 1508)], 0) :: (39, .aload_n 0, 1, 0, 0, [], 0) :: (40, .getfield 7, 3, 12, 0, [(0, 2), (0, 1250)], 0) :: (43, .bipush 6, 2, 0, 0, [], 6) :: (45, .dup2, 1, 0, 0, [], 0) :: (46, .iaload, 1, 0, 0, [], 0) :: (47, .aload_n 0, 1, 0, 0, [], 0) :: (48, .iload_n 1, 1, 1, 0, [], 0) :: (49, .invokevirtual 184, 3, 102, 2, [(0, 1), (0, 0), (0, 0), (0, 12), (0, 1533)], 0) :: (52, .iadd, 1, 0, 0, [], 0) :: (53, .iastore, 1, 0, 0, [], 0) :: (54, .aload_n 0, 1, 0, 0, [], 0) :: (55, .getfield 7, 3, 12, 0, [(0, 2), (0, 1250)], 0) :: (58, .aload_n 0, 1, 0, 0, [], 0) :: (59, .iload_n 1, 1, 1, 0, [], 0) :: (60, .invokevirtual 120, 3, 42, 2, [(0, 1), (0, 0), (0, 0), (0, 12), (0, 1422)], 0) :: (63, .iconst 3, 1, 0, 0, [], 3) :: (64, .iadd, 1, 0, 0, [], 0) :: (65, .iconst 0, 1, 0, 0, [], 0) :: (66, .iastore, 1, 0, 0, [], 0) :: (67, .aload_n 0, 1, 0, 0, [], 0) :: (68, .getfield 7, 3, 12, 0, [(0, 2), (0, 1250)], 0) :: (71, .aload_n 0, 1, 0, 0, [], 0) :: (72, .iload_n 1, 1, 1, 0, [], 0) :: (73, .invokevirtual 120, 3, 42, 2, [(0, 1), (0, 0), (0, 0), (0, 12), (0, 1422)], 0) :: (76, .iconst 5, 1, 0, 0, [], 5) :: (77, .iadd, 1, 0, 0, [], 0) :: (78, .iconst 2, 1, 0, 0, [], 2) :: (79, .iastore, 1, 0, 0, [], 0) :: (80, .iload_n 2, 1, 2, 0, [], 0) :: (81, .ireturn, 1, 0, 0, [], 0) :: []
set_option maxRecDepth 100000 in
def uX12_strip_6 : List zEn := (11, .aload_n 0, 1, 0, 0, [], 0) :: (12, .iload_n 1, 1, 1, 0, [], 0) :: (13, .iconst 0, 1, 0, 0, [], 0) :: (14, .invokevirtual 174, 3, 91, 3, [(0, 1), (0, 0), (0, 0), (0, 12), (0, 1512)], 0) :: (17, .ifCond .ne 6, 3, 13, 0, [], 0) :: (20, .ldc 180, 2, 0, 0, [(0, 1520)], (-1000000002)) :: (22, .ireturn, 1, 0, 0, [], 0) :: uX12_strip_13
set_option maxRecDepth 100000 in
def uX12_strip_0 : List zEn := (0, .aload_n 0, 1, 0, 0, [], 0) :: (1, .iload_n 1, 1, 1, 0, [], 0) :: (2, .invokevirtual 144, 3, 62, 2, [(0, 1), (0, 0), (0, 0), (0, 12), (0, 1430)], 0) :: (5, .ifCond .ne 6, 3, 6, 0, [], 0) :: (8, .ldc 87, 2, 0, 0, [(0, 1372)], (-1000000001)) :: (10, .ireturn, 1, 0, 0, [], 0) :: uX12_strip_6
set_option maxRecDepth 100000 in
theorem jX12_strip_6 : zj pX12_strip 6 = uX12_strip_6 := rfl
set_option maxRecDepth 100000 in
theorem jX12_strip_13 : zj pX12_strip 13 = uX12_strip_13 := rfl
set_option maxRecDepth 100000 in
def uX6_sellToday_21 : List zEn := (42, .aload_n 0, 1, 0, 0, [], 0) :: (43, .aload_n 1, 1, 1, 0, [], 0) :: (44, .invokevirtual 181, 3, 52, 2, [(0, 1), (0, 0), (0, 0), (0, 6), (0, 713)], 0) :: (47, .istore_n 2, 1, 2, 0, [], 0) :: (48, .aload_n 0, 1, 0, 0, [], 0) :: (49, .dup, 1, 0, 0, [], 0) :: (50, .getfield 61, 3, 6, 10, [(0, 0), (0, 294)], 0) :: (53, .iload_n 2, 1, 2, 0, [], 0) :: (54, .iadd, 1, 0, 0, [], 0) :: (55, .putfield 61, 3, 6, 10, [(0, 0), (0, 294)], 0) :: (58, .aload_n 1, 1, 1, 0, [], 0) :: (59, .iconst 3, 1, 0, 0, [], 3) :: (60, .putfield 150, 3, 3, 5, [(0, 0), (0, 231)], 0) :: (63, .iload_n 2, 1, 2, 0, [], 0) :: (64, .ireturn, 1, 0, 0, [], 0) :: []
set_option maxRecDepth 100000 in
def uX6_sellToday_19 : List zEn := (39, .ldc 160, 2, 0, 0, [(0, 679)], (-1000000002)) :: (41, .ireturn, 1, 0, 0, [], 0) :: uX6_sellToday_21
set_option maxRecDepth 100000 in
def uX6_sellToday_0 : List zEn := (0, .aload_n 1, 1, 1, 0, [], 0) :: (1, .getfield 150, 3, 3, 5, [(0, 0), (0, 231)], 0) :: (4, .iconst 1, 1, 0, 0, [], 1) :: (5, .if_icmp .ne 34, 3, 19, 0, [], 0) :: (8, .aload_n 1, 1, 1, 0, [], 0) :: (9, .getfield 174, 3, 3, 6, [(0, 1), (0, 234)], 0) :: (12, .ifCond .eq 27, 3, 19, 0, [], 0) :: (15, .aload_n 1, 1, 1, 0, [], 0) :: (16, .getfield 178, 3, 3, 7, [(0, 1), (0, 237)], 0) :: (19, .ifCond .ne 20, 3, 19, 0, [], 0) :: (22, .aload_n 0, 1, 0, 0, [], 0) :: (23, .getfield 47, 3, 6, 7, [(0, 2), (0, 288)], 0) :: (26, .iconst 0, 1, 0, 0, [], 0) :: (27, .aload_n 1, 1, 1, 0, [], 0) :: (28, .aload_n 0, 1, 0, 0, [], 0) :: (29, .getfield 58, 3, 6, 9, [(0, 0), (0, 292)], 0) :: (32, .iconst 1, 1, 0, 0, [], 1) :: (33, .invokevirtual 136, 3, 58, 5, [(0, 1), (0, 0), (0, 0), (0, 1), (0, 614)], 0) :: (36, .ifCond .ne 6, 3, 21, 0, [], 0) :: uX6_sellToday_19
set_option maxRecDepth 100000 in
theorem jX6_sellToday_19 : zj pX6_sellToday 19 = uX6_sellToday_19 := rfl
set_option maxRecDepth 100000 in
theorem jX6_sellToday_21 : zj pX6_sellToday 21 = uX6_sellToday_21 := rfl
set_option maxRecDepth 100000 in
def uX11_sell_14 : List zEn := (29, .ireturn, 1, 0, 0, [], 0) :: []
set_option maxRecDepth 100000 in
def uX11_sell_13 : List zEn := (27, .ldc 75, 2, 0, 0, [(0, 498)], (-1000000001)) :: uX11_sell_14
set_option maxRecDepth 100000 in
def uX11_sell_0 : List zEn := (0, .aload_n 0, 1, 0, 0, [], 0) :: (1, .iload_n 1, 1, 1, 0, [], 0) :: (2, .invokevirtual 121, 3, 44, 2, [(0, 1), (0, 0), (0, 0), (0, 11), (0, 565)], 0) :: (5, .ifCond .eq 22, 3, 13, 0, [], 0) :: (8, .aload_n 0, 1, 0, 0, [], 0) :: (9, .getfield 10, 3, 11, 0, [(0, 2), (0, 457)], 0) :: (12, .aload_n 0, 1, 0, 0, [], 0) :: (13, .getfield 10, 3, 11, 0, [(0, 2), (0, 457)], 0) :: (16, .getfield 124, 3, 6, 3, [(0, 2), (0, 279)], 0) :: (19, .iload_n 1, 1, 1, 0, [], 0) :: (20, .aaload, 1, 0, 0, [], 0) :: (21, .invokevirtual 177, 3, 104, 2, [(0, 1), (0, 0), (0, 0), (0, 6), (0, 709)], 0) :: (24, .goto 5, 3, 14, 0, [], 0) :: uX11_sell_13
set_option maxRecDepth 100000 in
theorem jX11_sell_13 : zj pX11_sell 13 = uX11_sell_13 := rfl
set_option maxRecDepth 100000 in
theorem jX11_sell_14 : zj pX11_sell 14 = uX11_sell_14 := rfl
set_option maxRecDepth 100000 in
def uX12_maySell_71 : List zEn := (120, .ireturn, 1, 1, 0, [], 0) :: []
set_option maxRecDepth 100000 in
def uX12_maySell_70 : List zEn := (119, .iconst 0, 1, 0, 0, [], 0) :: uX12_maySell_71
set_option maxRecDepth 100000 in
def uX12_maySell_68 : List zEn := (115, .iconst 1, 1, 0, 0, [], 1) :: (116, .goto 4, 3, 71, 0, [], 0) :: uX12_maySell_70
set_option maxRecDepth 100000 in
def uX12_maySell_0 : List zEn := (0, .aload_n 0, 1, 0, 0, [], 0) :: (1, .iload_n 1, 1, 1, 0, [], 0) :: (2, .invokevirtual 120, 3, 42, 2, [(0, 1), (0, 0), (0, 0), (0, 12), (0, 1422)], 0) :: (5, .istore_n 2, 1, 2, 0, [], 0) :: (6, .aload_n 0, 1, 0, 0, [], 0) :: (7, .iconst 0, 1, 0, 0, [], 0) :: (8, .invokevirtual 136, 3, 72, 2, [(0, 1), (0, 0), (0, 0), (0, 12), (0, 1468)], 0) :: (11, .istore_n 3, 1, 3, 0, [], 0) :: (12, .aload_n 0, 1, 0, 0, [], 0) :: (13, .getfield 58, 3, 12, 30, [(0, 2), (0, 1280)], 0) :: (16, .bipush 107, 2, 0, 0, [], 107) :: (18, .aload_n 0, 1, 0, 0, [], 0) :: (19, .getfield 7, 3, 12, 0, [(0, 2), (0, 1250)], 0) :: (22, .iload_n 2, 1, 2, 0, [], 0) :: (23, .iaload, 1, 0, 0, [], 0) :: (24, .iastore, 1, 0, 0, [], 0) :: (25, .aload_n 0, 1, 0, 0, [], 0) :: (26, .getfield 58, 3, 12, 30, [(0, 2), (0, 1280)], 0) :: (29, .bipush 102, 2, 0, 0, [], 102) :: (31, .aload_n 0, 1, 0, 0, [], 0) :: (32, .getfield 7, 3, 12, 0, [(0, 2), (0, 1250)], 0) :: (35, .iload_n 2, 1, 2, 0, [], 0) :: (36, .iconst 4, 1, 0, 0, [], 4) :: (37, .iadd, 1, 0, 0, [], 0) :: (38, .iaload, 1, 0, 0, [], 0) :: (39, .invokestatic 117, 3, 63, 1, [(0, 1), (0, 0), (0, 0), (0, 1442)], 0) :: (42, .iastore, 1, 0, 0, [], 0) :: (43, .aload_n 0, 1, 0, 0, [], 0) :: (44, .getfield 58, 3, 12, 30, [(0, 2), (0, 1280)], 0) :: (47, .bipush 115, 2, 0, 0, [], 115) :: (49, .aload_n 0, 1, 0, 0, [], 0) :: (50, .iload_n 1, 1, 1, 0, [], 0) :: (51, .invokevirtual 130, 3, 66, 2, [(0, 1), (0, 0), (0, 0), (0, 12), (0, 1445)], 0) :: (54, .iastore, 1, 0, 0, [], 0) :: (55, .aload_n 0, 1, 0, 0, [], 0) :: (56, .getfield 58, 3, 12, 30, [(0, 2), (0, 1280)], 0) :: (59, .bipush 100, 2, 0, 0, [], 100) :: (61, .aload_n 0, 1, 0, 0, [], 0) :: (62, .getfield 7, 3, 12, 0, [(0, 2), (0, 1250)], 0) :: (65, .bipush 7, 2, 0, 0, [], 7) :: (67, .iaload, 1, 0, 0, [], 0) :: (68, .iastore, 1, 0, 0, [], 0) :: (69, .aload_n 0, 1, 0, 0, [], 0) :: (70, .iload_n 1, 1, 1, 0, [], 0) :: (71, .iconst 1, 1, 0, 0, [], 1) :: (72, .invokevirtual 174, 3, 91, 3, [(0, 1), (0, 0), (0, 0), (0, 12), (0, 1512)], 0) :: (75, .ifCond .eq 44, 3, 70, 0, [], 0) :: (78, .aload_n 0, 1, 0, 0, [], 0) :: (79, .getfield 7, 3, 12, 0, [(0, 2), (0, 1250)], 0) :: (82, .iload_n 2, 1, 2, 0, [], 0) :: (83, .bipush 6, 2, 0, 0, [], 6) :: (85, .iadd, 1, 0, 0, [], 0) :: (86, .iaload, 1, 0, 0, [], 0) :: (87, .iconst 1, 1, 0, 0, [], 1) :: (88, .if_icmp .ne 31, 3, 70, 0, [], 0) :: (91, .aload_n 0, 1, 0, 0, [], 0) :: (92, .getfield 7, 3, 12, 0, [(0, 2), (0, 1250)], 0) :: (95, .iload_n 2, 1, 2, 0, [], 0) :: (96, .bipush 7, 2, 0, 0, [], 7) :: (98, .iadd, 1, 0, 0, [], 0) :: (99, .iaload, 1, 0, 0, [], 0) :: (100, .ifCond .ne 19, 3, 70, 0, [], 0) :: (103, .iload_n 3, 1, 3, 0, [], 0) :: (104, .ifCond .lt 11, 3, 68, 0, [], 0) :: (107, .aload_n 0, 1, 0, 0, [], 0) :: (108, .iload_n 3, 1, 3, 0, [], 0) :: (109, .invokevirtual 139, 3, 74, 2, [(0, 1), (0, 0), (0, 0), (0, 12), (0, 1476)], 0) :: (112, .ifCond .eq 7, 3, 70, 0, [], 0) :: uX12_maySell_68
set_option maxRecDepth 100000 in
theorem jX12_maySell_68 : zj pX12_maySell 68 = uX12_maySell_68 := rfl
set_option maxRecDepth 100000 in
theorem jX12_maySell_70 : zj pX12_maySell 70 = uX12_maySell_70 := rfl
set_option maxRecDepth 100000 in
theorem jX12_maySell_71 : zj pX12_maySell 71 = uX12_maySell_71 := rfl
set_option maxRecDepth 100000 in
def uX12_sell_12 : List zEn := (22, .aload_n 0, 1, 0, 0, [], 0) :: (23, .iload_n 1, 1, 1, 0, [], 0) :: (24, .invokevirtual 152, 3, 69, 2, [(0, 1), (0, 0), (0, 0), (0, 12), (0, 1452)], 0) :: (27, .istore_n 2, 1, 2, 0, [], 0) :: (28, .aload_n 0, 1, 0, 0, [], 0) :: (29, .getfield 7, 3, 12, 0, [(0, 2), (0, 1250)], 0) :: (32, .bipush 6, 2, 0, 0, [], 6) :: (34, .dup2, 1, 0, 0, [], 0) :: (35, .iaload, 1, 0, 0, [], 0) :: (36, .iload_n 2, 1, 2, 0, [], 0) :: (37, .iadd, 1, 0, 0, [], 0) :: (38, .iastore, 1, 0, 0, [], 0) :: (39, .aload_n 0, 1, 0, 0, [], 0) :: (40, .getfield 7, 3, 12, 0, [(0, 2), (0, 1250)], 0) :: (43, .aload_n 0, 1, 0, 0, [], 0) :: (44, .iload_n 1, 1, 1, 0, [], 0) :: (45, .invokevirtual 120, 3, 42, 2, [(0, 1), (0, 0), (0, 0), (0, 12), (0, 1422)], 0) :: (48, .iconst 5, 1, 0, 0, [], 5) :: (49, .iadd, 1, 0, 0, [], 0) :: (50, .iconst 3, 1, 0, 0, [], 3) :: (51, .iastore, 1, 0, 0, [], 0) :: (52, .iload_n 2, 1, 2, 0, [], 0) :: (53, .ireturn, 1, 0, 0, [], 0) :: []
set_option maxRecDepth 100000 in
def uX12_sell_6 : List zEn := (11, .aload_n 0, 1, 0, 0, [], 0) :: (12, .iload_n 1, 1, 1, 0, [], 0) :: (13, .invokevirtual 187, 3, 106, 2, [(0, 1), (0, 0), (0, 0), (0, 12), (0, 1541)], 0) :: (16, .ifCond .ne 6, 3, 12, 0, [], 0) :: (19, .ldc 180, 2, 0, 0, [(0, 1520)], (-1000000002)) :: (21, .ireturn, 1, 0, 0, [], 0) :: uX12_sell_12
set_option maxRecDepth 100000 in
def uX12_sell_0 : List zEn := (0, .aload_n 0, 1, 0, 0, [], 0) :: (1, .iload_n 1, 1, 1, 0, [], 0) :: (2, .invokevirtual 144, 3, 62, 2, [(0, 1), (0, 0), (0, 0), (0, 12), (0, 1430)], 0) :: (5, .ifCond .ne 6, 3, 6, 0, [], 0) :: (8, .ldc 87, 2, 0, 0, [(0, 1372)], (-1000000001)) :: (10, .ireturn, 1, 0, 0, [], 0) :: uX12_sell_6
set_option maxRecDepth 100000 in
theorem jX12_sell_6 : zj pX12_sell 6 = uX12_sell_6 := rfl
set_option maxRecDepth 100000 in
theorem jX12_sell_12 : zj pX12_sell 12 = uX12_sell_12 := rfl
set_option maxRecDepth 100000 in
def uX3_isInOrMended_10 : List zEn := (20, .ireturn, 1, 1, 0, [], 0) :: []
set_option maxRecDepth 100000 in
def uX3_isInOrMended_9 : List zEn := (19, .iconst 0, 1, 0, 0, [], 0) :: uX3_isInOrMended_10
set_option maxRecDepth 100000 in
def uX3_isInOrMended_7 : List zEn := (15, .iconst 1, 1, 0, 0, [], 1) :: (16, .goto 4, 3, 10, 0, [], 0) :: uX3_isInOrMended_9
set_option maxRecDepth 100000 in
def uX3_isInOrMended_0 : List zEn := (0, .aload_n 0, 1, 0, 0, [], 0) :: (1, .getfield 27, 3, 3, 5, [(0, 0), (0, 229)], 0) :: (4, .ifCond .eq 11, 3, 7, 0, [], 0) :: (7, .aload_n 0, 1, 0, 0, [], 0) :: (8, .getfield 27, 3, 3, 5, [(0, 0), (0, 229)], 0) :: (11, .iconst 1, 1, 0, 0, [], 1) :: (12, .if_icmp .ne 7, 3, 9, 0, [], 0) :: uX3_isInOrMended_7
set_option maxRecDepth 100000 in
theorem jX3_isInOrMended_7 : zj pX3_isInOrMended 7 = uX3_isInOrMended_7 := rfl
set_option maxRecDepth 100000 in
theorem jX3_isInOrMended_9 : zj pX3_isInOrMended 9 = uX3_isInOrMended_9 := rfl
set_option maxRecDepth 100000 in
theorem jX3_isInOrMended_10 : zj pX3_isInOrMended 10 = uX3_isInOrMended_10 := rfl
set_option maxRecDepth 100000 in
def uX11_hold_20 : List zEn := (38, .aload_n 2, 1, 2, 0, [], 0) :: (39, .iconst 4, 1, 0, 0, [], 4) :: (40, .putfield 185, 3, 3, 5, [(0, 0), (0, 232)], 0) :: (43, .iconst 1, 1, 0, 0, [], 1) :: (44, .ireturn, 1, 0, 0, [], 0) :: []
set_option maxRecDepth 100000 in
def uX11_hold_18 : List zEn := (35, .ldc 184, 2, 0, 0, [(0, 722)], (-1000000002)) :: (37, .ireturn, 1, 0, 0, [], 0) :: uX11_hold_20
set_option maxRecDepth 100000 in
def uX11_hold_6 : List zEn := (11, .aload_n 0, 1, 0, 0, [], 0) :: (12, .getfield 10, 3, 11, 0, [(0, 2), (0, 457)], 0) :: (15, .getfield 124, 3, 6, 3, [(0, 2), (0, 279)], 0) :: (18, .iload_n 1, 1, 1, 0, [], 0) :: (19, .aaload, 1, 0, 0, [], 0) :: (20, .astore_n 2, 1, 2, 0, [], 0) :: (21, .aload_n 2, 1, 2, 0, [], 0) :: (22, .getfield 164, 3, 3, 7, [(0, 1), (0, 238)], 0) :: (25, .ifCond .eq 10, 3, 18, 0, [], 0) :: (28, .aload_n 2, 1, 2, 0, [], 0) :: (29, .invokevirtual 180, 3, 108, 1, [(0, 1), (0, 0), (0, 0), (0, 3), (0, 718)], 0) :: (32, .ifCond .ne 6, 3, 20, 0, [], 0) :: uX11_hold_18
set_option maxRecDepth 100000 in
def uX11_hold_0 : List zEn := (0, .aload_n 0, 1, 0, 0, [], 0) :: (1, .iload_n 1, 1, 1, 0, [], 0) :: (2, .invokevirtual 121, 3, 44, 2, [(0, 1), (0, 0), (0, 0), (0, 11), (0, 565)], 0) :: (5, .ifCond .ne 6, 3, 6, 0, [], 0) :: (8, .ldc 75, 2, 0, 0, [(0, 498)], (-1000000001)) :: (10, .ireturn, 1, 0, 0, [], 0) :: uX11_hold_6
set_option maxRecDepth 100000 in
theorem jX11_hold_6 : zj pX11_hold 6 = uX11_hold_6 := rfl
set_option maxRecDepth 100000 in
theorem jX11_hold_18 : zj pX11_hold 18 = uX11_hold_18 := rfl
set_option maxRecDepth 100000 in
theorem jX11_hold_20 : zj pX11_hold 20 = uX11_hold_20 := rfl
set_option maxRecDepth 100000 in
def uX12_hold_27 : List zEn := (48, .aload_n 0, 1, 0, 0, [], 0) :: (49, .getfield 7, 3, 12, 0, [(0, 2), (0, 1250)], 0) :: (52, .aload_n 0, 1, 0, 0, [], 0) :: (53, .iload_n 1, 1, 1, 0, [], 0) :: (54, .invokevirtual 120, 3, 42, 2, [(0, 1), (0, 0), (0, 0), (0, 12), (0, 1422)], 0) :: (57, .iconst 5, 1, 0, 0, [], 5) :: (58, .iadd, 1, 0, 0, [], 0) :: (59, .iconst 4, 1, 0, 0, [], 4) :: (60, .iastore, 1, 0, 0, [], 0) :: (61, .iconst 1, 1, 0, 0, [], 1) :: (62, .ireturn, 1, 0, 0, [], 0) :: []
set_option maxRecDepth 100000 in
def uX12_hold_25 : List zEn := (45, .ldc 180, 2, 0, 0, [(0, 1520)], (-1000000002)) :: (47, .ireturn, 1, 0, 0, [], 0) :: uX12_hold_27
set_option maxRecDepth 100000 in
def uX12_hold_6 : List zEn := (11, .aload_n 0, 1, 0, 0, [], 0) :: (12, .getfield 7, 3, 12, 0, [(0, 2), (0, 1250)], 0) :: (15, .aload_n 0, 1, 0, 0, [], 0) :: (16, .iload_n 1, 1, 1, 0, [], 0) :: (17, .invokevirtual 120, 3, 42, 2, [(0, 1), (0, 0), (0, 0), (0, 12), (0, 1422)], 0) :: (20, .bipush 7, 2, 0, 0, [], 7) :: (22, .iadd, 1, 0, 0, [], 0) :: (23, .iaload, 1, 0, 0, [], 0) :: (24, .ifCond .eq 21, 3, 25, 0, [], 0) :: (27, .aload_n 0, 1, 0, 0, [], 0) :: (28, .iload_n 1, 1, 1, 0, [], 0) :: (29, .iconst 0, 1, 0, 0, [], 0) :: (30, .invokevirtual 174, 3, 91, 3, [(0, 1), (0, 0), (0, 0), (0, 12), (0, 1512)], 0) :: (33, .ifCond .ne 15, 3, 27, 0, [], 0) :: (36, .aload_n 0, 1, 0, 0, [], 0) :: (37, .iload_n 1, 1, 1, 0, [], 0) :: (38, .iconst 1, 1, 0, 0, [], 1) :: (39, .invokevirtual 174, 3, 91, 3, [(0, 1), (0, 0), (0, 0), (0, 12), (0, 1512)], 0) :: (42, .ifCond .ne 6, 3, 27, 0, [], 0) :: uX12_hold_25
set_option maxRecDepth 100000 in
def uX12_hold_0 : List zEn := (0, .aload_n 0, 1, 0, 0, [], 0) :: (1, .iload_n 1, 1, 1, 0, [], 0) :: (2, .invokevirtual 144, 3, 62, 2, [(0, 1), (0, 0), (0, 0), (0, 12), (0, 1430)], 0) :: (5, .ifCond .ne 6, 3, 6, 0, [], 0) :: (8, .ldc 87, 2, 0, 0, [(0, 1372)], (-1000000001)) :: (10, .ireturn, 1, 0, 0, [], 0) :: uX12_hold_6
set_option maxRecDepth 100000 in
theorem jX12_hold_6 : zj pX12_hold 6 = uX12_hold_6 := rfl
set_option maxRecDepth 100000 in
theorem jX12_hold_25 : zj pX12_hold 25 = uX12_hold_25 := rfl
set_option maxRecDepth 100000 in
theorem jX12_hold_27 : zj pX12_hold 27 = uX12_hold_27 := rfl
set_option maxRecDepth 100000 in
def uX6_isChosen_17 : List zEn := (28, .iconst 0, 1, 0, 0, [], 0) :: (29, .ireturn, 1, 1, 0, [], 0) :: []
set_option maxRecDepth 100000 in
def uX6_isChosen_15 : List zEn := (22, .iinc 2 1, 3, 2, 0, [], 1) :: (25, .goto (-23), 3, 2, 0, [], 0) :: uX6_isChosen_17
set_option maxRecDepth 100000 in
def uX6_isChosen_3 : List zEn := (2, .iload_n 2, 1, 2, 0, [], 0) :: (3, .aload_n 0, 1, 0, 0, [], 0) :: (4, .getfield 41, 3, 6, 6, [(0, 0), (0, 285)], 0) :: (7, .if_icmp .ge 21, 3, 17, 0, [], 0) :: (10, .aload_n 0, 1, 0, 0, [], 0) :: (11, .getfield 37, 3, 6, 5, [(0, 2), (0, 282)], 0) :: (14, .iload_n 2, 1, 2, 0, [], 0) :: (15, .iaload, 1, 0, 0, [], 0) :: (16, .iload_n 1, 1, 1, 0, [], 0) :: (17, .if_icmp .ne 5, 3, 15, 0, [], 0) :: (20, .iconst 1, 1, 0, 0, [], 1) :: (21, .ireturn, 1, 1, 0, [], 0) :: uX6_isChosen_15
set_option maxRecDepth 100000 in
def tX6_isChosen_3 : List zEn := uX6_isChosen_3
set_option maxRecDepth 100000 in
def uX6_isChosen_2 : List zEn := (2, .nop, 0, 0, 0, [], 0) :: tX6_isChosen_3
set_option maxRecDepth 100000 in
def uX6_isChosen_0 : List zEn := (0, .iconst 0, 1, 0, 0, [], 0) :: (1, .istore_n 2, 1, 2, 0, [], 0) :: uX6_isChosen_2
set_option maxRecDepth 100000 in
theorem jX6_isChosen_2 : zj pX6_isChosen 2 = uX6_isChosen_2 := rfl
set_option maxRecDepth 100000 in
theorem jX6_isChosen_15 : zj pX6_isChosen 15 = uX6_isChosen_15 := rfl
set_option maxRecDepth 100000 in
theorem jX6_isChosen_17 : zj pX6_isChosen 17 = uX6_isChosen_17 := rfl
set_option maxRecDepth 100000 in
def uX11_choose_27 : List zEn := (55, .aload_n 0, 1, 0, 0, [], 0) :: (56, .getfield 10, 3, 11, 0, [(0, 2), (0, 457)], 0) :: (59, .getfield 194, 3, 6, 5, [(0, 2), (0, 284)], 0) :: (62, .aload_n 0, 1, 0, 0, [], 0) :: (63, .getfield 10, 3, 11, 0, [(0, 2), (0, 457)], 0) :: (66, .getfield 191, 3, 6, 6, [(0, 0), (0, 287)], 0) :: (69, .iload_n 1, 1, 1, 0, [], 0) :: (70, .iastore, 1, 0, 0, [], 0) :: (71, .aload_n 0, 1, 0, 0, [], 0) :: (72, .getfield 10, 3, 11, 0, [(0, 2), (0, 457)], 0) :: (75, .dup, 1, 0, 0, [], 0) :: (76, .getfield 191, 3, 6, 6, [(0, 0), (0, 287)], 0) :: (79, .iconst 1, 1, 0, 0, [], 1) :: (80, .iadd, 1, 0, 0, [], 0) :: (81, .putfield 191, 3, 6, 6, [(0, 0), (0, 287)], 0) :: (84, .aload_n 0, 1, 0, 0, [], 0) :: (85, .getfield 10, 3, 11, 0, [(0, 2), (0, 457)], 0) :: (88, .getfield 191, 3, 6, 6, [(0, 0), (0, 287)], 0) :: (91, .ireturn, 1, 0, 0, [], 0) :: []
set_option maxRecDepth 100000 in
def uX11_choose_20 : List zEn := (40, .aload_n 0, 1, 0, 0, [], 0) :: (41, .getfield 10, 3, 11, 0, [(0, 2), (0, 457)], 0) :: (44, .getfield 191, 3, 6, 6, [(0, 0), (0, 287)], 0) :: (47, .bipush 6, 2, 0, 0, [], 6) :: (49, .if_icmp .lt 6, 3, 27, 0, [], 0) :: (52, .ldc 76, 2, 0, 0, [(0, 499)], (-1000000003)) :: (54, .ireturn, 1, 0, 0, [], 0) :: uX11_choose_27
set_option maxRecDepth 100000 in
def uX11_choose_18 : List zEn := (37, .ldc 184, 2, 0, 0, [(0, 722)], (-1000000002)) :: (39, .ireturn, 1, 0, 0, [], 0) :: uX11_choose_20
set_option maxRecDepth 100000 in
def uX11_choose_6 : List zEn := (11, .aload_n 0, 1, 0, 0, [], 0) :: (12, .getfield 10, 3, 11, 0, [(0, 2), (0, 457)], 0) :: (15, .iload_n 1, 1, 1, 0, [], 0) :: (16, .invokevirtual 188, 3, 111, 2, [(0, 1), (0, 0), (0, 0), (0, 6), (0, 727)], 0) :: (19, .ifCond .ne 18, 3, 18, 0, [], 0) :: (22, .aload_n 0, 1, 0, 0, [], 0) :: (23, .getfield 10, 3, 11, 0, [(0, 2), (0, 457)], 0) :: (26, .getfield 124, 3, 6, 3, [(0, 2), (0, 279)], 0) :: (29, .iload_n 1, 1, 1, 0, [], 0) :: (30, .aaload, 1, 0, 0, [], 0) :: (31, .getfield 185, 3, 3, 5, [(0, 0), (0, 232)], 0) :: (34, .ifCond .eq 6, 3, 20, 0, [], 0) :: uX11_choose_18
set_option maxRecDepth 100000 in
def uX11_choose_0 : List zEn := (0, .aload_n 0, 1, 0, 0, [], 0) :: (1, .iload_n 1, 1, 1, 0, [], 0) :: (2, .invokevirtual 121, 3, 44, 2, [(0, 1), (0, 0), (0, 0), (0, 11), (0, 565)], 0) :: (5, .ifCond .ne 6, 3, 6, 0, [], 0) :: (8, .ldc 75, 2, 0, 0, [(0, 498)], (-1000000001)) :: (10, .ireturn, 1, 0, 0, [], 0) :: uX11_choose_6
set_option maxRecDepth 100000 in
theorem jX11_choose_6 : zj pX11_choose 6 = uX11_choose_6 := rfl
set_option maxRecDepth 100000 in
theorem jX11_choose_18 : zj pX11_choose 18 = uX11_choose_18 := rfl
set_option maxRecDepth 100000 in
theorem jX11_choose_20 : zj pX11_choose 20 = uX11_choose_20 := rfl
set_option maxRecDepth 100000 in
theorem jX11_choose_27 : zj pX11_choose 27 = uX11_choose_27 := rfl
set_option maxRecDepth 100000 in
def uX12_choose_52 : List zEn := (88, .aload_n 0, 1, 0, 0, [], 0) :: (89, .getfield 7, 3, 12, 0, [(0, 2), (0, 1250)], 0) :: (92, .bipush 26, 2, 0, 0, [], 26) :: (94, .aload_n 0, 1, 0, 0, [], 0) :: (95, .getfield 7, 3, 12, 0, [(0, 2), (0, 1250)], 0) :: (98, .iconst 4, 1, 0, 0, [], 4) :: (99, .iaload, 1, 0, 0, [], 0) :: (100, .iadd, 1, 0, 0, [], 0) :: (101, .iload_n 1, 1, 1, 0, [], 0) :: (102, .iastore, 1, 0, 0, [], 0) :: (103, .aload_n 0, 1, 0, 0, [], 0) :: (104, .getfield 7, 3, 12, 0, [(0, 2), (0, 1250)], 0) :: (107, .iconst 4, 1, 0, 0, [], 4) :: (108, .dup2, 1, 0, 0, [], 0) :: (109, .iaload, 1, 0, 0, [], 0) :: (110, .iconst 1, 1, 0, 0, [], 1) :: (111, .iadd, 1, 0, 0, [], 0) :: (112, .iastore, 1, 0, 0, [], 0) :: (113, .aload_n 0, 1, 0, 0, [], 0) :: (114, .getfield 7, 3, 12, 0, [(0, 2), (0, 1250)], 0) :: (117, .iconst 4, 1, 0, 0, [], 4) :: (118, .iaload, 1, 0, 0, [], 0) :: (119, .ireturn, 1, 0, 0, [], 0) :: []
set_option maxRecDepth 100000 in
def uX12_choose_44 : List zEn := (74, .aload_n 0, 1, 0, 0, [], 0) :: (75, .getfield 7, 3, 12, 0, [(0, 2), (0, 1250)], 0) :: (78, .iconst 4, 1, 0, 0, [], 4) :: (79, .iaload, 1, 0, 0, [], 0) :: (80, .bipush 6, 2, 0, 0, [], 6) :: (82, .if_icmp .ne 6, 3, 52, 0, [], 0) :: (85, .ldc 88, 2, 0, 0, [(0, 1373)], (-1000000003)) :: (87, .ireturn, 1, 0, 0, [], 0) :: uX12_choose_52
set_option maxRecDepth 100000 in
def uX12_choose_40 : List zEn := (67, .iload_n 2, 1, 2, 0, [], 0) :: (68, .ifCond .eq 6, 3, 44, 0, [], 0) :: (71, .ldc 180, 2, 0, 0, [(0, 1520)], (-1000000002)) :: (73, .ireturn, 1, 0, 0, [], 0) :: uX12_choose_44
set_option maxRecDepth 100000 in
def uX12_choose_37 : List zEn := (60, .istore_n 2, 1, 2, 0, [], 0) :: (61, .iinc 3 1, 3, 3, 0, [], 1) :: (64, .goto (-36), 3, 17, 0, [], 0) :: uX12_choose_40
set_option maxRecDepth 100000 in
def uX12_choose_36 : List zEn := (59, .iconst 0, 1, 0, 0, [], 0) :: uX12_choose_37
set_option maxRecDepth 100000 in
def uX12_choose_34 : List zEn := (55, .iconst 1, 1, 0, 0, [], 1) :: (56, .goto 4, 3, 37, 0, [], 0) :: uX12_choose_36
set_option maxRecDepth 100000 in
def uX12_choose_18 : List zEn := (28, .iload_n 3, 1, 3, 0, [], 0) :: (29, .aload_n 0, 1, 0, 0, [], 0) :: (30, .getfield 7, 3, 12, 0, [(0, 2), (0, 1250)], 0) :: (33, .iconst 4, 1, 0, 0, [], 4) :: (34, .iaload, 1, 0, 0, [], 0) :: (35, .if_icmp .ge 32, 3, 40, 0, [], 0) :: (38, .iload_n 2, 1, 2, 0, [], 0) :: (39, .ifCond .ne 16, 3, 34, 0, [], 0) :: (42, .aload_n 0, 1, 0, 0, [], 0) :: (43, .getfield 7, 3, 12, 0, [(0, 2), (0, 1250)], 0) :: (46, .bipush 26, 2, 0, 0, [], 26) :: (48, .iload_n 3, 1, 3, 0, [], 0) :: (49, .iadd, 1, 0, 0, [], 0) :: (50, .iaload, 1, 0, 0, [], 0) :: (51, .iload_n 1, 1, 1, 0, [], 0) :: (52, .if_icmp .ne 7, 3, 36, 0, [], 0) :: uX12_choose_34
set_option maxRecDepth 100000 in
def tX12_choose_18 : List zEn := uX12_choose_18
set_option maxRecDepth 100000 in
def uX12_choose_17 : List zEn := (28, .nop, 0, 0, 0, [], 0) :: tX12_choose_18
set_option maxRecDepth 100000 in
def uX12_choose_14 : List zEn := (25, .istore_n 2, 1, 2, 0, [], 0) :: (26, .iconst 0, 1, 0, 0, [], 0) :: (27, .istore_n 3, 1, 3, 0, [], 0) :: uX12_choose_17
set_option maxRecDepth 100000 in
def uX12_choose_13 : List zEn := (24, .iconst 0, 1, 0, 0, [], 0) :: uX12_choose_14
set_option maxRecDepth 100000 in
def uX12_choose_6 : List zEn := (11, .aload_n 0, 1, 0, 0, [], 0) :: (12, .iload_n 1, 1, 1, 0, [], 0) :: (13, .iconst 0, 1, 0, 0, [], 0) :: (14, .invokevirtual 174, 3, 91, 3, [(0, 1), (0, 0), (0, 0), (0, 12), (0, 1512)], 0) :: (17, .ifCond .ne 7, 3, 13, 0, [], 0) :: (20, .iconst 1, 1, 0, 0, [], 1) :: (21, .goto 4, 3, 14, 0, [], 0) :: uX12_choose_13
set_option maxRecDepth 100000 in
def uX12_choose_0 : List zEn := (0, .aload_n 0, 1, 0, 0, [], 0) :: (1, .iload_n 1, 1, 1, 0, [], 0) :: (2, .invokevirtual 144, 3, 62, 2, [(0, 1), (0, 0), (0, 0), (0, 12), (0, 1430)], 0) :: (5, .ifCond .ne 6, 3, 6, 0, [], 0) :: (8, .ldc 87, 2, 0, 0, [(0, 1372)], (-1000000001)) :: (10, .ireturn, 1, 0, 0, [], 0) :: uX12_choose_6
set_option maxRecDepth 100000 in
theorem jX12_choose_6 : zj pX12_choose 6 = uX12_choose_6 := rfl
set_option maxRecDepth 100000 in
theorem jX12_choose_13 : zj pX12_choose 13 = uX12_choose_13 := rfl
set_option maxRecDepth 100000 in
theorem jX12_choose_14 : zj pX12_choose 14 = uX12_choose_14 := rfl
set_option maxRecDepth 100000 in
theorem jX12_choose_17 : zj pX12_choose 17 = uX12_choose_17 := rfl
set_option maxRecDepth 100000 in
theorem jX12_choose_34 : zj pX12_choose 34 = uX12_choose_34 := rfl
set_option maxRecDepth 100000 in
theorem jX12_choose_36 : zj pX12_choose 36 = uX12_choose_36 := rfl
set_option maxRecDepth 100000 in
theorem jX12_choose_37 : zj pX12_choose 37 = uX12_choose_37 := rfl
set_option maxRecDepth 100000 in
theorem jX12_choose_40 : zj pX12_choose 40 = uX12_choose_40 := rfl
set_option maxRecDepth 100000 in
theorem jX12_choose_44 : zj pX12_choose 44 = uX12_choose_44 := rfl
set_option maxRecDepth 100000 in
theorem jX12_choose_52 : zj pX12_choose 52 = uX12_choose_52 := rfl
set_option maxRecDepth 100000 in
def uX11_clear_0 : List zEn := (0, .aload_n 0, 1, 0, 0, [], 0) :: (1, .getfield 10, 3, 11, 0, [(0, 2), (0, 457)], 0) :: (4, .getfield 191, 3, 6, 6, [(0, 0), (0, 287)], 0) :: (7, .istore_n 1, 1, 1, 0, [], 0) :: (8, .aload_n 0, 1, 0, 0, [], 0) :: (9, .getfield 10, 3, 11, 0, [(0, 2), (0, 457)], 0) :: (12, .iconst 0, 1, 0, 0, [], 0) :: (13, .putfield 191, 3, 6, 6, [(0, 0), (0, 287)], 0) :: (16, .iload_n 1, 1, 1, 0, [], 0) :: (17, .ireturn, 1, 0, 0, [], 0) :: []
set_option maxRecDepth 100000 in
def uX12_clear_0 : List zEn := (0, .aload_n 0, 1, 0, 0, [], 0) :: (1, .iconst 4, 1, 0, 0, [], 4) :: (2, .iconst 0, 1, 0, 0, [], 0) :: (3, .invokevirtual 103, 3, 26, 3, [(0, 1), (0, 0), (0, 0), (0, 12), (0, 1395)], 0) :: (6, .ireturn, 1, 0, 0, [], 0) :: []
set_option maxRecDepth 100000 in
def uX4_spellOut_22 : List zEn := (32, .return_, 1, 0, 0, [], 0) :: []
set_option maxRecDepth 100000 in
def uX4_spellOut_7 : List zEn := (7, .iload 4, 2, 4, 0, [], 0) :: (9, .ifCond .lt 23, 3, 22, 0, [], 0) :: (12, .aload_n 0, 1, 0, 0, [], 0) :: (13, .getfield 22, 3, 4, 3, [(0, 2), (0, 337)], 0) :: (16, .iload 4, 2, 4, 0, [], 0) :: (18, .iload_n 3, 1, 3, 0, [], 0) :: (19, .iconst 3, 1, 0, 0, [], 3) :: (20, .irem, 1, 0, 0, [], 0) :: (21, .iastore, 1, 0, 0, [], 0) :: (22, .iload_n 3, 1, 3, 0, [], 0) :: (23, .iconst 3, 1, 0, 0, [], 3) :: (24, .idiv, 1, 0, 0, [], 0) :: (25, .istore_n 3, 1, 3, 0, [], 0) :: (26, .iinc 4 (-1), 3, 4, 0, [], (-1)) :: (29, .goto (-22), 3, 6, 0, [], 0) :: uX4_spellOut_22
set_option maxRecDepth 100000 in
def tX4_spellOut_7 : List zEn := uX4_spellOut_7
set_option maxRecDepth 100000 in
def uX4_spellOut_6 : List zEn := (7, .nop, 0, 0, 0, [], 0) :: tX4_spellOut_7
set_option maxRecDepth 100000 in
def uX4_spellOut_0 : List zEn := (0, .iload_n 1, 1, 1, 0, [], 0) :: (1, .istore_n 3, 1, 3, 0, [], 0) :: (2, .iload_n 2, 1, 2, 0, [], 0) :: (3, .iconst 1, 1, 0, 0, [], 1) :: (4, .isub, 1, 0, 0, [], 0) :: (5, .istore 4, 2, 4, 0, [], 0) :: uX4_spellOut_6
set_option maxRecDepth 100000 in
theorem jX4_spellOut_6 : zj pX4_spellOut 6 = uX4_spellOut_6 := rfl
set_option maxRecDepth 100000 in
theorem jX4_spellOut_22 : zj pX4_spellOut 22 = uX4_spellOut_22 := rfl
set_option maxRecDepth 100000 in
def uX4_gainOf_37 : List zEn := (56, .iload_n 2, 1, 2, 0, [], 0) :: (57, .ireturn, 1, 0, 0, [], 0) :: []
set_option maxRecDepth 100000 in
def uX4_gainOf_35 : List zEn := (50, .iinc 3 1, 3, 3, 0, [], 1) :: (53, .goto (-49), 3, 4, 0, [], 0) :: uX4_gainOf_37
set_option maxRecDepth 100000 in
def uX4_gainOf_22 : List zEn := (31, .aload_n 0, 1, 0, 0, [], 0) :: (32, .getfield 22, 3, 4, 3, [(0, 2), (0, 337)], 0) :: (35, .iload_n 3, 1, 3, 0, [], 0) :: (36, .iaload, 1, 0, 0, [], 0) :: (37, .iconst 2, 1, 0, 0, [], 2) :: (38, .if_icmp .ne 12, 3, 35, 0, [], 0) :: (41, .iload_n 2, 1, 2, 0, [], 0) :: (42, .aload_n 0, 1, 0, 0, [], 0) :: (43, .getfield 28, 3, 4, 5, [(0, 2), (0, 339)], 0) :: (46, .iload_n 3, 1, 3, 0, [], 0) :: (47, .iaload, 1, 0, 0, [], 0) :: (48, .iadd, 1, 0, 0, [], 0) :: (49, .istore_n 2, 1, 2, 0, [], 0) :: uX4_gainOf_35
set_option maxRecDepth 100000 in
def uX4_gainOf_5 : List zEn := (4, .iload_n 3, 1, 3, 0, [], 0) :: (5, .iload_n 1, 1, 1, 0, [], 0) :: (6, .if_icmp .ge 50, 3, 37, 0, [], 0) :: (9, .aload_n 0, 1, 0, 0, [], 0) :: (10, .getfield 22, 3, 4, 3, [(0, 2), (0, 337)], 0) :: (13, .iload_n 3, 1, 3, 0, [], 0) :: (14, .iaload, 1, 0, 0, [], 0) :: (15, .iconst 1, 1, 0, 0, [], 1) :: (16, .if_icmp .ne 15, 3, 22, 0, [], 0) :: (19, .iload_n 2, 1, 2, 0, [], 0) :: (20, .aload_n 0, 1, 0, 0, [], 0) :: (21, .getfield 25, 3, 4, 4, [(0, 2), (0, 338)], 0) :: (24, .iload_n 3, 1, 3, 0, [], 0) :: (25, .iaload, 1, 0, 0, [], 0) :: (26, .iadd, 1, 0, 0, [], 0) :: (27, .istore_n 2, 1, 2, 0, [], 0) :: (28, .goto 22, 3, 35, 0, [], 0) :: uX4_gainOf_22
set_option maxRecDepth 100000 in
def tX4_gainOf_5 : List zEn := uX4_gainOf_5
set_option maxRecDepth 100000 in
def uX4_gainOf_4 : List zEn := (4, .nop, 0, 0, 0, [], 0) :: tX4_gainOf_5
set_option maxRecDepth 100000 in
def uX4_gainOf_0 : List zEn := (0, .iconst 0, 1, 0, 0, [], 0) :: (1, .istore_n 2, 1, 2, 0, [], 0) :: (2, .iconst 0, 1, 0, 0, [], 0) :: (3, .istore_n 3, 1, 3, 0, [], 0) :: uX4_gainOf_4
set_option maxRecDepth 100000 in
theorem jX4_gainOf_4 : zj pX4_gainOf 4 = uX4_gainOf_4 := rfl
set_option maxRecDepth 100000 in
theorem jX4_gainOf_22 : zj pX4_gainOf 22 = uX4_gainOf_22 := rfl
set_option maxRecDepth 100000 in
theorem jX4_gainOf_35 : zj pX4_gainOf 35 = uX4_gainOf_35 := rfl
set_option maxRecDepth 100000 in
theorem jX4_gainOf_37 : zj pX4_gainOf 37 = uX4_gainOf_37 := rfl
set_option maxRecDepth 100000 in
def uX4_isFit_43 : List zEn := (76, .iconst 1, 1, 0, 0, [], 1) :: (77, .ireturn, 1, 1, 0, [], 0) :: []
set_option maxRecDepth 100000 in
def uX4_isFit_41 : List zEn := (70, .iinc 2 1, 3, 2, 0, [], 1) :: (73, .goto (-71), 3, 2, 0, [], 0) :: uX4_isFit_43
set_option maxRecDepth 100000 in
def uX4_isFit_39 : List zEn := (68, .iconst 0, 1, 0, 0, [], 0) :: (69, .ireturn, 1, 1, 0, [], 0) :: uX4_isFit_41
set_option maxRecDepth 100000 in
def uX4_isFit_28 : List zEn := (45, .istore 4, 2, 4, 0, [], 0) :: (47, .iload 4, 2, 4, 0, [], 0) :: (49, .ifCond .ne 19, 3, 39, 0, [], 0) :: (52, .aload_n 0, 1, 0, 0, [], 0) :: (53, .getfield 22, 3, 4, 3, [(0, 2), (0, 337)], 0) :: (56, .iload_n 2, 1, 2, 0, [], 0) :: (57, .iaload, 1, 0, 0, [], 0) :: (58, .ifCond .eq 12, 3, 41, 0, [], 0) :: (61, .aload_n 3, 1, 3, 0, [], 0) :: (62, .getfield 94, 3, 3, 5, [(0, 0), (0, 230)], 0) :: (65, .ifCond .eq 5, 3, 41, 0, [], 0) :: uX4_isFit_39
set_option maxRecDepth 100000 in
def uX4_isFit_27 : List zEn := (44, .iconst 0, 1, 0, 0, [], 0) :: uX4_isFit_28
set_option maxRecDepth 100000 in
def uX4_isFit_3 : List zEn := (2, .iload_n 2, 1, 2, 0, [], 0) :: (3, .aload_n 1, 1, 1, 0, [], 0) :: (4, .getfield 38, 3, 6, 6, [(0, 0), (0, 286)], 0) :: (7, .if_icmp .ge 69, 3, 43, 0, [], 0) :: (10, .aload_n 1, 1, 1, 0, [], 0) :: (11, .getfield 43, 3, 6, 3, [(0, 2), (0, 278)], 0) :: (14, .aload_n 1, 1, 1, 0, [], 0) :: (15, .getfield 47, 3, 6, 5, [(0, 2), (0, 283)], 0) :: (18, .iload_n 2, 1, 2, 0, [], 0) :: (19, .iaload, 1, 0, 0, [], 0) :: (20, .aaload, 1, 0, 0, [], 0) :: (21, .astore_n 3, 1, 3, 0, [], 0) :: (22, .aload_n 0, 1, 0, 0, [], 0) :: (23, .getfield 22, 3, 4, 3, [(0, 2), (0, 337)], 0) :: (26, .iload_n 2, 1, 2, 0, [], 0) :: (27, .iaload, 1, 0, 0, [], 0) :: (28, .iconst 1, 1, 0, 0, [], 1) :: (29, .if_icmp .ne 15, 3, 27, 0, [], 0) :: (32, .aload_n 3, 1, 3, 0, [], 0) :: (33, .getfield 91, 3, 3, 0, [(0, 0), (0, 212)], 0) :: (36, .iconst 5, 1, 0, 0, [], 5) :: (37, .if_icmp .ne 7, 3, 27, 0, [], 0) :: (40, .iconst 1, 1, 0, 0, [], 1) :: (41, .goto 4, 3, 28, 0, [], 0) :: uX4_isFit_27
set_option maxRecDepth 100000 in
def tX4_isFit_3 : List zEn := uX4_isFit_3
set_option maxRecDepth 100000 in
def uX4_isFit_2 : List zEn := (2, .nop, 0, 0, 0, [], 0) :: tX4_isFit_3
set_option maxRecDepth 100000 in
def uX4_isFit_0 : List zEn := (0, .iconst 0, 1, 0, 0, [], 0) :: (1, .istore_n 2, 1, 2, 0, [], 0) :: uX4_isFit_2
set_option maxRecDepth 100000 in
theorem jX4_isFit_2 : zj pX4_isFit 2 = uX4_isFit_2 := rfl
set_option maxRecDepth 100000 in
theorem jX4_isFit_27 : zj pX4_isFit 27 = uX4_isFit_27 := rfl
set_option maxRecDepth 100000 in
theorem jX4_isFit_28 : zj pX4_isFit 28 = uX4_isFit_28 := rfl
set_option maxRecDepth 100000 in
theorem jX4_isFit_39 : zj pX4_isFit 39 = uX4_isFit_39 := rfl
set_option maxRecDepth 100000 in
theorem jX4_isFit_41 : zj pX4_isFit 41 = uX4_isFit_41 := rfl
set_option maxRecDepth 100000 in
theorem jX4_isFit_43 : zj pX4_isFit 43 = uX4_isFit_43 := rfl
set_option maxRecDepth 100000 in
def uX8_become_0 : List zEn := (0, .aload_n 1, 1, 1, 0, [], 0) :: (1, .getfield 9, 3, 8, 0, [(0, 2), (0, 128)], 0) :: (4, .iconst 0, 1, 0, 0, [], 0) :: (5, .aload_n 0, 1, 0, 0, [], 0) :: (6, .getfield 9, 3, 8, 0, [(0, 2), (0, 128)], 0) :: (9, .iconst 0, 1, 0, 0, [], 0) :: (10, .aload_n 0, 1, 0, 0, [], 0) :: (11, .getfield 9, 3, 8, 0, [(0, 2), (0, 128)], 0) :: (14, .arraylength, 1, 0, 0, [], 0) :: (15, .invokestatic 38, 3, 767, 0, [], 0) :: (18, .aload_n 0, 1, 0, 0, [], 0) :: (19, .aload_n 1, 1, 1, 0, [], 0) :: (20, .getfield 15, 3, 8, 1, [(0, 0), (0, 129)], 0) :: (23, .putfield 15, 3, 8, 1, [(0, 0), (0, 129)], 0) :: (26, .return_, 1, 0, 0, [], 0) :: []
set_option maxRecDepth 100000 in
def uX4_hasParts_69 : List zEn := (123, .iconst 1, 1, 0, 0, [], 1) :: (124, .ireturn, 1, 1, 0, [], 0) :: []
set_option maxRecDepth 100000 in
def uX4_hasParts_67 : List zEn := (117, .iinc 2 1, 3, 2, 0, [], 1) :: (120, .goto (-53), 3, 38, 0, [], 0) :: uX4_hasParts_69
set_option maxRecDepth 100000 in
def uX4_hasParts_39 : List zEn := (67, .iload_n 2, 1, 2, 0, [], 0) :: (68, .aload_n 1, 1, 1, 0, [], 0) :: (69, .getfield 38, 3, 6, 6, [(0, 0), (0, 286)], 0) :: (72, .if_icmp .ge 51, 3, 69, 0, [], 0) :: (75, .aload_n 1, 1, 1, 0, [], 0) :: (76, .getfield 43, 3, 6, 3, [(0, 2), (0, 278)], 0) :: (79, .aload_n 1, 1, 1, 0, [], 0) :: (80, .getfield 47, 3, 6, 5, [(0, 2), (0, 283)], 0) :: (83, .iload_n 2, 1, 2, 0, [], 0) :: (84, .iaload, 1, 0, 0, [], 0) :: (85, .aaload, 1, 0, 0, [], 0) :: (86, .astore_n 3, 1, 3, 0, [], 0) :: (87, .aload_n 0, 1, 0, 0, [], 0) :: (88, .getfield 22, 3, 4, 3, [(0, 2), (0, 337)], 0) :: (91, .iload_n 2, 1, 2, 0, [], 0) :: (92, .iaload, 1, 0, 0, [], 0) :: (93, .iconst 1, 1, 0, 0, [], 1) :: (94, .if_icmp .ne 23, 3, 67, 0, [], 0) :: (97, .aload_n 0, 1, 0, 0, [], 0) :: (98, .getfield 34, 3, 4, 6, [(0, 2), (0, 340)], 0) :: (101, .aload_n 3, 1, 3, 0, [], 0) :: (102, .getfield 102, 3, 3, 1, [(0, 0), (0, 217)], 0) :: (105, .aload_n 3, 1, 3, 0, [], 0) :: (106, .invokevirtual 55, 3, 45, 1, [(0, 1), (0, 0), (0, 0), (0, 3), (0, 743)], 0) :: (109, .invokevirtual 112, 3, 87, 3, [(0, 1), (0, 0), (0, 0), (0, 8), (0, 771)], 0) :: (112, .ifCond .ne 5, 3, 67, 0, [], 0) :: (115, .iconst 0, 1, 0, 0, [], 0) :: (116, .ireturn, 1, 1, 0, [], 0) :: uX4_hasParts_67
set_option maxRecDepth 100000 in
def tX4_hasParts_39 : List zEn := uX4_hasParts_39
set_option maxRecDepth 100000 in
def uX4_hasParts_38 : List zEn := (67, .nop, 0, 0, 0, [], 0) :: tX4_hasParts_39
set_option maxRecDepth 100000 in
def uX4_hasParts_36 : List zEn := (65, .iconst 0, 1, 0, 0, [], 0) :: (66, .istore_n 2, 1, 2, 0, [], 0) :: uX4_hasParts_38
set_option maxRecDepth 100000 in
def uX4_hasParts_34 : List zEn := (59, .iinc 2 1, 3, 2, 0, [], 1) :: (62, .goto (-49), 3, 7, 0, [], 0) :: uX4_hasParts_36
set_option maxRecDepth 100000 in
def uX4_hasParts_8 : List zEn := (13, .iload_n 2, 1, 2, 0, [], 0) :: (14, .aload_n 1, 1, 1, 0, [], 0) :: (15, .getfield 38, 3, 6, 6, [(0, 0), (0, 286)], 0) :: (18, .if_icmp .ge 47, 3, 36, 0, [], 0) :: (21, .aload_n 1, 1, 1, 0, [], 0) :: (22, .getfield 43, 3, 6, 3, [(0, 2), (0, 278)], 0) :: (25, .aload_n 1, 1, 1, 0, [], 0) :: (26, .getfield 47, 3, 6, 5, [(0, 2), (0, 283)], 0) :: (29, .iload_n 2, 1, 2, 0, [], 0) :: (30, .iaload, 1, 0, 0, [], 0) :: (31, .aaload, 1, 0, 0, [], 0) :: (32, .astore_n 3, 1, 3, 0, [], 0) :: (33, .aload_n 0, 1, 0, 0, [], 0) :: (34, .getfield 22, 3, 4, 3, [(0, 2), (0, 337)], 0) :: (37, .iload_n 2, 1, 2, 0, [], 0) :: (38, .iaload, 1, 0, 0, [], 0) :: (39, .iconst 2, 1, 0, 0, [], 2) :: (40, .if_icmp .ne 19, 3, 34, 0, [], 0) :: (43, .aload_n 0, 1, 0, 0, [], 0) :: (44, .getfield 34, 3, 4, 6, [(0, 2), (0, 340)], 0) :: (47, .aload_n 3, 1, 3, 0, [], 0) :: (48, .getfield 102, 3, 3, 1, [(0, 0), (0, 217)], 0) :: (51, .aload_n 3, 1, 3, 0, [], 0) :: (52, .getfield 105, 3, 3, 3, [(0, 0), (0, 222)], 0) :: (55, .invokevirtual 108, 3, 97, 3, [(0, 1), (0, 0), (0, 0), (0, 8), (0, 770)], 0) :: (58, .pop, 1, 0, 0, [], 0) :: uX4_hasParts_34
set_option maxRecDepth 100000 in
def tX4_hasParts_8 : List zEn := uX4_hasParts_8
set_option maxRecDepth 100000 in
def uX4_hasParts_7 : List zEn := (13, .nop, 0, 0, 0, [], 0) :: tX4_hasParts_8
set_option maxRecDepth 100000 in
def uX4_hasParts_0 : List zEn := (0, .aload_n 0, 1, 0, 0, [], 0) :: (1, .getfield 34, 3, 4, 6, [(0, 2), (0, 340)], 0) :: (4, .aload_n 1, 1, 1, 0, [], 0) :: (5, .getfield 97, 3, 6, 2, [(0, 2), (0, 275)], 0) :: (8, .invokevirtual 98, 3, 119, 2, [(0, 0), (0, 0), (0, 0), (0, 8), (0, 763)], 0) :: (11, .iconst 0, 1, 0, 0, [], 0) :: (12, .istore_n 2, 1, 2, 0, [], 0) :: uX4_hasParts_7
set_option maxRecDepth 100000 in
theorem jX4_hasParts_7 : zj pX4_hasParts 7 = uX4_hasParts_7 := rfl
set_option maxRecDepth 100000 in
theorem jX4_hasParts_34 : zj pX4_hasParts 34 = uX4_hasParts_34 := rfl
set_option maxRecDepth 100000 in
theorem jX4_hasParts_36 : zj pX4_hasParts 36 = uX4_hasParts_36 := rfl
set_option maxRecDepth 100000 in
theorem jX4_hasParts_38 : zj pX4_hasParts 38 = uX4_hasParts_38 := rfl
set_option maxRecDepth 100000 in
theorem jX4_hasParts_67 : zj pX4_hasParts 67 = uX4_hasParts_67 := rfl
set_option maxRecDepth 100000 in
theorem jX4_hasParts_69 : zj pX4_hasParts 69 = uX4_hasParts_69 := rfl
set_option maxRecDepth 100000 in
def uX4_findPlan_94 : List zEn := (166, .return_, 1, 0, 0, [], 0) :: []
set_option maxRecDepth 100000 in
def uX4_findPlan_92 : List zEn := (160, .iinc 3 1, 3, 3, 0, [], 1) :: (163, .goto (-73), 3, 55, 0, [], 0) :: uX4_findPlan_94
set_option maxRecDepth 100000 in
def uX4_findPlan_56 : List zEn := (90, .iload_n 3, 1, 3, 0, [], 0) :: (91, .iload_n 2, 1, 2, 0, [], 0) :: (92, .if_icmp .ge 74, 3, 94, 0, [], 0) :: (95, .aload_n 0, 1, 0, 0, [], 0) :: (96, .iload_n 3, 1, 3, 0, [], 0) :: (97, .aload_n 1, 1, 1, 0, [], 0) :: (98, .getfield 38, 3, 6, 6, [(0, 0), (0, 286)], 0) :: (101, .invokevirtual 70, 3, 116, 3, [(0, 0), (0, 0), (0, 0), (0, 4), (0, 747)], 0) :: (104, .aload_n 0, 1, 0, 0, [], 0) :: (105, .aload_n 1, 1, 1, 0, [], 0) :: (106, .getfield 38, 3, 6, 6, [(0, 0), (0, 286)], 0) :: (109, .invokevirtual 74, 3, 117, 2, [(0, 1), (0, 0), (0, 0), (0, 4), (0, 751)], 0) :: (112, .istore 4, 2, 4, 0, [], 0) :: (114, .iload 4, 2, 4, 0, [], 0) :: (116, .aload_n 0, 1, 0, 0, [], 0) :: (117, .getfield 9, 3, 4, 0, [(0, 0), (0, 331)], 0) :: (120, .if_icmp .le 40, 3, 92, 0, [], 0) :: (123, .aload_n 0, 1, 0, 0, [], 0) :: (124, .aload_n 1, 1, 1, 0, [], 0) :: (125, .invokevirtual 78, 3, 118, 2, [(0, 1), (0, 0), (0, 0), (0, 4), (0, 755)], 0) :: (128, .ifCond .eq 32, 3, 92, 0, [], 0) :: (131, .aload_n 0, 1, 0, 0, [], 0) :: (132, .aload_n 1, 1, 1, 0, [], 0) :: (133, .invokevirtual 82, 3, 120, 2, [(0, 1), (0, 0), (0, 0), (0, 4), (0, 759)], 0) :: (136, .ifCond .eq 24, 3, 92, 0, [], 0) :: (139, .aload_n 0, 1, 0, 0, [], 0) :: (140, .iload 4, 2, 4, 0, [], 0) :: (142, .putfield 9, 3, 4, 0, [(0, 0), (0, 331)], 0) :: (145, .aload_n 0, 1, 0, 0, [], 0) :: (146, .getfield 22, 3, 4, 3, [(0, 2), (0, 337)], 0) :: (149, .iconst 0, 1, 0, 0, [], 0) :: (150, .aload_n 0, 1, 0, 0, [], 0) :: (151, .getfield 18, 3, 4, 2, [(0, 2), (0, 335)], 0) :: (154, .iconst 0, 1, 0, 0, [], 0) :: (155, .bipush 6, 2, 0, 0, [], 6) :: (157, .invokestatic 85, 3, 772, 0, [], 0) :: uX4_findPlan_92
set_option maxRecDepth 100000 in
def tX4_findPlan_56 : List zEn := uX4_findPlan_56
set_option maxRecDepth 100000 in
def uX4_findPlan_55 : List zEn := (90, .nop, 0, 0, 0, [], 0) :: tX4_findPlan_56
set_option maxRecDepth 100000 in
def uX4_findPlan_50 : List zEn := (83, .aload_n 0, 1, 0, 0, [], 0) :: (84, .iconst 0, 1, 0, 0, [], 0) :: (85, .putfield 9, 3, 4, 0, [(0, 0), (0, 331)], 0) :: (88, .iconst 1, 1, 0, 0, [], 1) :: (89, .istore_n 3, 1, 3, 0, [], 0) :: uX4_findPlan_55
set_option maxRecDepth 100000 in
def uX4_findPlan_5 : List zEn := (4, .iload_n 3, 1, 3, 0, [], 0) :: (5, .aload_n 1, 1, 1, 0, [], 0) :: (6, .getfield 38, 3, 6, 6, [(0, 0), (0, 286)], 0) :: (9, .if_icmp .ge 74, 3, 50, 0, [], 0) :: (12, .aload_n 1, 1, 1, 0, [], 0) :: (13, .getfield 43, 3, 6, 3, [(0, 2), (0, 278)], 0) :: (16, .aload_n 1, 1, 1, 0, [], 0) :: (17, .getfield 47, 3, 6, 5, [(0, 2), (0, 283)], 0) :: (20, .iload_n 3, 1, 3, 0, [], 0) :: (21, .iaload, 1, 0, 0, [], 0) :: (22, .aaload, 1, 0, 0, [], 0) :: (23, .astore 4, 2, 4, 0, [], 0) :: (25, .aload_n 0, 1, 0, 0, [], 0) :: (26, .getfield 25, 3, 4, 4, [(0, 2), (0, 338)], 0) :: (29, .iload_n 3, 1, 3, 0, [], 0) :: (30, .aload_n 1, 1, 1, 0, [], 0) :: (31, .aload 4, 2, 4, 0, [], 0) :: (33, .aload 4, 2, 4, 0, [], 0) :: (35, .getfield 50, 3, 3, 4, [(0, 0), (0, 226)], 0) :: (38, .aload 4, 2, 4, 0, [], 0) :: (40, .invokevirtual 55, 3, 45, 1, [(0, 1), (0, 0), (0, 0), (0, 3), (0, 743)], 0) :: (43, .ior, 1, 0, 0, [], 0) :: (44, .invokevirtual 59, 3, 51, 3, [(0, 1), (0, 0), (0, 0), (0, 6), (0, 744)], 0) :: (47, .aload 4, 2, 4, 0, [], 0) :: (49, .invokevirtual 63, 3, 48, 1, [(0, 1), (0, 0), (0, 0), (0, 3), (0, 745)], 0) :: (52, .isub, 1, 0, 0, [], 0) :: (53, .iastore, 1, 0, 0, [], 0) :: (54, .aload_n 0, 1, 0, 0, [], 0) :: (55, .getfield 28, 3, 4, 5, [(0, 2), (0, 339)], 0) :: (58, .iload_n 3, 1, 3, 0, [], 0) :: (59, .aload_n 1, 1, 1, 0, [], 0) :: (60, .aload 4, 2, 4, 0, [], 0) :: (62, .invokevirtual 66, 3, 95, 2, [(0, 1), (0, 0), (0, 0), (0, 6), (0, 746)], 0) :: (65, .iastore, 1, 0, 0, [], 0) :: (66, .aload_n 0, 1, 0, 0, [], 0) :: (67, .getfield 18, 3, 4, 2, [(0, 2), (0, 335)], 0) :: (70, .iload_n 3, 1, 3, 0, [], 0) :: (71, .iconst 0, 1, 0, 0, [], 0) :: (72, .iastore, 1, 0, 0, [], 0) :: (73, .iload_n 2, 1, 2, 0, [], 0) :: (74, .iconst 3, 1, 0, 0, [], 3) :: (75, .imul, 1, 0, 0, [], 0) :: (76, .istore_n 2, 1, 2, 0, [], 0) :: (77, .iinc 3 1, 3, 3, 0, [], 1) :: (80, .goto (-76), 3, 4, 0, [], 0) :: uX4_findPlan_50
set_option maxRecDepth 100000 in
def tX4_findPlan_5 : List zEn := uX4_findPlan_5
set_option maxRecDepth 100000 in
def uX4_findPlan_4 : List zEn := (4, .nop, 0, 0, 0, [], 0) :: tX4_findPlan_5
set_option maxRecDepth 100000 in
def uX4_findPlan_0 : List zEn := (0, .iconst 1, 1, 0, 0, [], 1) :: (1, .istore_n 2, 1, 2, 0, [], 0) :: (2, .iconst 0, 1, 0, 0, [], 0) :: (3, .istore_n 3, 1, 3, 0, [], 0) :: uX4_findPlan_4
set_option maxRecDepth 100000 in
theorem jX4_findPlan_4 : zj pX4_findPlan 4 = uX4_findPlan_4 := rfl
set_option maxRecDepth 100000 in
theorem jX4_findPlan_50 : zj pX4_findPlan 50 = uX4_findPlan_50 := rfl
set_option maxRecDepth 100000 in
theorem jX4_findPlan_55 : zj pX4_findPlan 55 = uX4_findPlan_55 := rfl
set_option maxRecDepth 100000 in
theorem jX4_findPlan_92 : zj pX4_findPlan 92 = uX4_findPlan_92 := rfl
set_option maxRecDepth 100000 in
theorem jX4_findPlan_94 : zj pX4_findPlan 94 = uX4_findPlan_94 := rfl
set_option maxRecDepth 100000 in
def uX11_plan_27 : List zEn := (54, .ireturn, 1, 0, 0, [], 0) :: []
set_option maxRecDepth 100000 in
def uX11_plan_22 : List zEn := (45, .aload_n 0, 1, 0, 0, [], 0) :: (46, .getfield 29, 3, 11, 4, [(0, 2), (0, 461)], 0) :: (49, .getfield 204, 3, 4, 2, [(0, 2), (0, 336)], 0) :: (52, .iload_n 1, 1, 1, 0, [], 0) :: (53, .iaload, 1, 0, 0, [], 0) :: uX11_plan_27
set_option maxRecDepth 100000 in
def uX11_plan_11 : List zEn := (20, .aload_n 0, 1, 0, 0, [], 0) :: (21, .getfield 29, 3, 11, 4, [(0, 2), (0, 461)], 0) :: (24, .aload_n 0, 1, 0, 0, [], 0) :: (25, .getfield 10, 3, 11, 0, [(0, 2), (0, 457)], 0) :: (28, .invokevirtual 197, 3, 121, 2, [(0, 0), (0, 0), (0, 0), (0, 4), (0, 739)], 0) :: (31, .iload_n 1, 1, 1, 0, [], 0) :: (32, .ifCond .ge 13, 3, 22, 0, [], 0) :: (35, .aload_n 0, 1, 0, 0, [], 0) :: (36, .getfield 29, 3, 11, 4, [(0, 2), (0, 461)], 0) :: (39, .getfield 201, 3, 4, 0, [(0, 0), (0, 332)], 0) :: (42, .goto 12, 3, 27, 0, [], 0) :: uX11_plan_22
set_option maxRecDepth 100000 in
def uX11_plan_0 : List zEn := (0, .iload_n 1, 1, 1, 0, [], 0) :: (1, .iconst (-1), 1, 0, 0, [], (-1)) :: (2, .aload_n 0, 1, 0, 0, [], 0) :: (3, .getfield 10, 3, 11, 0, [(0, 2), (0, 457)], 0) :: (6, .getfield 191, 3, 6, 6, [(0, 0), (0, 287)], 0) :: (9, .iconst 1, 1, 0, 0, [], 1) :: (10, .isub, 1, 0, 0, [], 0) :: (11, .invokestatic 68, 3, 12, 3, [(0, 1), (0, 0), (0, 0), (0, 495)], 0) :: (14, .ifCond .ne 6, 3, 11, 0, [], 0) :: (17, .ldc 75, 2, 0, 0, [(0, 498)], (-1000000001)) :: (19, .ireturn, 1, 0, 0, [], 0) :: uX11_plan_11
set_option maxRecDepth 100000 in
theorem jX11_plan_11 : zj pX11_plan 11 = uX11_plan_11 := rfl
set_option maxRecDepth 100000 in
theorem jX11_plan_22 : zj pX11_plan 22 = uX11_plan_22 := rfl
set_option maxRecDepth 100000 in
theorem jX11_plan_27 : zj pX11_plan 27 = uX11_plan_27 := rfl
set_option maxRecDepth 100000 in
def uX12_goesBy_97 : List zEn := (159, .iconst 1, 1, 0, 0, [], 1) :: (160, .ireturn, 1, 1, 0, [], 0) :: []
set_option maxRecDepth 100000 in
def uX12_goesBy_95 : List zEn := (153, .iinc 1 1, 3, 1, 0, [], 1) :: (156, .goto (-96), 3, 37, 0, [], 0) :: uX12_goesBy_97
set_option maxRecDepth 100000 in
def uX12_goesBy_64 : List zEn := (104, .aload_n 0, 1, 0, 0, [], 0) :: (105, .dup, 1, 0, 0, [], 0) :: (106, .getfield 190, 3, 12, 15, [(0, 0), (0, 1265)], 0) :: (109, .aload_n 0, 1, 0, 0, [], 0) :: (110, .iload_n 1, 1, 1, 0, [], 0) :: (111, .aload_n 0, 1, 0, 0, [], 0) :: (112, .getfield 7, 3, 12, 0, [(0, 2), (0, 1250)], 0) :: (115, .aload_n 0, 1, 0, 0, [], 0) :: (116, .iload_n 1, 1, 1, 0, [], 0) :: (117, .invokevirtual 120, 3, 42, 2, [(0, 1), (0, 0), (0, 0), (0, 12), (0, 1422)], 0) :: (120, .iconst 4, 1, 0, 0, [], 4) :: (121, .iadd, 1, 0, 0, [], 0) :: (122, .iaload, 1, 0, 0, [], 0) :: (123, .sipush 255, 3, 0, 0, [], 255) :: (126, .aload_n 0, 1, 0, 0, [], 0) :: (127, .getfield 7, 3, 12, 0, [(0, 2), (0, 1250)], 0) :: (130, .aload_n 0, 1, 0, 0, [], 0) :: (131, .iload_n 1, 1, 1, 0, [], 0) :: (132, .invokevirtual 120, 3, 42, 2, [(0, 1), (0, 0), (0, 0), (0, 12), (0, 1422)], 0) :: (135, .iconst 3, 1, 0, 0, [], 3) :: (136, .iadd, 1, 0, 0, [], 0) :: (137, .iaload, 1, 0, 0, [], 0) :: (138, .isub, 1, 0, 0, [], 0) :: (139, .ior, 1, 0, 0, [], 0) :: (140, .invokevirtual 133, 3, 68, 3, [(0, 1), (0, 0), (0, 0), (0, 12), (0, 1456)], 0) :: (143, .aload_n 0, 1, 0, 0, [], 0) :: (144, .iload_n 1, 1, 1, 0, [], 0) :: (145, .invokevirtual 149, 3, 65, 2, [(0, 1), (0, 0), (0, 0), (0, 12), (0, 1435)], 0) :: (148, .isub, 1, 0, 0, [], 0) :: (149, .iadd, 1, 0, 0, [], 0) :: (150, .putfield 190, 3, 12, 15, [(0, 0), (0, 1265)], 0) :: uX12_goesBy_95
set_option maxRecDepth 100000 in
def uX12_goesBy_62 : List zEn := (102, .iconst 0, 1, 0, 0, [], 0) :: (103, .ireturn, 1, 1, 0, [], 0) :: uX12_goesBy_64
set_option maxRecDepth 100000 in
def uX12_goesBy_38 : List zEn := (60, .iload_n 1, 1, 1, 0, [], 0) :: (61, .aload_n 0, 1, 0, 0, [], 0) :: (62, .getfield 7, 3, 12, 0, [(0, 2), (0, 1250)], 0) :: (65, .iconst 1, 1, 0, 0, [], 1) :: (66, .iaload, 1, 0, 0, [], 0) :: (67, .if_icmp .ge 92, 3, 97, 0, [], 0) :: (70, .aload_n 0, 1, 0, 0, [], 0) :: (71, .getfield 46, 3, 12, 13, [(0, 2), (0, 1263)], 0) :: (74, .iload_n 1, 1, 1, 0, [], 0) :: (75, .iaload, 1, 0, 0, [], 0) :: (76, .iconst 1, 1, 0, 0, [], 1) :: (77, .if_icmp .ne 76, 3, 95, 0, [], 0) :: (80, .aload_n 0, 1, 0, 0, [], 0) :: (81, .getfield 7, 3, 12, 0, [(0, 2), (0, 1250)], 0) :: (84, .aload_n 0, 1, 0, 0, [], 0) :: (85, .iload_n 1, 1, 1, 0, [], 0) :: (86, .invokevirtual 120, 3, 42, 2, [(0, 1), (0, 0), (0, 0), (0, 12), (0, 1422)], 0) :: (89, .iaload, 1, 0, 0, [], 0) :: (90, .iconst 5, 1, 0, 0, [], 5) :: (91, .if_icmp .eq 11, 3, 62, 0, [], 0) :: (94, .aload_n 0, 1, 0, 0, [], 0) :: (95, .iload_n 1, 1, 1, 0, [], 0) :: (96, .invokevirtual 177, 3, 92, 2, [(0, 1), (0, 0), (0, 0), (0, 12), (0, 1516)], 0) :: (99, .ifCond .ne 5, 3, 64, 0, [], 0) :: uX12_goesBy_62
set_option maxRecDepth 100000 in
def tX12_goesBy_38 : List zEn := uX12_goesBy_38
set_option maxRecDepth 100000 in
def uX12_goesBy_37 : List zEn := (60, .nop, 0, 0, 0, [], 0) :: tX12_goesBy_38
set_option maxRecDepth 100000 in
def uX12_goesBy_35 : List zEn := (58, .iconst 0, 1, 0, 0, [], 0) :: (59, .istore_n 1, 1, 1, 0, [], 0) :: uX12_goesBy_37
set_option maxRecDepth 100000 in
def uX12_goesBy_33 : List zEn := (52, .iinc 1 1, 3, 1, 0, [], 1) :: (55, .goto (-43), 3, 8, 0, [], 0) :: uX12_goesBy_35
set_option maxRecDepth 100000 in
def uX12_goesBy_9 : List zEn := (12, .iload_n 1, 1, 1, 0, [], 0) :: (13, .aload_n 0, 1, 0, 0, [], 0) :: (14, .getfield 7, 3, 12, 0, [(0, 2), (0, 1250)], 0) :: (17, .iconst 1, 1, 0, 0, [], 1) :: (18, .iaload, 1, 0, 0, [], 0) :: (19, .if_icmp .ge 39, 3, 35, 0, [], 0) :: (22, .aload_n 0, 1, 0, 0, [], 0) :: (23, .getfield 46, 3, 12, 13, [(0, 2), (0, 1263)], 0) :: (26, .iload_n 1, 1, 1, 0, [], 0) :: (27, .iaload, 1, 0, 0, [], 0) :: (28, .iconst 2, 1, 0, 0, [], 2) :: (29, .if_icmp .ne 23, 3, 33, 0, [], 0) :: (32, .aload_n 0, 1, 0, 0, [], 0) :: (33, .iload_n 1, 1, 1, 0, [], 0) :: (34, .invokevirtual 181, 3, 101, 2, [(0, 1), (0, 0), (0, 0), (0, 12), (0, 1525)], 0) :: (37, .istore_n 2, 1, 2, 0, [], 0) :: (38, .aload_n 0, 1, 0, 0, [], 0) :: (39, .dup, 1, 0, 0, [], 0) :: (40, .getfield 190, 3, 12, 15, [(0, 0), (0, 1265)], 0) :: (43, .aload_n 0, 1, 0, 0, [], 0) :: (44, .iload_n 1, 1, 1, 0, [], 0) :: (45, .invokevirtual 184, 3, 102, 2, [(0, 1), (0, 0), (0, 0), (0, 12), (0, 1533)], 0) :: (48, .iadd, 1, 0, 0, [], 0) :: (49, .putfield 190, 3, 12, 15, [(0, 0), (0, 1265)], 0) :: uX12_goesBy_33
set_option maxRecDepth 100000 in
def tX12_goesBy_9 : List zEn := uX12_goesBy_9
set_option maxRecDepth 100000 in
def uX12_goesBy_8 : List zEn := (12, .nop, 0, 0, 0, [], 0) :: tX12_goesBy_9
set_option maxRecDepth 100000 in
def uX12_goesBy_0 : List zEn := (0, .aload_n 0, 1, 0, 0, [], 0) :: (1, .iconst 0, 1, 0, 0, [], 0) :: (2, .putfield 190, 3, 12, 15, [(0, 0), (0, 1265)], 0) :: (5, .aload_n 0, 1, 0, 0, [], 0) :: (6, .iconst 0, 1, 0, 0, [], 0) :: (7, .invokevirtual 170, 3, 90, 2, [(0, 0), (0, 0), (0, 0), (0, 12), (0, 1508)], 0) :: (10, .iconst 0, 1, 0, 0, [], 0) :: (11, .istore_n 1, 1, 1, 0, [], 0) :: uX12_goesBy_8
set_option maxRecDepth 100000 in
theorem jX12_goesBy_8 : zj pX12_goesBy 8 = uX12_goesBy_8 := rfl
set_option maxRecDepth 100000 in
theorem jX12_goesBy_33 : zj pX12_goesBy 33 = uX12_goesBy_33 := rfl
set_option maxRecDepth 100000 in
theorem jX12_goesBy_35 : zj pX12_goesBy 35 = uX12_goesBy_35 := rfl
set_option maxRecDepth 100000 in
theorem jX12_goesBy_37 : zj pX12_goesBy 37 = uX12_goesBy_37 := rfl
set_option maxRecDepth 100000 in
theorem jX12_goesBy_62 : zj pX12_goesBy 62 = uX12_goesBy_62 := rfl
set_option maxRecDepth 100000 in
theorem jX12_goesBy_64 : zj pX12_goesBy 64 = uX12_goesBy_64 := rfl
set_option maxRecDepth 100000 in
theorem jX12_goesBy_95 : zj pX12_goesBy 95 = uX12_goesBy_95 := rfl
set_option maxRecDepth 100000 in
theorem jX12_goesBy_97 : zj pX12_goesBy 97 = uX12_goesBy_97 := rfl
set_option maxRecDepth 100000 in
def uX12_findPlan_131 : List zEn := (225, .iload 4, 2, 4, 0, [], 0) :: (227, .ireturn, 1, 0, 0, [], 0) :: []
set_option maxRecDepth 100000 in
def uX12_findPlan_129 : List zEn := (219, .iinc 5 1, 3, 5, 0, [], 1) :: (222, .goto (-167), 3, 38, 0, [], 0) :: uX12_findPlan_131
set_option maxRecDepth 100000 in
def uX12_findPlan_111 : List zEn := (185, .iload 8, 2, 8, 0, [], 0) :: (187, .iload_n 1, 1, 1, 0, [], 0) :: (188, .if_icmp .ge 31, 3, 129, 0, [], 0) :: (191, .aload_n 0, 1, 0, 0, [], 0) :: (192, .getfield 49, 3, 12, 14, [(0, 2), (0, 1264)], 0) :: (195, .iload 8, 2, 8, 0, [], 0) :: (197, .aload_n 0, 1, 0, 0, [], 0) :: (198, .getfield 46, 3, 12, 13, [(0, 2), (0, 1263)], 0) :: (201, .aload_n 0, 1, 0, 0, [], 0) :: (202, .getfield 7, 3, 12, 0, [(0, 2), (0, 1250)], 0) :: (205, .bipush 26, 2, 0, 0, [], 26) :: (207, .iload 8, 2, 8, 0, [], 0) :: (209, .iadd, 1, 0, 0, [], 0) :: (210, .iaload, 1, 0, 0, [], 0) :: (211, .iaload, 1, 0, 0, [], 0) :: (212, .iastore, 1, 0, 0, [], 0) :: (213, .iinc 8 1, 3, 8, 0, [], 1) :: (216, .goto (-31), 3, 110, 0, [], 0) :: uX12_findPlan_129
set_option maxRecDepth 100000 in
def tX12_findPlan_111 : List zEn := uX12_findPlan_111
set_option maxRecDepth 100000 in
def uX12_findPlan_110 : List zEn := (185, .nop, 0, 0, 0, [], 0) :: tX12_findPlan_111
set_option maxRecDepth 100000 in
def uX12_findPlan_103 : List zEn := (174, .iconst 1, 1, 0, 0, [], 1) :: (175, .istore_n 3, 1, 3, 0, [], 0) :: (176, .aload_n 0, 1, 0, 0, [], 0) :: (177, .getfield 190, 3, 12, 15, [(0, 0), (0, 1265)], 0) :: (180, .istore 4, 2, 4, 0, [], 0) :: (182, .iconst 0, 1, 0, 0, [], 0) :: (183, .istore 8, 2, 8, 0, [], 0) :: uX12_findPlan_110
set_option maxRecDepth 100000 in
def uX12_findPlan_91 : List zEn := (146, .iload 7, 2, 7, 0, [], 0) :: (148, .ifCond .eq 71, 3, 129, 0, [], 0) :: (151, .aload_n 0, 1, 0, 0, [], 0) :: (152, .invokevirtual 194, 3, 123, 1, [(0, 1), (0, 0), (0, 0), (0, 12), (0, 1566)], 0) :: (155, .ifCond .eq 64, 3, 129, 0, [], 0) :: (158, .iload_n 3, 1, 3, 0, [], 0) :: (159, .ifCond .eq 15, 3, 103, 0, [], 0) :: (162, .aload_n 0, 1, 0, 0, [], 0) :: (163, .getfield 190, 3, 12, 15, [(0, 0), (0, 1265)], 0) :: (166, .iload 4, 2, 4, 0, [], 0) :: (168, .if_icmp .gt 6, 3, 103, 0, [], 0) :: (171, .goto 48, 3, 129, 0, [], 0) :: uX12_findPlan_103
set_option maxRecDepth 100000 in
def uX12_findPlan_84 : List zEn := (132, .istore 7, 2, 7, 0, [], 0) :: (134, .iload 6, 2, 6, 0, [], 0) :: (136, .iconst 3, 1, 0, 0, [], 3) :: (137, .idiv, 1, 0, 0, [], 0) :: (138, .istore 6, 2, 6, 0, [], 0) :: (140, .iinc 8 (-1), 3, 8, 0, [], (-1)) :: (143, .goto (-70), 3, 50, 0, [], 0) :: uX12_findPlan_91
set_option maxRecDepth 100000 in
def uX12_findPlan_83 : List zEn := (131, .iconst 0, 1, 0, 0, [], 0) :: uX12_findPlan_84
set_option maxRecDepth 100000 in
def uX12_findPlan_81 : List zEn := (127, .iconst 1, 1, 0, 0, [], 1) :: (128, .goto 4, 3, 84, 0, [], 0) :: uX12_findPlan_83
set_option maxRecDepth 100000 in
def uX12_findPlan_51 : List zEn := (73, .iload 8, 2, 8, 0, [], 0) :: (75, .ifCond .lt 71, 3, 91, 0, [], 0) :: (78, .aload_n 0, 1, 0, 0, [], 0) :: (79, .getfield 46, 3, 12, 13, [(0, 2), (0, 1263)], 0) :: (82, .aload_n 0, 1, 0, 0, [], 0) :: (83, .getfield 7, 3, 12, 0, [(0, 2), (0, 1250)], 0) :: (86, .bipush 26, 2, 0, 0, [], 26) :: (88, .iload 8, 2, 8, 0, [], 0) :: (90, .iadd, 1, 0, 0, [], 0) :: (91, .iaload, 1, 0, 0, [], 0) :: (92, .iload 6, 2, 6, 0, [], 0) :: (94, .iconst 3, 1, 0, 0, [], 3) :: (95, .irem, 1, 0, 0, [], 0) :: (96, .iastore, 1, 0, 0, [], 0) :: (97, .iload 7, 2, 7, 0, [], 0) :: (99, .ifCond .eq 32, 3, 83, 0, [], 0) :: (102, .iload 6, 2, 6, 0, [], 0) :: (104, .iconst 3, 1, 0, 0, [], 3) :: (105, .irem, 1, 0, 0, [], 0) :: (106, .ifCond .eq 21, 3, 81, 0, [], 0) :: (109, .aload_n 0, 1, 0, 0, [], 0) :: (110, .aload_n 0, 1, 0, 0, [], 0) :: (111, .getfield 7, 3, 12, 0, [(0, 2), (0, 1250)], 0) :: (114, .bipush 26, 2, 0, 0, [], 26) :: (116, .iload 8, 2, 8, 0, [], 0) :: (118, .iadd, 1, 0, 0, [], 0) :: (119, .iaload, 1, 0, 0, [], 0) :: (120, .iconst 0, 1, 0, 0, [], 0) :: (121, .invokevirtual 174, 3, 91, 3, [(0, 1), (0, 0), (0, 0), (0, 12), (0, 1512)], 0) :: (124, .ifCond .eq 7, 3, 83, 0, [], 0) :: uX12_findPlan_81
set_option maxRecDepth 100000 in
def tX12_findPlan_51 : List zEn := uX12_findPlan_51
set_option maxRecDepth 100000 in
def uX12_findPlan_50 : List zEn := (73, .nop, 0, 0, 0, [], 0) :: tX12_findPlan_51
set_option maxRecDepth 100000 in
def uX12_findPlan_39 : List zEn := (55, .iload 5, 2, 5, 0, [], 0) :: (57, .iload_n 2, 1, 2, 0, [], 0) :: (58, .if_icmp .ge 167, 3, 131, 0, [], 0) :: (61, .iload 5, 2, 5, 0, [], 0) :: (63, .istore 6, 2, 6, 0, [], 0) :: (65, .iconst 1, 1, 0, 0, [], 1) :: (66, .istore 7, 2, 7, 0, [], 0) :: (68, .iload_n 1, 1, 1, 0, [], 0) :: (69, .iconst 1, 1, 0, 0, [], 1) :: (70, .isub, 1, 0, 0, [], 0) :: (71, .istore 8, 2, 8, 0, [], 0) :: uX12_findPlan_50
set_option maxRecDepth 100000 in
def tX12_findPlan_39 : List zEn := uX12_findPlan_39
set_option maxRecDepth 100000 in
def uX12_findPlan_38 : List zEn := (55, .nop, 0, 0, 0, [], 0) :: tX12_findPlan_39
set_option maxRecDepth 100000 in
def uX12_findPlan_32 : List zEn := (47, .iconst 0, 1, 0, 0, [], 0) :: (48, .istore_n 3, 1, 3, 0, [], 0) :: (49, .iconst 0, 1, 0, 0, [], 0) :: (50, .istore 4, 2, 4, 0, [], 0) :: (52, .iconst 0, 1, 0, 0, [], 0) :: (53, .istore 5, 2, 5, 0, [], 0) :: uX12_findPlan_38
set_option maxRecDepth 100000 in
def uX12_findPlan_22 : List zEn := (28, .iload_n 3, 1, 3, 0, [], 0) :: (29, .bipush 16, 2, 0, 0, [], 16) :: (31, .if_icmp .ge 16, 3, 32, 0, [], 0) :: (34, .aload_n 0, 1, 0, 0, [], 0) :: (35, .getfield 46, 3, 12, 13, [(0, 2), (0, 1263)], 0) :: (38, .iload_n 3, 1, 3, 0, [], 0) :: (39, .iconst 0, 1, 0, 0, [], 0) :: (40, .iastore, 1, 0, 0, [], 0) :: (41, .iinc 3 1, 3, 3, 0, [], 1) :: (44, .goto (-16), 3, 21, 0, [], 0) :: uX12_findPlan_32
set_option maxRecDepth 100000 in
def tX12_findPlan_22 : List zEn := uX12_findPlan_22
set_option maxRecDepth 100000 in
def uX12_findPlan_21 : List zEn := (28, .nop, 0, 0, 0, [], 0) :: tX12_findPlan_22
set_option maxRecDepth 100000 in
def uX12_findPlan_19 : List zEn := (26, .iconst 0, 1, 0, 0, [], 0) :: (27, .istore_n 3, 1, 3, 0, [], 0) :: uX12_findPlan_21
set_option maxRecDepth 100000 in
def uX12_findPlan_10 : List zEn := (11, .iload_n 3, 1, 3, 0, [], 0) :: (12, .iload_n 1, 1, 1, 0, [], 0) :: (13, .if_icmp .ge 13, 3, 19, 0, [], 0) :: (16, .iload_n 2, 1, 2, 0, [], 0) :: (17, .iconst 3, 1, 0, 0, [], 3) :: (18, .imul, 1, 0, 0, [], 0) :: (19, .istore_n 2, 1, 2, 0, [], 0) :: (20, .iinc 3 1, 3, 3, 0, [], 1) :: (23, .goto (-12), 3, 9, 0, [], 0) :: uX12_findPlan_19
set_option maxRecDepth 100000 in
def tX12_findPlan_10 : List zEn := uX12_findPlan_10
set_option maxRecDepth 100000 in
def uX12_findPlan_9 : List zEn := (11, .nop, 0, 0, 0, [], 0) :: tX12_findPlan_10
set_option maxRecDepth 100000 in
def uX12_findPlan_0 : List zEn := (0, .aload_n 0, 1, 0, 0, [], 0) :: (1, .getfield 7, 3, 12, 0, [(0, 2), (0, 1250)], 0) :: (4, .iconst 4, 1, 0, 0, [], 4) :: (5, .iaload, 1, 0, 0, [], 0) :: (6, .istore_n 1, 1, 1, 0, [], 0) :: (7, .iconst 1, 1, 0, 0, [], 1) :: (8, .istore_n 2, 1, 2, 0, [], 0) :: (9, .iconst 0, 1, 0, 0, [], 0) :: (10, .istore_n 3, 1, 3, 0, [], 0) :: uX12_findPlan_9
set_option maxRecDepth 100000 in
theorem jX12_findPlan_9 : zj pX12_findPlan 9 = uX12_findPlan_9 := rfl
set_option maxRecDepth 100000 in
theorem jX12_findPlan_19 : zj pX12_findPlan 19 = uX12_findPlan_19 := rfl
set_option maxRecDepth 100000 in
theorem jX12_findPlan_21 : zj pX12_findPlan 21 = uX12_findPlan_21 := rfl
set_option maxRecDepth 100000 in
theorem jX12_findPlan_32 : zj pX12_findPlan 32 = uX12_findPlan_32 := rfl
set_option maxRecDepth 100000 in
theorem jX12_findPlan_38 : zj pX12_findPlan 38 = uX12_findPlan_38 := rfl
set_option maxRecDepth 100000 in
theorem jX12_findPlan_50 : zj pX12_findPlan 50 = uX12_findPlan_50 := rfl
set_option maxRecDepth 100000 in
theorem jX12_findPlan_81 : zj pX12_findPlan 81 = uX12_findPlan_81 := rfl
set_option maxRecDepth 100000 in
theorem jX12_findPlan_83 : zj pX12_findPlan 83 = uX12_findPlan_83 := rfl
set_option maxRecDepth 100000 in
theorem jX12_findPlan_84 : zj pX12_findPlan 84 = uX12_findPlan_84 := rfl
set_option maxRecDepth 100000 in
theorem jX12_findPlan_91 : zj pX12_findPlan 91 = uX12_findPlan_91 := rfl
set_option maxRecDepth 100000 in
theorem jX12_findPlan_103 : zj pX12_findPlan 103 = uX12_findPlan_103 := rfl
set_option maxRecDepth 100000 in
theorem jX12_findPlan_110 : zj pX12_findPlan 110 = uX12_findPlan_110 := rfl
set_option maxRecDepth 100000 in
theorem jX12_findPlan_129 : zj pX12_findPlan 129 = uX12_findPlan_129 := rfl
set_option maxRecDepth 100000 in
theorem jX12_findPlan_131 : zj pX12_findPlan 131 = uX12_findPlan_131 := rfl
set_option maxRecDepth 100000 in
def uX12_plan_25 : List zEn := (42, .ireturn, 1, 0, 0, [], 0) :: []
set_option maxRecDepth 100000 in
def uX12_plan_21 : List zEn := (36, .aload_n 0, 1, 0, 0, [], 0) :: (37, .getfield 49, 3, 12, 14, [(0, 2), (0, 1264)], 0) :: (40, .iload_n 1, 1, 1, 0, [], 0) :: (41, .iaload, 1, 0, 0, [], 0) :: uX12_plan_25
set_option maxRecDepth 100000 in
def uX12_plan_14 : List zEn := (23, .aload_n 0, 1, 0, 0, [], 0) :: (24, .invokevirtual 200, 3, 124, 1, [(0, 1), (0, 0), (0, 0), (0, 12), (0, 1562)], 0) :: (27, .istore_n 2, 1, 2, 0, [], 0) :: (28, .iload_n 1, 1, 1, 0, [], 0) :: (29, .ifCond .ge 7, 3, 21, 0, [], 0) :: (32, .iload_n 2, 1, 2, 0, [], 0) :: (33, .goto 9, 3, 25, 0, [], 0) :: uX12_plan_21
set_option maxRecDepth 100000 in
def uX12_plan_0 : List zEn := (0, .iload_n 1, 1, 1, 0, [], 0) :: (1, .i2l, 1, 0, 0, [], 0) :: (2, .ldc2_w 198, 3, 0, 0, [(0, 1561)], (-1)) :: (5, .aload_n 0, 1, 0, 0, [], 0) :: (6, .getfield 7, 3, 12, 0, [(0, 2), (0, 1250)], 0) :: (9, .iconst 4, 1, 0, 0, [], 4) :: (10, .iaload, 1, 0, 0, [], 0) :: (11, .iconst 1, 1, 0, 0, [], 1) :: (12, .isub, 1, 0, 0, [], 0) :: (13, .i2l, 1, 0, 0, [], 0) :: (14, .invokestatic 77, 3, 15, 3, [(0, 1), (0, 0), (0, 0), (0, 1368)], 0) :: (17, .ifCond .ne 6, 3, 14, 0, [], 0) :: (20, .ldc 87, 2, 0, 0, [(0, 1372)], (-1000000001)) :: (22, .ireturn, 1, 0, 0, [], 0) :: uX12_plan_14
set_option maxRecDepth 100000 in
theorem jX12_plan_14 : zj pX12_plan 14 = uX12_plan_14 := rfl
set_option maxRecDepth 100000 in
theorem jX12_plan_21 : zj pX12_plan 21 = uX12_plan_21 := rfl
set_option maxRecDepth 100000 in
theorem jX12_plan_25 : zj pX12_plan 25 = uX12_plan_25 := rfl
set_option maxRecDepth 100000 in
def uX4_latenessOf_38 : List zEn := (63, .iload_n 3, 1, 3, 0, [], 0) :: (64, .ireturn, 1, 0, 0, [], 0) :: []
set_option maxRecDepth 100000 in
def uX4_latenessOf_7 : List zEn := (7, .iload 4, 2, 4, 0, [], 0) :: (9, .aload_n 1, 1, 1, 0, [], 0) :: (10, .getfield 38, 3, 6, 6, [(0, 0), (0, 286)], 0) :: (13, .if_icmp .ge 50, 3, 38, 0, [], 0) :: (16, .aload_n 1, 1, 1, 0, [], 0) :: (17, .getfield 43, 3, 6, 3, [(0, 2), (0, 278)], 0) :: (20, .aload_n 1, 1, 1, 0, [], 0) :: (21, .getfield 47, 3, 6, 5, [(0, 2), (0, 283)], 0) :: (24, .aload_n 0, 1, 0, 0, [], 0) :: (25, .getfield 22, 3, 4, 3, [(0, 2), (0, 337)], 0) :: (28, .iload 4, 2, 4, 0, [], 0) :: (30, .iaload, 1, 0, 0, [], 0) :: (31, .iaload, 1, 0, 0, [], 0) :: (32, .aaload, 1, 0, 0, [], 0) :: (33, .astore 5, 2, 5, 0, [], 0) :: (35, .iload_n 2, 1, 2, 0, [], 0) :: (36, .aload 5, 2, 5, 0, [], 0) :: (38, .invokevirtual 63, 3, 48, 1, [(0, 1), (0, 0), (0, 0), (0, 3), (0, 745)], 0) :: (41, .iadd, 1, 0, 0, [], 0) :: (42, .istore_n 2, 1, 2, 0, [], 0) :: (43, .iload_n 3, 1, 3, 0, [], 0) :: (44, .iconst 0, 1, 0, 0, [], 0) :: (45, .iload_n 2, 1, 2, 0, [], 0) :: (46, .aload 5, 2, 5, 0, [], 0) :: (48, .getfield 124, 3, 3, 8, [(0, 0), (0, 240)], 0) :: (51, .isub, 1, 0, 0, [], 0) :: (52, .invokestatic 127, 3, 19, 2, [(0, 1), (0, 0), (0, 0), (0, 785)], 0) :: (55, .iadd, 1, 0, 0, [], 0) :: (56, .istore_n 3, 1, 3, 0, [], 0) :: (57, .iinc 4 1, 3, 4, 0, [], 1) :: (60, .goto (-53), 3, 6, 0, [], 0) :: uX4_latenessOf_38
set_option maxRecDepth 100000 in
def tX4_latenessOf_7 : List zEn := uX4_latenessOf_7
set_option maxRecDepth 100000 in
def uX4_latenessOf_6 : List zEn := (7, .nop, 0, 0, 0, [], 0) :: tX4_latenessOf_7
set_option maxRecDepth 100000 in
def uX4_latenessOf_0 : List zEn := (0, .iconst 0, 1, 0, 0, [], 0) :: (1, .istore_n 2, 1, 2, 0, [], 0) :: (2, .iconst 0, 1, 0, 0, [], 0) :: (3, .istore_n 3, 1, 3, 0, [], 0) :: (4, .iconst 0, 1, 0, 0, [], 0) :: (5, .istore 4, 2, 4, 0, [], 0) :: uX4_latenessOf_6
set_option maxRecDepth 100000 in
theorem jX4_latenessOf_6 : zj pX4_latenessOf 6 = uX4_latenessOf_6 := rfl
set_option maxRecDepth 100000 in
theorem jX4_latenessOf_38 : zj pX4_latenessOf 38 = uX4_latenessOf_38 := rfl
set_option maxRecDepth 100000 in
def uX4_swap_0 : List zEn := (0, .aload_n 0, 1, 0, 0, [], 0) :: (1, .getfield 22, 3, 4, 3, [(0, 2), (0, 337)], 0) :: (4, .iload_n 1, 1, 1, 0, [], 0) :: (5, .iaload, 1, 0, 0, [], 0) :: (6, .istore_n 3, 1, 3, 0, [], 0) :: (7, .aload_n 0, 1, 0, 0, [], 0) :: (8, .getfield 22, 3, 4, 3, [(0, 2), (0, 337)], 0) :: (11, .iload_n 1, 1, 1, 0, [], 0) :: (12, .aload_n 0, 1, 0, 0, [], 0) :: (13, .getfield 22, 3, 4, 3, [(0, 2), (0, 337)], 0) :: (16, .iload_n 2, 1, 2, 0, [], 0) :: (17, .iaload, 1, 0, 0, [], 0) :: (18, .iastore, 1, 0, 0, [], 0) :: (19, .aload_n 0, 1, 0, 0, [], 0) :: (20, .getfield 22, 3, 4, 3, [(0, 2), (0, 337)], 0) :: (23, .iload_n 2, 1, 2, 0, [], 0) :: (24, .iload_n 3, 1, 3, 0, [], 0) :: (25, .iastore, 1, 0, 0, [], 0) :: (26, .return_, 1, 0, 0, [], 0) :: []
set_option maxRecDepth 100000 in
def uX4_nextOrder_68 : List zEn := (109, .iconst 1, 1, 0, 0, [], 1) :: (110, .ireturn, 1, 1, 0, [], 0) :: []
set_option maxRecDepth 100000 in
def uX4_nextOrder_58 : List zEn := (85, .iload 4, 2, 4, 0, [], 0) :: (87, .iload 5, 2, 5, 0, [], 0) :: (89, .if_icmp .ge 20, 3, 68, 0, [], 0) :: (92, .aload_n 0, 1, 0, 0, [], 0) :: (93, .iload 4, 2, 4, 0, [], 0) :: (95, .iload 5, 2, 5, 0, [], 0) :: (97, .invokevirtual 132, 3, 127, 3, [(0, 0), (0, 0), (0, 0), (0, 4), (0, 790)], 0) :: (100, .iinc 4 1, 3, 4, 0, [], 1) :: (103, .iinc 5 (-1), 3, 5, 0, [], (-1)) :: (106, .goto (-21), 3, 57, 0, [], 0) :: uX4_nextOrder_68
set_option maxRecDepth 100000 in
def tX4_nextOrder_58 : List zEn := uX4_nextOrder_58
set_option maxRecDepth 100000 in
def uX4_nextOrder_57 : List zEn := (85, .nop, 0, 0, 0, [], 0) :: tX4_nextOrder_58
set_option maxRecDepth 100000 in
def uX4_nextOrder_45 : List zEn := (69, .aload_n 0, 1, 0, 0, [], 0) :: (70, .iload_n 2, 1, 2, 0, [], 0) :: (71, .iload_n 3, 1, 3, 0, [], 0) :: (72, .invokevirtual 132, 3, 127, 3, [(0, 0), (0, 0), (0, 0), (0, 4), (0, 790)], 0) :: (75, .iload_n 2, 1, 2, 0, [], 0) :: (76, .iconst 1, 1, 0, 0, [], 1) :: (77, .iadd, 1, 0, 0, [], 0) :: (78, .istore 4, 2, 4, 0, [], 0) :: (80, .iload_n 1, 1, 1, 0, [], 0) :: (81, .iconst 1, 1, 0, 0, [], 1) :: (82, .isub, 1, 0, 0, [], 0) :: (83, .istore 5, 2, 5, 0, [], 0) :: uX4_nextOrder_57
set_option maxRecDepth 100000 in
def uX4_nextOrder_29 : List zEn := (41, .iload_n 3, 1, 3, 0, [], 0) :: (42, .iload_n 2, 1, 2, 0, [], 0) :: (43, .iconst 1, 1, 0, 0, [], 1) :: (44, .iadd, 1, 0, 0, [], 0) :: (45, .if_icmp .le 24, 3, 45, 0, [], 0) :: (48, .aload_n 0, 1, 0, 0, [], 0) :: (49, .getfield 22, 3, 4, 3, [(0, 2), (0, 337)], 0) :: (52, .iload_n 3, 1, 3, 0, [], 0) :: (53, .iaload, 1, 0, 0, [], 0) :: (54, .aload_n 0, 1, 0, 0, [], 0) :: (55, .getfield 22, 3, 4, 3, [(0, 2), (0, 337)], 0) :: (58, .iload_n 2, 1, 2, 0, [], 0) :: (59, .iaload, 1, 0, 0, [], 0) :: (60, .if_icmp .ge 9, 3, 45, 0, [], 0) :: (63, .iinc 3 (-1), 3, 3, 0, [], (-1)) :: (66, .goto (-25), 3, 28, 0, [], 0) :: uX4_nextOrder_45
set_option maxRecDepth 100000 in
def tX4_nextOrder_29 : List zEn := uX4_nextOrder_29
set_option maxRecDepth 100000 in
def uX4_nextOrder_28 : List zEn := (41, .nop, 0, 0, 0, [], 0) :: tX4_nextOrder_29
set_option maxRecDepth 100000 in
def uX4_nextOrder_24 : List zEn := (37, .iload_n 1, 1, 1, 0, [], 0) :: (38, .iconst 1, 1, 0, 0, [], 1) :: (39, .isub, 1, 0, 0, [], 0) :: (40, .istore_n 3, 1, 3, 0, [], 0) :: uX4_nextOrder_28
set_option maxRecDepth 100000 in
def uX4_nextOrder_20 : List zEn := (31, .iload_n 2, 1, 2, 0, [], 0) :: (32, .ifCond .ge 5, 3, 24, 0, [], 0) :: (35, .iconst 0, 1, 0, 0, [], 0) :: (36, .ireturn, 1, 1, 0, [], 0) :: uX4_nextOrder_24
set_option maxRecDepth 100000 in
def uX4_nextOrder_5 : List zEn := (4, .iload_n 2, 1, 2, 0, [], 0) :: (5, .ifCond .lt 26, 3, 20, 0, [], 0) :: (8, .aload_n 0, 1, 0, 0, [], 0) :: (9, .getfield 22, 3, 4, 3, [(0, 2), (0, 337)], 0) :: (12, .iload_n 2, 1, 2, 0, [], 0) :: (13, .iaload, 1, 0, 0, [], 0) :: (14, .aload_n 0, 1, 0, 0, [], 0) :: (15, .getfield 22, 3, 4, 3, [(0, 2), (0, 337)], 0) :: (18, .iload_n 2, 1, 2, 0, [], 0) :: (19, .iconst 1, 1, 0, 0, [], 1) :: (20, .iadd, 1, 0, 0, [], 0) :: (21, .iaload, 1, 0, 0, [], 0) :: (22, .if_icmp .le 9, 3, 20, 0, [], 0) :: (25, .iinc 2 (-1), 3, 2, 0, [], (-1)) :: (28, .goto (-24), 3, 4, 0, [], 0) :: uX4_nextOrder_20
set_option maxRecDepth 100000 in
def tX4_nextOrder_5 : List zEn := uX4_nextOrder_5
set_option maxRecDepth 100000 in
def uX4_nextOrder_4 : List zEn := (4, .nop, 0, 0, 0, [], 0) :: tX4_nextOrder_5
set_option maxRecDepth 100000 in
def uX4_nextOrder_0 : List zEn := (0, .iload_n 1, 1, 1, 0, [], 0) :: (1, .iconst 2, 1, 0, 0, [], 2) :: (2, .isub, 1, 0, 0, [], 0) :: (3, .istore_n 2, 1, 2, 0, [], 0) :: uX4_nextOrder_4
set_option maxRecDepth 100000 in
theorem jX4_nextOrder_4 : zj pX4_nextOrder 4 = uX4_nextOrder_4 := rfl
set_option maxRecDepth 100000 in
theorem jX4_nextOrder_20 : zj pX4_nextOrder 20 = uX4_nextOrder_20 := rfl
set_option maxRecDepth 100000 in
theorem jX4_nextOrder_24 : zj pX4_nextOrder 24 = uX4_nextOrder_24 := rfl
set_option maxRecDepth 100000 in
theorem jX4_nextOrder_28 : zj pX4_nextOrder 28 = uX4_nextOrder_28 := rfl
set_option maxRecDepth 100000 in
theorem jX4_nextOrder_45 : zj pX4_nextOrder 45 = uX4_nextOrder_45 := rfl
set_option maxRecDepth 100000 in
theorem jX4_nextOrder_57 : zj pX4_nextOrder 57 = uX4_nextOrder_57 := rfl
set_option maxRecDepth 100000 in
theorem jX4_nextOrder_68 : zj pX4_nextOrder 68 = uX4_nextOrder_68 := rfl
set_option maxRecDepth 100000 in
def uX4_findOrder_62 : List zEn := (111, .return_, 1, 0, 0, [], 0) :: []
set_option maxRecDepth 100000 in
def uX4_findOrder_55 : List zEn := (96, .aload_n 0, 1, 0, 0, [], 0) :: (97, .aload_n 1, 1, 1, 0, [], 0) :: (98, .getfield 38, 3, 6, 6, [(0, 0), (0, 286)], 0) :: (101, .invokevirtual 120, 3, 128, 2, [(0, 1), (0, 0), (0, 0), (0, 4), (0, 786)], 0) :: (104, .istore_n 2, 1, 2, 0, [], 0) :: (105, .iinc 3 1, 3, 3, 0, [], 1) :: (108, .goto (-60), 3, 30, 0, [], 0) :: uX4_findOrder_62
set_option maxRecDepth 100000 in
def uX4_findOrder_31 : List zEn := (48, .iload_n 3, 1, 3, 0, [], 0) :: (49, .sipush 720, 3, 0, 0, [], 720) :: (52, .if_icmp .ge 59, 3, 62, 0, [], 0) :: (55, .iload_n 2, 1, 2, 0, [], 0) :: (56, .ifCond .eq 55, 3, 62, 0, [], 0) :: (59, .aload_n 0, 1, 0, 0, [], 0) :: (60, .aload_n 1, 1, 1, 0, [], 0) :: (61, .invokevirtual 116, 3, 126, 2, [(0, 1), (0, 0), (0, 0), (0, 4), (0, 781)], 0) :: (64, .istore 4, 2, 4, 0, [], 0) :: (66, .iload 4, 2, 4, 0, [], 0) :: (68, .aload_n 0, 1, 0, 0, [], 0) :: (69, .getfield 15, 3, 4, 1, [(0, 0), (0, 333)], 0) :: (72, .if_icmp .ge 24, 3, 55, 0, [], 0) :: (75, .aload_n 0, 1, 0, 0, [], 0) :: (76, .iload 4, 2, 4, 0, [], 0) :: (78, .putfield 15, 3, 4, 1, [(0, 0), (0, 333)], 0) :: (81, .aload_n 0, 1, 0, 0, [], 0) :: (82, .getfield 22, 3, 4, 3, [(0, 2), (0, 337)], 0) :: (85, .iconst 0, 1, 0, 0, [], 0) :: (86, .aload_n 0, 1, 0, 0, [], 0) :: (87, .getfield 18, 3, 4, 2, [(0, 2), (0, 335)], 0) :: (90, .iconst 0, 1, 0, 0, [], 0) :: (91, .bipush 6, 2, 0, 0, [], 6) :: (93, .invokestatic 85, 3, 772, 0, [], 0) :: uX4_findOrder_55
set_option maxRecDepth 100000 in
def tX4_findOrder_31 : List zEn := uX4_findOrder_31
set_option maxRecDepth 100000 in
def uX4_findOrder_30 : List zEn := (48, .nop, 0, 0, 0, [], 0) :: tX4_findOrder_31
set_option maxRecDepth 100000 in
def uX4_findOrder_18 : List zEn := (28, .aload_n 0, 1, 0, 0, [], 0) :: (29, .aload_n 0, 1, 0, 0, [], 0) :: (30, .aload_n 1, 1, 1, 0, [], 0) :: (31, .invokevirtual 116, 3, 126, 2, [(0, 1), (0, 0), (0, 0), (0, 4), (0, 781)], 0) :: (34, .putfield 15, 3, 4, 1, [(0, 0), (0, 333)], 0) :: (37, .aload_n 0, 1, 0, 0, [], 0) :: (38, .aload_n 1, 1, 1, 0, [], 0) :: (39, .getfield 38, 3, 6, 6, [(0, 0), (0, 286)], 0) :: (42, .invokevirtual 120, 3, 128, 2, [(0, 1), (0, 0), (0, 0), (0, 4), (0, 786)], 0) :: (45, .istore_n 2, 1, 2, 0, [], 0) :: (46, .iconst 1, 1, 0, 0, [], 1) :: (47, .istore_n 3, 1, 3, 0, [], 0) :: uX4_findOrder_30
set_option maxRecDepth 100000 in
def uX4_findOrder_3 : List zEn := (2, .iload_n 2, 1, 2, 0, [], 0) :: (3, .bipush 6, 2, 0, 0, [], 6) :: (5, .if_icmp .ge 23, 3, 18, 0, [], 0) :: (8, .aload_n 0, 1, 0, 0, [], 0) :: (9, .getfield 22, 3, 4, 3, [(0, 2), (0, 337)], 0) :: (12, .iload_n 2, 1, 2, 0, [], 0) :: (13, .iload_n 2, 1, 2, 0, [], 0) :: (14, .iastore, 1, 0, 0, [], 0) :: (15, .aload_n 0, 1, 0, 0, [], 0) :: (16, .getfield 18, 3, 4, 2, [(0, 2), (0, 335)], 0) :: (19, .iload_n 2, 1, 2, 0, [], 0) :: (20, .iload_n 2, 1, 2, 0, [], 0) :: (21, .iastore, 1, 0, 0, [], 0) :: (22, .iinc 2 1, 3, 2, 0, [], 1) :: (25, .goto (-23), 3, 2, 0, [], 0) :: uX4_findOrder_18
set_option maxRecDepth 100000 in
def tX4_findOrder_3 : List zEn := uX4_findOrder_3
set_option maxRecDepth 100000 in
def uX4_findOrder_2 : List zEn := (2, .nop, 0, 0, 0, [], 0) :: tX4_findOrder_3
set_option maxRecDepth 100000 in
def uX4_findOrder_0 : List zEn := (0, .iconst 0, 1, 0, 0, [], 0) :: (1, .istore_n 2, 1, 2, 0, [], 0) :: uX4_findOrder_2
set_option maxRecDepth 100000 in
theorem jX4_findOrder_2 : zj pX4_findOrder 2 = uX4_findOrder_2 := rfl
set_option maxRecDepth 100000 in
theorem jX4_findOrder_18 : zj pX4_findOrder 18 = uX4_findOrder_18 := rfl
set_option maxRecDepth 100000 in
theorem jX4_findOrder_30 : zj pX4_findOrder 30 = uX4_findOrder_30 := rfl
set_option maxRecDepth 100000 in
theorem jX4_findOrder_55 : zj pX4_findOrder 55 = uX4_findOrder_55 := rfl
set_option maxRecDepth 100000 in
theorem jX4_findOrder_62 : zj pX4_findOrder 62 = uX4_findOrder_62 := rfl
set_option maxRecDepth 100000 in
def uX11_noon_31 : List zEn := (62, .ireturn, 1, 0, 0, [], 0) :: []
set_option maxRecDepth 100000 in
def uX11_noon_22 : List zEn := (45, .aload_n 0, 1, 0, 0, [], 0) :: (46, .getfield 10, 3, 11, 0, [(0, 2), (0, 457)], 0) :: (49, .getfield 194, 3, 6, 5, [(0, 2), (0, 284)], 0) :: (52, .aload_n 0, 1, 0, 0, [], 0) :: (53, .getfield 29, 3, 11, 4, [(0, 2), (0, 461)], 0) :: (56, .getfield 204, 3, 4, 2, [(0, 2), (0, 336)], 0) :: (59, .iload_n 1, 1, 1, 0, [], 0) :: (60, .iaload, 1, 0, 0, [], 0) :: (61, .iaload, 1, 0, 0, [], 0) :: uX11_noon_31
set_option maxRecDepth 100000 in
def uX11_noon_11 : List zEn := (20, .aload_n 0, 1, 0, 0, [], 0) :: (21, .getfield 29, 3, 11, 4, [(0, 2), (0, 461)], 0) :: (24, .aload_n 0, 1, 0, 0, [], 0) :: (25, .getfield 10, 3, 11, 0, [(0, 2), (0, 457)], 0) :: (28, .invokevirtual 207, 3, 129, 2, [(0, 0), (0, 0), (0, 0), (0, 4), (0, 777)], 0) :: (31, .iload_n 1, 1, 1, 0, [], 0) :: (32, .ifCond .ge 13, 3, 22, 0, [], 0) :: (35, .aload_n 0, 1, 0, 0, [], 0) :: (36, .getfield 29, 3, 11, 4, [(0, 2), (0, 461)], 0) :: (39, .getfield 210, 3, 4, 1, [(0, 0), (0, 334)], 0) :: (42, .goto 20, 3, 31, 0, [], 0) :: uX11_noon_22
set_option maxRecDepth 100000 in
def uX11_noon_0 : List zEn := (0, .iload_n 1, 1, 1, 0, [], 0) :: (1, .iconst (-1), 1, 0, 0, [], (-1)) :: (2, .aload_n 0, 1, 0, 0, [], 0) :: (3, .getfield 10, 3, 11, 0, [(0, 2), (0, 457)], 0) :: (6, .getfield 191, 3, 6, 6, [(0, 0), (0, 287)], 0) :: (9, .iconst 1, 1, 0, 0, [], 1) :: (10, .isub, 1, 0, 0, [], 0) :: (11, .invokestatic 68, 3, 12, 3, [(0, 1), (0, 0), (0, 0), (0, 495)], 0) :: (14, .ifCond .ne 6, 3, 11, 0, [], 0) :: (17, .ldc 75, 2, 0, 0, [(0, 498)], (-1000000001)) :: (19, .ireturn, 1, 0, 0, [], 0) :: uX11_noon_11
set_option maxRecDepth 100000 in
theorem jX11_noon_11 : zj pX11_noon 11 = uX11_noon_11 := rfl
set_option maxRecDepth 100000 in
theorem jX11_noon_22 : zj pX11_noon 22 = uX11_noon_22 := rfl
set_option maxRecDepth 100000 in
theorem jX11_noon_31 : zj pX11_noon 31 = uX11_noon_31 := rfl
set_option maxRecDepth 100000 in
def uX12_orders_97 : List zEn := (169, .return_, 1, 0, 0, [], 0) :: []
set_option maxRecDepth 100000 in
def uX12_orders_95 : List zEn := (163, .iinc 5 1, 3, 5, 0, [], 1) :: (166, .goto (-101), 3, 35, 0, [], 0) :: uX12_orders_97
set_option maxRecDepth 100000 in
def uX12_orders_93 : List zEn := (159, .iadd, 1, 0, 0, [], 0) :: (160, .invokevirtual 207, 3, 131, 5, [(0, 0), (0, 0), (0, 0), (0, 12), (0, 1574)], 0) :: uX12_orders_95
set_option maxRecDepth 100000 in
def uX12_orders_92 : List zEn := (158, .iconst 0, 1, 0, 0, [], 0) :: uX12_orders_93
set_option maxRecDepth 100000 in
def uX12_orders_36 : List zEn := (65, .iload 5, 2, 5, 0, [], 0) :: (67, .aload_n 0, 1, 0, 0, [], 0) :: (68, .getfield 7, 3, 12, 0, [(0, 2), (0, 1250)], 0) :: (71, .iconst 4, 1, 0, 0, [], 4) :: (72, .iaload, 1, 0, 0, [], 0) :: (73, .if_icmp .ge 96, 3, 97, 0, [], 0) :: (76, .iload_n 2, 1, 2, 0, [], 0) :: (77, .iload 5, 2, 5, 0, [], 0) :: (79, .ishr, 1, 0, 0, [], 0) :: (80, .iconst 1, 1, 0, 0, [], 1) :: (81, .iand, 1, 0, 0, [], 0) :: (82, .ifCond .ne 81, 3, 95, 0, [], 0) :: (85, .aload_n 0, 1, 0, 0, [], 0) :: (86, .getfield 7, 3, 12, 0, [(0, 2), (0, 1250)], 0) :: (89, .bipush 26, 2, 0, 0, [], 26) :: (91, .iload 5, 2, 5, 0, [], 0) :: (93, .iadd, 1, 0, 0, [], 0) :: (94, .iaload, 1, 0, 0, [], 0) :: (95, .istore 6, 2, 6, 0, [], 0) :: (97, .iload_n 3, 1, 3, 0, [], 0) :: (98, .aload_n 0, 1, 0, 0, [], 0) :: (99, .iload 6, 2, 6, 0, [], 0) :: (101, .invokevirtual 149, 3, 65, 2, [(0, 1), (0, 0), (0, 0), (0, 12), (0, 1435)], 0) :: (104, .iadd, 1, 0, 0, [], 0) :: (105, .istore 7, 2, 7, 0, [], 0) :: (107, .iload 7, 2, 7, 0, [], 0) :: (109, .aload_n 0, 1, 0, 0, [], 0) :: (110, .getfield 7, 3, 12, 0, [(0, 2), (0, 1250)], 0) :: (113, .aload_n 0, 1, 0, 0, [], 0) :: (114, .iload 6, 2, 6, 0, [], 0) :: (116, .invokevirtual 120, 3, 42, 2, [(0, 1), (0, 0), (0, 0), (0, 12), (0, 1422)], 0) :: (119, .bipush 8, 2, 0, 0, [], 8) :: (121, .iadd, 1, 0, 0, [], 0) :: (122, .iaload, 1, 0, 0, [], 0) :: (123, .isub, 1, 0, 0, [], 0) :: (124, .istore 8, 2, 8, 0, [], 0) :: (126, .aload_n 0, 1, 0, 0, [], 0) :: (127, .getfield 52, 3, 12, 16, [(0, 2), (0, 1266)], 0) :: (130, .iload_n 1, 1, 1, 0, [], 0) :: (131, .iload 6, 2, 6, 0, [], 0) :: (133, .iastore, 1, 0, 0, [], 0) :: (134, .aload_n 0, 1, 0, 0, [], 0) :: (135, .iload_n 1, 1, 1, 0, [], 0) :: (136, .iconst 1, 1, 0, 0, [], 1) :: (137, .iadd, 1, 0, 0, [], 0) :: (138, .iload_n 2, 1, 2, 0, [], 0) :: (139, .iconst 1, 1, 0, 0, [], 1) :: (140, .iload 5, 2, 5, 0, [], 0) :: (142, .ishl, 1, 0, 0, [], 0) :: (143, .ior, 1, 0, 0, [], 0) :: (144, .iload 7, 2, 7, 0, [], 0) :: (146, .iload 4, 2, 4, 0, [], 0) :: (148, .iload 8, 2, 8, 0, [], 0) :: (150, .ifCond .le 8, 3, 92, 0, [], 0) :: (153, .iload 8, 2, 8, 0, [], 0) :: (155, .goto 4, 3, 93, 0, [], 0) :: uX12_orders_92
set_option maxRecDepth 100000 in
def tX12_orders_36 : List zEn := uX12_orders_36
set_option maxRecDepth 100000 in
def uX12_orders_35 : List zEn := (65, .nop, 0, 0, 0, [], 0) :: tX12_orders_36
set_option maxRecDepth 100000 in
def uX12_orders_33 : List zEn := (62, .iconst 0, 1, 0, 0, [], 0) :: (63, .istore 5, 2, 5, 0, [], 0) :: uX12_orders_35
set_option maxRecDepth 100000 in
def uX12_orders_32 : List zEn := (61, .return_, 1, 0, 0, [], 0) :: uX12_orders_33
set_option maxRecDepth 100000 in
def uX12_orders_19 : List zEn := (35, .iload 5, 2, 5, 0, [], 0) :: (37, .iload_n 1, 1, 1, 0, [], 0) :: (38, .if_icmp .ge 23, 3, 32, 0, [], 0) :: (41, .aload_n 0, 1, 0, 0, [], 0) :: (42, .getfield 49, 3, 12, 14, [(0, 2), (0, 1264)], 0) :: (45, .iload 5, 2, 5, 0, [], 0) :: (47, .aload_n 0, 1, 0, 0, [], 0) :: (48, .getfield 52, 3, 12, 16, [(0, 2), (0, 1266)], 0) :: (51, .iload 5, 2, 5, 0, [], 0) :: (53, .iaload, 1, 0, 0, [], 0) :: (54, .iastore, 1, 0, 0, [], 0) :: (55, .iinc 5 1, 3, 5, 0, [], 1) :: (58, .goto (-23), 3, 18, 0, [], 0) :: uX12_orders_32
set_option maxRecDepth 100000 in
def tX12_orders_19 : List zEn := uX12_orders_19
set_option maxRecDepth 100000 in
def uX12_orders_18 : List zEn := (35, .nop, 0, 0, 0, [], 0) :: tX12_orders_19
set_option maxRecDepth 100000 in
def uX12_orders_13 : List zEn := (26, .aload_n 0, 1, 0, 0, [], 0) :: (27, .iload 4, 2, 4, 0, [], 0) :: (29, .putfield 204, 3, 12, 17, [(0, 0), (0, 1267)], 0) :: (32, .iconst 0, 1, 0, 0, [], 0) :: (33, .istore 5, 2, 5, 0, [], 0) :: uX12_orders_18
set_option maxRecDepth 100000 in
def uX12_orders_0 : List zEn := (0, .iload_n 1, 1, 1, 0, [], 0) :: (1, .aload_n 0, 1, 0, 0, [], 0) :: (2, .getfield 7, 3, 12, 0, [(0, 2), (0, 1250)], 0) :: (5, .iconst 4, 1, 0, 0, [], 4) :: (6, .iaload, 1, 0, 0, [], 0) :: (7, .if_icmp .ne 55, 3, 33, 0, [], 0) :: (10, .aload_n 0, 1, 0, 0, [], 0) :: (11, .getfield 204, 3, 12, 17, [(0, 0), (0, 1267)], 0) :: (14, .ifCond .lt 12, 3, 13, 0, [], 0) :: (17, .iload 4, 2, 4, 0, [], 0) :: (19, .aload_n 0, 1, 0, 0, [], 0) :: (20, .getfield 204, 3, 12, 17, [(0, 0), (0, 1267)], 0) :: (23, .if_icmp .ge 38, 3, 32, 0, [], 0) :: uX12_orders_13
set_option maxRecDepth 100000 in
theorem jX12_orders_13 : zj pX12_orders 13 = uX12_orders_13 := rfl
set_option maxRecDepth 100000 in
theorem jX12_orders_18 : zj pX12_orders 18 = uX12_orders_18 := rfl
set_option maxRecDepth 100000 in
theorem jX12_orders_32 : zj pX12_orders 32 = uX12_orders_32 := rfl
set_option maxRecDepth 100000 in
theorem jX12_orders_33 : zj pX12_orders 33 = uX12_orders_33 := rfl
set_option maxRecDepth 100000 in
theorem jX12_orders_35 : zj pX12_orders 35 = uX12_orders_35 := rfl
set_option maxRecDepth 100000 in
theorem jX12_orders_92 : zj pX12_orders 92 = uX12_orders_92 := rfl
set_option maxRecDepth 100000 in
theorem jX12_orders_93 : zj pX12_orders 93 = uX12_orders_93 := rfl
set_option maxRecDepth 100000 in
theorem jX12_orders_95 : zj pX12_orders 95 = uX12_orders_95 := rfl
set_option maxRecDepth 100000 in
theorem jX12_orders_97 : zj pX12_orders 97 = uX12_orders_97 := rfl
set_option maxRecDepth 100000 in
def uX12_noon_32 : List zEn := (53, .ireturn, 1, 0, 0, [], 0) :: []
set_option maxRecDepth 100000 in
def uX12_noon_28 : List zEn := (47, .aload_n 0, 1, 0, 0, [], 0) :: (48, .getfield 49, 3, 12, 14, [(0, 2), (0, 1264)], 0) :: (51, .iload_n 1, 1, 1, 0, [], 0) :: (52, .iaload, 1, 0, 0, [], 0) :: uX12_noon_32
set_option maxRecDepth 100000 in
def uX12_noon_14 : List zEn := (23, .aload_n 0, 1, 0, 0, [], 0) :: (24, .iconst (-1), 1, 0, 0, [], (-1)) :: (25, .putfield 204, 3, 12, 17, [(0, 0), (0, 1267)], 0) :: (28, .aload_n 0, 1, 0, 0, [], 0) :: (29, .iconst 0, 1, 0, 0, [], 0) :: (30, .iconst 0, 1, 0, 0, [], 0) :: (31, .iconst 0, 1, 0, 0, [], 0) :: (32, .iconst 0, 1, 0, 0, [], 0) :: (33, .invokevirtual 207, 3, 131, 5, [(0, 0), (0, 0), (0, 0), (0, 12), (0, 1574)], 0) :: (36, .iload_n 1, 1, 1, 0, [], 0) :: (37, .ifCond .ge 10, 3, 28, 0, [], 0) :: (40, .aload_n 0, 1, 0, 0, [], 0) :: (41, .getfield 204, 3, 12, 17, [(0, 0), (0, 1267)], 0) :: (44, .goto 9, 3, 32, 0, [], 0) :: uX12_noon_28
set_option maxRecDepth 100000 in
def uX12_noon_0 : List zEn := (0, .iload_n 1, 1, 1, 0, [], 0) :: (1, .i2l, 1, 0, 0, [], 0) :: (2, .ldc2_w 198, 3, 0, 0, [(0, 1561)], (-1)) :: (5, .aload_n 0, 1, 0, 0, [], 0) :: (6, .getfield 7, 3, 12, 0, [(0, 2), (0, 1250)], 0) :: (9, .iconst 4, 1, 0, 0, [], 4) :: (10, .iaload, 1, 0, 0, [], 0) :: (11, .iconst 1, 1, 0, 0, [], 1) :: (12, .isub, 1, 0, 0, [], 0) :: (13, .i2l, 1, 0, 0, [], 0) :: (14, .invokestatic 77, 3, 15, 3, [(0, 1), (0, 0), (0, 0), (0, 1368)], 0) :: (17, .ifCond .ne 6, 3, 14, 0, [], 0) :: (20, .ldc 87, 2, 0, 0, [(0, 1372)], (-1000000001)) :: (22, .ireturn, 1, 0, 0, [], 0) :: uX12_noon_14
set_option maxRecDepth 100000 in
theorem jX12_noon_14 : zj pX12_noon 14 = uX12_noon_14 := rfl
set_option maxRecDepth 100000 in
theorem jX12_noon_28 : zj pX12_noon 28 = uX12_noon_28 := rfl
set_option maxRecDepth 100000 in
theorem jX12_noon_32 : zj pX12_noon 32 = uX12_noon_32 := rfl
set_option maxRecDepth 100000 in
def uX10_takeBytes_27 : List zEn := (48, .return_, 1, 0, 0, [], 0) :: []
set_option maxRecDepth 100000 in
def uX10_takeBytes_3 : List zEn := (3, .iload_n 2, 1, 2, 0, [], 0) :: (4, .ifCond .lt 44, 3, 27, 0, [], 0) :: (7, .aload_n 0, 1, 0, 0, [], 0) :: (8, .getfield 15, 3, 10, 1, [(0, 0), (0, 363)], 0) :: (11, .bipush 96, 2, 0, 0, [], 96) :: (13, .if_icmp .ge 35, 3, 27, 0, [], 0) :: (16, .aload_n 0, 1, 0, 0, [], 0) :: (17, .getfield 9, 3, 10, 0, [(0, 2), (0, 362)], 0) :: (20, .aload_n 0, 1, 0, 0, [], 0) :: (21, .getfield 15, 3, 10, 1, [(0, 0), (0, 363)], 0) :: (24, .iload_n 1, 1, 1, 0, [], 0) :: (25, .iload_n 2, 1, 2, 0, [], 0) :: (26, .iushr, 1, 0, 0, [], 0) :: (27, .sipush 255, 3, 0, 0, [], 255) :: (30, .iand, 1, 0, 0, [], 0) :: (31, .iastore, 1, 0, 0, [], 0) :: (32, .aload_n 0, 1, 0, 0, [], 0) :: (33, .dup, 1, 0, 0, [], 0) :: (34, .getfield 15, 3, 10, 1, [(0, 0), (0, 363)], 0) :: (37, .iconst 1, 1, 0, 0, [], 1) :: (38, .iadd, 1, 0, 0, [], 0) :: (39, .putfield 15, 3, 10, 1, [(0, 0), (0, 363)], 0) :: (42, .iinc 2 (-8), 3, 2, 0, [], (-8)) :: (45, .goto (-42), 3, 2, 0, [], 0) :: uX10_takeBytes_27
set_option maxRecDepth 100000 in
def tX10_takeBytes_3 : List zEn := uX10_takeBytes_3
set_option maxRecDepth 100000 in
def uX10_takeBytes_2 : List zEn := (3, .nop, 0, 0, 0, [], 0) :: tX10_takeBytes_3
set_option maxRecDepth 100000 in
def uX10_takeBytes_0 : List zEn := (0, .bipush 24, 2, 0, 0, [], 24) :: (2, .istore_n 2, 1, 2, 0, [], 0) :: uX10_takeBytes_2
set_option maxRecDepth 100000 in
theorem jX10_takeBytes_2 : zj pX10_takeBytes 2 = uX10_takeBytes_2 := rfl
set_option maxRecDepth 100000 in
theorem jX10_takeBytes_27 : zj pX10_takeBytes 27 = uX10_takeBytes_27 := rfl
set_option maxRecDepth 100000 in
def uX11_feed_7 : List zEn := (15, .aload_n 0, 1, 0, 0, [], 0) :: (16, .getfield 40, 3, 11, 6, [(0, 2), (0, 463)], 0) :: (19, .iload_n 1, 1, 1, 0, [], 0) :: (20, .invokevirtual 216, 3, 133, 2, [(0, 0), (0, 0), (0, 0), (0, 10), (0, 798)], 0) :: (23, .aload_n 0, 1, 0, 0, [], 0) :: (24, .getfield 40, 3, 11, 6, [(0, 2), (0, 463)], 0) :: (27, .iload_n 2, 1, 2, 0, [], 0) :: (28, .invokevirtual 216, 3, 133, 2, [(0, 0), (0, 0), (0, 0), (0, 10), (0, 798)], 0) :: (31, .aload_n 0, 1, 0, 0, [], 0) :: (32, .getfield 40, 3, 11, 6, [(0, 2), (0, 463)], 0) :: (35, .iload_n 3, 1, 3, 0, [], 0) :: (36, .invokevirtual 216, 3, 133, 2, [(0, 0), (0, 0), (0, 0), (0, 10), (0, 798)], 0) :: (39, .aload_n 0, 1, 0, 0, [], 0) :: (40, .getfield 40, 3, 11, 6, [(0, 2), (0, 463)], 0) :: (43, .getfield 213, 3, 10, 1, [(0, 0), (0, 364)], 0) :: (46, .ireturn, 1, 0, 0, [], 0) :: []
set_option maxRecDepth 100000 in
def uX11_feed_0 : List zEn := (0, .aload_n 0, 1, 0, 0, [], 0) :: (1, .getfield 40, 3, 11, 6, [(0, 2), (0, 463)], 0) :: (4, .getfield 213, 3, 10, 1, [(0, 0), (0, 364)], 0) :: (7, .bipush 84, 2, 0, 0, [], 84) :: (9, .if_icmp .le 6, 3, 7, 0, [], 0) :: (12, .ldc 76, 2, 0, 0, [(0, 499)], (-1000000003)) :: (14, .ireturn, 1, 0, 0, [], 0) :: uX11_feed_7
set_option maxRecDepth 100000 in
theorem jX11_feed_7 : zj pX11_feed 7 = uX11_feed_7 := rfl
set_option maxRecDepth 100000 in
def uX12_feed_50 : List zEn := (91, .aload_n 0, 1, 0, 0, [], 0) :: (92, .getfield 211, 3, 12, 19, [(0, 0), (0, 1269)], 0) :: (95, .ireturn, 1, 0, 0, [], 0) :: []
set_option maxRecDepth 100000 in
def uX12_feed_25 : List zEn := (47, .istore 5, 2, 5, 0, [], 0) :: (49, .aload_n 0, 1, 0, 0, [], 0) :: (50, .getfield 55, 3, 12, 18, [(0, 2), (0, 1268)], 0) :: (53, .aload_n 0, 1, 0, 0, [], 0) :: (54, .getfield 211, 3, 12, 19, [(0, 0), (0, 1269)], 0) :: (57, .iload 5, 2, 5, 0, [], 0) :: (59, .bipush 24, 2, 0, 0, [], 24) :: (61, .bipush 8, 2, 0, 0, [], 8) :: (63, .iload 4, 2, 4, 0, [], 0) :: (65, .iconst 4, 1, 0, 0, [], 4) :: (66, .irem, 1, 0, 0, [], 0) :: (67, .imul, 1, 0, 0, [], 0) :: (68, .isub, 1, 0, 0, [], 0) :: (69, .ishr, 1, 0, 0, [], 0) :: (70, .sipush 255, 3, 0, 0, [], 255) :: (73, .iand, 1, 0, 0, [], 0) :: (74, .iastore, 1, 0, 0, [], 0) :: (75, .aload_n 0, 1, 0, 0, [], 0) :: (76, .dup, 1, 0, 0, [], 0) :: (77, .getfield 211, 3, 12, 19, [(0, 0), (0, 1269)], 0) :: (80, .iconst 1, 1, 0, 0, [], 1) :: (81, .iadd, 1, 0, 0, [], 0) :: (82, .putfield 211, 3, 12, 19, [(0, 0), (0, 1269)], 0) :: (85, .iinc 4 1, 3, 4, 0, [], 1) :: (88, .goto (-70), 3, 10, 0, [], 0) :: uX12_feed_50
set_option maxRecDepth 100000 in
def uX12_feed_24 : List zEn := (46, .iload_n 3, 1, 3, 0, [], 0) :: uX12_feed_25
set_option maxRecDepth 100000 in
def uX12_feed_19 : List zEn := (35, .iload 4, 2, 4, 0, [], 0) :: (37, .bipush 8, 2, 0, 0, [], 8) :: (39, .if_icmp .ge 7, 3, 24, 0, [], 0) :: (42, .iload_n 2, 1, 2, 0, [], 0) :: (43, .goto 4, 3, 25, 0, [], 0) :: uX12_feed_24
set_option maxRecDepth 100000 in
def uX12_feed_11 : List zEn := (18, .iload 4, 2, 4, 0, [], 0) :: (20, .bipush 12, 2, 0, 0, [], 12) :: (22, .if_icmp .ge 69, 3, 50, 0, [], 0) :: (25, .iload 4, 2, 4, 0, [], 0) :: (27, .iconst 4, 1, 0, 0, [], 4) :: (28, .if_icmp .ge 7, 3, 19, 0, [], 0) :: (31, .iload_n 1, 1, 1, 0, [], 0) :: (32, .goto 15, 3, 25, 0, [], 0) :: uX12_feed_19
set_option maxRecDepth 100000 in
def tX12_feed_11 : List zEn := uX12_feed_11
set_option maxRecDepth 100000 in
def uX12_feed_10 : List zEn := (18, .nop, 0, 0, 0, [], 0) :: tX12_feed_11
set_option maxRecDepth 100000 in
def uX12_feed_8 : List zEn := (15, .iconst 0, 1, 0, 0, [], 0) :: (16, .istore 4, 2, 4, 0, [], 0) :: uX12_feed_10
set_option maxRecDepth 100000 in
def uX12_feed_0 : List zEn := (0, .aload_n 0, 1, 0, 0, [], 0) :: (1, .getfield 211, 3, 12, 19, [(0, 0), (0, 1269)], 0) :: (4, .bipush 12, 2, 0, 0, [], 12) :: (6, .iadd, 1, 0, 0, [], 0) :: (7, .bipush 96, 2, 0, 0, [], 96) :: (9, .if_icmp .le 6, 3, 8, 0, [], 0) :: (12, .ldc 88, 2, 0, 0, [(0, 1373)], (-1000000003)) :: (14, .ireturn, 1, 0, 0, [], 0) :: uX12_feed_8
set_option maxRecDepth 100000 in
theorem jX12_feed_8 : zj pX12_feed 8 = uX12_feed_8 := rfl
set_option maxRecDepth 100000 in
theorem jX12_feed_10 : zj pX12_feed 10 = uX12_feed_10 := rfl
set_option maxRecDepth 100000 in
theorem jX12_feed_19 : zj pX12_feed 19 = uX12_feed_19 := rfl
set_option maxRecDepth 100000 in
theorem jX12_feed_24 : zj pX12_feed 24 = uX12_feed_24 := rfl
set_option maxRecDepth 100000 in
theorem jX12_feed_25 : zj pX12_feed 25 = uX12_feed_25 := rfl
set_option maxRecDepth 100000 in
theorem jX12_feed_50 : zj pX12_feed 50 = uX12_feed_50 := rfl
set_option maxRecDepth 100000 in
def uX11_trim_9 : List zEn := (18, .aload_n 0, 1, 0, 0, [], 0) :: (19, .getfield 40, 3, 11, 6, [(0, 2), (0, 463)], 0) :: (22, .iload_n 1, 1, 1, 0, [], 0) :: (23, .putfield 213, 3, 10, 1, [(0, 0), (0, 364)], 0) :: (26, .iload_n 1, 1, 1, 0, [], 0) :: (27, .ireturn, 1, 0, 0, [], 0) :: []
set_option maxRecDepth 100000 in
def uX11_trim_0 : List zEn := (0, .iload_n 1, 1, 1, 0, [], 0) :: (1, .iconst 0, 1, 0, 0, [], 0) :: (2, .aload_n 0, 1, 0, 0, [], 0) :: (3, .getfield 40, 3, 11, 6, [(0, 2), (0, 463)], 0) :: (6, .getfield 213, 3, 10, 1, [(0, 0), (0, 364)], 0) :: (9, .invokestatic 68, 3, 12, 3, [(0, 1), (0, 0), (0, 0), (0, 495)], 0) :: (12, .ifCond .ne 6, 3, 9, 0, [], 0) :: (15, .ldc 75, 2, 0, 0, [(0, 498)], (-1000000001)) :: (17, .ireturn, 1, 0, 0, [], 0) :: uX11_trim_9
set_option maxRecDepth 100000 in
theorem jX11_trim_9 : zj pX11_trim 9 = uX11_trim_9 := rfl
set_option maxRecDepth 100000 in
def uX12_trim_10 : List zEn := (17, .aload_n 0, 1, 0, 0, [], 0) :: (18, .iload_n 1, 1, 1, 0, [], 0) :: (19, .putfield 211, 3, 12, 19, [(0, 0), (0, 1269)], 0) :: (22, .iload_n 1, 1, 1, 0, [], 0) :: (23, .ireturn, 1, 0, 0, [], 0) :: []
set_option maxRecDepth 100000 in
def uX12_trim_0 : List zEn := (0, .iload_n 1, 1, 1, 0, [], 0) :: (1, .i2l, 1, 0, 0, [], 0) :: (2, .lconst 0, 1, 0, 0, [], 0) :: (3, .aload_n 0, 1, 0, 0, [], 0) :: (4, .getfield 211, 3, 12, 19, [(0, 0), (0, 1269)], 0) :: (7, .i2l, 1, 0, 0, [], 0) :: (8, .invokestatic 77, 3, 15, 3, [(0, 1), (0, 0), (0, 0), (0, 1368)], 0) :: (11, .ifCond .ne 6, 3, 10, 0, [], 0) :: (14, .ldc 87, 2, 0, 0, [(0, 1372)], (-1000000001)) :: (16, .ireturn, 1, 0, 0, [], 0) :: uX12_trim_10
set_option maxRecDepth 100000 in
theorem jX12_trim_10 : zj pX12_trim 10 = uX12_trim_10 := rfl
set_option maxRecDepth 100000 in
def uX10_startAnew_0 : List zEn := (0, .aload_n 0, 1, 0, 0, [], 0) :: (1, .iconst 0, 1, 0, 0, [], 0) :: (2, .putfield 19, 3, 10, 2, [(0, 0), (0, 365)], 0) :: (5, .aload_n 0, 1, 0, 0, [], 0) :: (6, .iconst 0, 1, 0, 0, [], 0) :: (7, .putfield 22, 3, 10, 3, [(0, 0), (0, 366)], 0) :: (10, .aload_n 0, 1, 0, 0, [], 0) :: (11, .iconst 0, 1, 0, 0, [], 0) :: (12, .putfield 25, 3, 10, 4, [(0, 0), (0, 367)], 0) :: (15, .aload_n 0, 1, 0, 0, [], 0) :: (16, .iconst 1, 1, 0, 0, [], 1) :: (17, .putfield 35, 3, 10, 7, [(0, 1), (0, 370)], 0) :: (20, .aload_n 0, 1, 0, 0, [], 0) :: (21, .iconst 0, 1, 0, 0, [], 0) :: (22, .putfield 41, 3, 10, 9, [(0, 0), (0, 372)], 0) :: (25, .aload_n 0, 1, 0, 0, [], 0) :: (26, .iconst 0, 1, 0, 0, [], 0) :: (27, .putfield 44, 3, 10, 10, [(0, 0), (0, 373)], 0) :: (30, .aload_n 0, 1, 0, 0, [], 0) :: (31, .iconst 0, 1, 0, 0, [], 0) :: (32, .putfield 47, 3, 10, 11, [(0, 0), (0, 374)], 0) :: (35, .aload_n 0, 1, 0, 0, [], 0) :: (36, .iconst 0, 1, 0, 0, [], 0) :: (37, .putfield 53, 3, 10, 13, [(0, 0), (0, 376)], 0) :: (40, .aload_n 0, 1, 0, 0, [], 0) :: (41, .iconst 0, 1, 0, 0, [], 0) :: (42, .putfield 56, 3, 10, 14, [(0, 0), (0, 377)], 0) :: (45, .return_, 1, 0, 0, [], 0) :: []
set_option maxRecDepth 100000 in
def uX10_shapeOf_17 : List zEn := (31, .ireturn, 1, 0, 0, [], 0) :: []
set_option maxRecDepth 100000 in
def uX10_shapeOf_16 : List zEn := (30, .iconst 3, 1, 0, 0, [], 3) :: uX10_shapeOf_17
set_option maxRecDepth 100000 in
def uX10_shapeOf_8 : List zEn := (14, .iload_n 0, 1, 0, 0, [], 0) :: (15, .bipush 48, 2, 0, 0, [], 48) :: (17, .if_icmp .lt 13, 3, 16, 0, [], 0) :: (20, .iload_n 0, 1, 0, 0, [], 0) :: (21, .bipush 57, 2, 0, 0, [], 57) :: (23, .if_icmp .gt 7, 3, 16, 0, [], 0) :: (26, .iconst 2, 1, 0, 0, [], 2) :: (27, .goto 4, 3, 17, 0, [], 0) :: uX10_shapeOf_16
set_option maxRecDepth 100000 in
def uX10_shapeOf_0 : List zEn := (0, .iload_n 0, 1, 0, 0, [], 0) :: (1, .bipush 97, 2, 0, 0, [], 97) :: (3, .if_icmp .lt 11, 3, 8, 0, [], 0) :: (6, .iload_n 0, 1, 0, 0, [], 0) :: (7, .bipush 122, 2, 0, 0, [], 122) :: (9, .if_icmp .gt 5, 3, 8, 0, [], 0) :: (12, .iconst 1, 1, 0, 0, [], 1) :: (13, .ireturn, 1, 0, 0, [], 0) :: uX10_shapeOf_8
set_option maxRecDepth 100000 in
theorem jX10_shapeOf_8 : zj pX10_shapeOf 8 = uX10_shapeOf_8 := rfl
set_option maxRecDepth 100000 in
theorem jX10_shapeOf_16 : zj pX10_shapeOf 16 = uX10_shapeOf_16 := rfl
set_option maxRecDepth 100000 in
theorem jX10_shapeOf_17 : zj pX10_shapeOf 17 = uX10_shapeOf_17 := rfl
set_option maxRecDepth 100000 in
def uX10_goOn_101 : List zEn := (194, .return_, 1, 0, 0, [], 0) :: []
set_option maxRecDepth 100000 in
def uX10_goOn_76 : List zEn := (143, .aload_n 0, 1, 0, 0, [], 0) :: (144, .getfield 25, 3, 10, 4, [(0, 0), (0, 367)], 0) :: (147, .iconst 3, 1, 0, 0, [], 3) :: (148, .if_icmp .eq 46, 3, 101, 0, [], 0) :: (151, .aload_n 0, 1, 0, 0, [], 0) :: (152, .getfield 22, 3, 10, 3, [(0, 0), (0, 366)], 0) :: (155, .aload_n 0, 1, 0, 0, [], 0) :: (156, .getfield 15, 3, 10, 1, [(0, 0), (0, 363)], 0) :: (159, .if_icmp .ge 35, 3, 101, 0, [], 0) :: (162, .aload_n 0, 1, 0, 0, [], 0) :: (163, .getfield 9, 3, 10, 0, [(0, 2), (0, 362)], 0) :: (166, .aload_n 0, 1, 0, 0, [], 0) :: (167, .getfield 22, 3, 10, 3, [(0, 0), (0, 366)], 0) :: (170, .iaload, 1, 0, 0, [], 0) :: (171, .invokestatic 91, 3, 139, 1, [(0, 1), (0, 0), (0, 0), (0, 822)], 0) :: (174, .aload_n 0, 1, 0, 0, [], 0) :: (175, .getfield 25, 3, 10, 4, [(0, 0), (0, 367)], 0) :: (178, .if_icmp .ne 16, 3, 101, 0, [], 0) :: (181, .aload_n 0, 1, 0, 0, [], 0) :: (182, .dup, 1, 0, 0, [], 0) :: (183, .getfield 22, 3, 10, 3, [(0, 0), (0, 366)], 0) :: (186, .iconst 1, 1, 0, 0, [], 1) :: (187, .iadd, 1, 0, 0, [], 0) :: (188, .putfield 22, 3, 10, 3, [(0, 0), (0, 366)], 0) :: (191, .goto (-48), 3, 75, 0, [], 0) :: uX10_goOn_101
set_option maxRecDepth 100000 in
def tX10_goOn_76 : List zEn := uX10_goOn_76
set_option maxRecDepth 100000 in
def uX10_goOn_75 : List zEn := (143, .nop, 0, 0, 0, [], 0) :: tX10_goOn_76
set_option maxRecDepth 100000 in
def uX10_goOn_61 : List zEn := (117, .aload_n 0, 1, 0, 0, [], 0) :: (118, .aload_n 0, 1, 0, 0, [], 0) :: (119, .getfield 9, 3, 10, 0, [(0, 2), (0, 362)], 0) :: (122, .aload_n 0, 1, 0, 0, [], 0) :: (123, .getfield 19, 3, 10, 2, [(0, 0), (0, 365)], 0) :: (126, .iaload, 1, 0, 0, [], 0) :: (127, .invokestatic 91, 3, 139, 1, [(0, 1), (0, 0), (0, 0), (0, 822)], 0) :: (130, .putfield 25, 3, 10, 4, [(0, 0), (0, 367)], 0) :: (133, .aload_n 0, 1, 0, 0, [], 0) :: (134, .dup, 1, 0, 0, [], 0) :: (135, .getfield 22, 3, 10, 3, [(0, 0), (0, 366)], 0) :: (138, .iconst 1, 1, 0, 0, [], 1) :: (139, .iadd, 1, 0, 0, [], 0) :: (140, .putfield 22, 3, 10, 3, [(0, 0), (0, 366)], 0) :: uX10_goOn_75
set_option maxRecDepth 100000 in
def uX10_goOn_47 : List zEn := (89, .putfield 28, 3, 10, 5, [(0, 1), (0, 368)], 0) :: (92, .aload_n 0, 1, 0, 0, [], 0) :: (93, .aload_n 0, 1, 0, 0, [], 0) :: (94, .getfield 19, 3, 10, 2, [(0, 0), (0, 365)], 0) :: (97, .putfield 22, 3, 10, 3, [(0, 0), (0, 366)], 0) :: (100, .aload_n 0, 1, 0, 0, [], 0) :: (101, .getfield 19, 3, 10, 2, [(0, 0), (0, 365)], 0) :: (104, .aload_n 0, 1, 0, 0, [], 0) :: (105, .getfield 15, 3, 10, 1, [(0, 0), (0, 363)], 0) :: (108, .if_icmp .lt 9, 3, 61, 0, [], 0) :: (111, .aload_n 0, 1, 0, 0, [], 0) :: (112, .iconst 0, 1, 0, 0, [], 0) :: (113, .putfield 25, 3, 10, 4, [(0, 0), (0, 367)], 0) :: (116, .return_, 1, 0, 0, [], 0) :: uX10_goOn_61
set_option maxRecDepth 100000 in
def uX10_goOn_46 : List zEn := (88, .iconst 0, 1, 0, 0, [], 0) :: uX10_goOn_47
set_option maxRecDepth 100000 in
def uX10_goOn_36 : List zEn := (68, .aload_n 0, 1, 0, 0, [], 0) :: (69, .iload_n 1, 1, 1, 0, [], 0) :: (70, .ifCond .eq 18, 3, 46, 0, [], 0) :: (73, .aload_n 0, 1, 0, 0, [], 0) :: (74, .getfield 19, 3, 10, 2, [(0, 0), (0, 365)], 0) :: (77, .aload_n 0, 1, 0, 0, [], 0) :: (78, .getfield 22, 3, 10, 3, [(0, 0), (0, 366)], 0) :: (81, .if_icmp .ne 7, 3, 46, 0, [], 0) :: (84, .iconst 1, 1, 0, 0, [], 1) :: (85, .goto 4, 3, 47, 0, [], 0) :: uX10_goOn_46
set_option maxRecDepth 100000 in
def uX10_goOn_17 : List zEn := (30, .aload_n 0, 1, 0, 0, [], 0) :: (31, .getfield 19, 3, 10, 2, [(0, 0), (0, 365)], 0) :: (34, .aload_n 0, 1, 0, 0, [], 0) :: (35, .getfield 15, 3, 10, 1, [(0, 0), (0, 363)], 0) :: (38, .if_icmp .ge 30, 3, 36, 0, [], 0) :: (41, .aload_n 0, 1, 0, 0, [], 0) :: (42, .getfield 9, 3, 10, 0, [(0, 2), (0, 362)], 0) :: (45, .aload_n 0, 1, 0, 0, [], 0) :: (46, .getfield 19, 3, 10, 2, [(0, 0), (0, 365)], 0) :: (49, .iaload, 1, 0, 0, [], 0) :: (50, .bipush 32, 2, 0, 0, [], 32) :: (52, .if_icmp .ne 16, 3, 36, 0, [], 0) :: (55, .aload_n 0, 1, 0, 0, [], 0) :: (56, .dup, 1, 0, 0, [], 0) :: (57, .getfield 19, 3, 10, 2, [(0, 0), (0, 365)], 0) :: (60, .iconst 1, 1, 0, 0, [], 1) :: (61, .iadd, 1, 0, 0, [], 0) :: (62, .putfield 19, 3, 10, 2, [(0, 0), (0, 365)], 0) :: (65, .goto (-35), 3, 16, 0, [], 0) :: uX10_goOn_36
set_option maxRecDepth 100000 in
def tX10_goOn_17 : List zEn := uX10_goOn_17
set_option maxRecDepth 100000 in
def uX10_goOn_16 : List zEn := (30, .nop, 0, 0, 0, [], 0) :: tX10_goOn_17
set_option maxRecDepth 100000 in
def uX10_goOn_11 : List zEn := (21, .istore_n 1, 1, 1, 0, [], 0) :: (22, .aload_n 0, 1, 0, 0, [], 0) :: (23, .aload_n 0, 1, 0, 0, [], 0) :: (24, .getfield 22, 3, 10, 3, [(0, 0), (0, 366)], 0) :: (27, .putfield 19, 3, 10, 2, [(0, 0), (0, 365)], 0) :: uX10_goOn_16
set_option maxRecDepth 100000 in
def uX10_goOn_10 : List zEn := (20, .iconst 0, 1, 0, 0, [], 0) :: uX10_goOn_11
set_option maxRecDepth 100000 in
def uX10_goOn_8 : List zEn := (16, .iconst 1, 1, 0, 0, [], 1) :: (17, .goto 4, 3, 11, 0, [], 0) :: uX10_goOn_10
set_option maxRecDepth 100000 in
def uX10_goOn_0 : List zEn := (0, .aload_n 0, 1, 0, 0, [], 0) :: (1, .getfield 25, 3, 10, 4, [(0, 0), (0, 367)], 0) :: (4, .iconst 1, 1, 0, 0, [], 1) :: (5, .if_icmp .eq 11, 3, 8, 0, [], 0) :: (8, .aload_n 0, 1, 0, 0, [], 0) :: (9, .getfield 25, 3, 10, 4, [(0, 0), (0, 367)], 0) :: (12, .iconst 2, 1, 0, 0, [], 2) :: (13, .if_icmp .ne 7, 3, 10, 0, [], 0) :: uX10_goOn_8
set_option maxRecDepth 100000 in
theorem jX10_goOn_8 : zj pX10_goOn 8 = uX10_goOn_8 := rfl
set_option maxRecDepth 100000 in
theorem jX10_goOn_10 : zj pX10_goOn 10 = uX10_goOn_10 := rfl
set_option maxRecDepth 100000 in
theorem jX10_goOn_11 : zj pX10_goOn 11 = uX10_goOn_11 := rfl
set_option maxRecDepth 100000 in
theorem jX10_goOn_16 : zj pX10_goOn 16 = uX10_goOn_16 := rfl
set_option maxRecDepth 100000 in
theorem jX10_goOn_36 : zj pX10_goOn 36 = uX10_goOn_36 := rfl
set_option maxRecDepth 100000 in
theorem jX10_goOn_46 : zj pX10_goOn 46 = uX10_goOn_46 := rfl
set_option maxRecDepth 100000 in
theorem jX10_goOn_47 : zj pX10_goOn 47 = uX10_goOn_47 := rfl
set_option maxRecDepth 100000 in
theorem jX10_goOn_61 : zj pX10_goOn 61 = uX10_goOn_61 := rfl
set_option maxRecDepth 100000 in
theorem jX10_goOn_75 : zj pX10_goOn 75 = uX10_goOn_75 := rfl
set_option maxRecDepth 100000 in
theorem jX10_goOn_101 : zj pX10_goOn 101 = uX10_goOn_101 := rfl
set_option maxRecDepth 100000 in
def uJ0_coder_7d493_6 : List zEn := (14, .ireturn, 1, 3, 0, [], 0) :: []
set_option maxRecDepth 100000 in
def uJ0_coder_7d493_5 : List zEn := (13, .iconst 1, 1, 0, 0, [], 1) :: uJ0_coder_7d493_6
set_option maxRecDepth 100000 in
def uJ0_coder_7d493_0 : List zEn := (0, .getstatic 38, 3, 1, 0, [(0, 842)], 0) :: (3, .ifCond .eq 10, 3, 5, 0, [], 0) :: (6, .aload_n 0, 1, 0, 0, [], 0) :: (7, .getfield 15, 3, 100, 1, [(0, 0), (0, 1811)], 0) :: (10, .goto 4, 3, 6, 0, [], 0) :: uJ0_coder_7d493_5
set_option maxRecDepth 100000 in
theorem jJ0_coder_7d493_5 : zj pJ0_coder_7d493 5 = uJ0_coder_7d493_5 := rfl
set_option maxRecDepth 100000 in
theorem jJ0_coder_7d493_6 : zj pJ0_coder_7d493 6 = uJ0_coder_7d493_6 := rfl
set_option maxRecDepth 100000 in
def uJ0_length_8abf5_0 : List zEn := (0, .aload_n 0, 1, 0, 0, [], 0) :: (1, .getfield 9, 3, 100, 0, [(0, 0), (0, 1810)], 0) :: (4, .arraylength, 1, 0, 0, [], 0) :: (5, .aload_n 0, 1, 0, 0, [], 0) :: (6, .invokevirtual 335, 3, 141, 1, [(0, 1), (0, 0), (0, 0), (0, 100), (0, 838)], 0) :: (9, .ishr, 1, 0, 0, [], 0) :: (10, .ireturn, 1, 0, 0, [], 0) :: []
set_option maxRecDepth 100000 in
def uJ0_isLatin1_aae02_8 : List zEn := (18, .ireturn, 1, 1, 0, [], 0) :: []
set_option maxRecDepth 100000 in
def uJ0_isLatin1_aae02_7 : List zEn := (17, .iconst 0, 1, 0, 0, [], 0) :: uJ0_isLatin1_aae02_8
set_option maxRecDepth 100000 in
def uJ0_isLatin1_aae02_0 : List zEn := (0, .getstatic 38, 3, 1, 0, [(0, 842)], 0) :: (3, .ifCond .eq 14, 3, 7, 0, [], 0) :: (6, .aload_n 0, 1, 0, 0, [], 0) :: (7, .getfield 15, 3, 100, 1, [(0, 0), (0, 1811)], 0) :: (10, .ifCond .ne 7, 3, 7, 0, [], 0) :: (13, .iconst 1, 1, 0, 0, [], 1) :: (14, .goto 4, 3, 8, 0, [], 0) :: uJ0_isLatin1_aae02_7
set_option maxRecDepth 100000 in
theorem jJ0_isLatin1_aae02_7 : zj pJ0_isLatin1_aae02 7 = uJ0_isLatin1_aae02_7 := rfl
set_option maxRecDepth 100000 in
theorem jJ0_isLatin1_aae02_8 : zj pJ0_isLatin1_aae02 8 = uJ0_isLatin1_aae02_8 := rfl
set_option maxRecDepth 100000 in
def uJ3_checkIndex_8e157_10 : List zEn := (16, .iload_n 0, 1, 0, 0, [], 0) :: (17, .ireturn, 1, 0, 0, [], 0) :: []
set_option maxRecDepth 100000 in
def uJ3_checkIndex_8e157_5 : List zEn := (9, .aload_n 2, 1, 2, 0, [], 0) :: (10, .iload_n 0, 1, 0, 0, [], 0) :: (11, .iload_n 1, 1, 1, 0, [], 0) :: (12, .invokestatic 95, 3, 0, 0, [(0, 0)], 0) :: (15, .athrow, 1, 0, 0, [(0, 0)], 0) :: uJ3_checkIndex_8e157_10
set_option maxRecDepth 100000 in
def uJ3_checkIndex_8e157_0 : List zEn := (0, .iload_n 0, 1, 0, 0, [], 0) :: (1, .ifCond .lt 8, 3, 5, 0, [], 0) :: (4, .iload_n 0, 1, 0, 0, [], 0) :: (5, .iload_n 1, 1, 1, 0, [], 0) :: (6, .if_icmp .lt 10, 3, 10, 0, [], 0) :: uJ3_checkIndex_8e157_5
set_option maxRecDepth 100000 in
theorem jJ3_checkIndex_8e157_5 : zj pJ3_checkIndex_8e157 5 = uJ3_checkIndex_8e157_5 := rfl
set_option maxRecDepth 100000 in
theorem jJ3_checkIndex_8e157_10 : zj pJ3_checkIndex_8e157 10 = uJ3_checkIndex_8e157_10 := rfl
set_option maxRecDepth 100000 in
def uJ0_checkIndex_df160_0 : List zEn := (0, .iload_n 0, 1, 0, 0, [], 0) :: (1, .iload_n 1, 1, 1, 0, [], 0) :: (2, .getstatic 1053, 3, 2, 0, [(0, 858)], 0) :: (5, .invokestatic 1059, 3, 144, 3, [(0, 1), (0, 0), (0, 0), (0, 860)], 0) :: (8, .pop, 1, 0, 0, [], 0) :: (9, .return_, 1, 0, 0, [], 0) :: []
set_option maxRecDepth 100000 in
def uJ1_charAt_3b067_0 : List zEn := (0, .iload_n 1, 1, 1, 0, [], 0) :: (1, .aload_n 0, 1, 0, 0, [], 0) :: (2, .arraylength, 1, 0, 0, [], 0) :: (3, .invokestatic 9, 3, 145, 2, [(0, 0), (0, 0), (0, 0), (0, 855)], 0) :: (6, .aload_n 0, 1, 0, 0, [], 0) :: (7, .iload_n 1, 1, 1, 0, [], 0) :: (8, .baload, 1, 0, 0, [], 0) :: (9, .sipush 255, 3, 0, 0, [], 255) :: (12, .iand, 1, 0, 0, [], 0) :: (13, .i2c, 1, 0, 0, [], 0) :: (14, .ireturn, 1, 2, 0, [], 0) :: []
set_option maxRecDepth 100000 in
def uJ0_charAt_5068e_8 : List zEn := (16, .aload_n 0, 1, 0, 0, [], 0) :: (17, .getfield 9, 3, 100, 0, [(0, 0), (0, 1810)], 0) :: (20, .iload_n 1, 1, 1, 0, [], 0) :: (21, .invokestatic 498, 3, 0, 0, [(0, 0)], 0) :: (24, .ireturn, 1, 2, 0, [], 0) :: []
set_option maxRecDepth 100000 in
def uJ0_charAt_5068e_0 : List zEn := (0, .aload_n 0, 1, 0, 0, [], 0) :: (1, .invokevirtual 492, 3, 143, 1, [(0, 1), (0, 0), (0, 0), (0, 100), (0, 848)], 0) :: (4, .ifCond .eq 12, 3, 8, 0, [], 0) :: (7, .aload_n 0, 1, 0, 0, [], 0) :: (8, .getfield 9, 3, 100, 0, [(0, 0), (0, 1810)], 0) :: (11, .iload_n 1, 1, 1, 0, [], 0) :: (12, .invokestatic 495, 3, 146, 2, [(0, 1), (0, 0), (0, 0), (0, 852)], 0) :: (15, .ireturn, 1, 2, 0, [], 0) :: uJ0_charAt_5068e_8
set_option maxRecDepth 100000 in
theorem jJ0_charAt_5068e_8 : zj pJ0_charAt_5068e 8 = uJ0_charAt_5068e_8 := rfl
set_option maxRecDepth 100000 in
def uX10_isWord_32 : List zEn := (55, .iconst 1, 1, 0, 0, [], 1) :: (56, .ireturn, 1, 1, 0, [], 0) :: []
set_option maxRecDepth 100000 in
def uX10_isWord_30 : List zEn := (49, .iinc 2 1, 3, 2, 0, [], 1) :: (52, .goto (-32), 3, 12, 0, [], 0) :: uX10_isWord_32
set_option maxRecDepth 100000 in
def uX10_isWord_13 : List zEn := (20, .iload_n 2, 1, 2, 0, [], 0) :: (21, .aload_n 1, 1, 1, 0, [], 0) :: (22, .invokevirtual 105, 3, 142, 1, [(0, 1), (0, 0), (0, 0), (0, 100), (0, 834)], 0) :: (25, .if_icmp .ge 30, 3, 32, 0, [], 0) :: (28, .aload_n 0, 1, 0, 0, [], 0) :: (29, .getfield 9, 3, 10, 0, [(0, 2), (0, 362)], 0) :: (32, .aload_n 0, 1, 0, 0, [], 0) :: (33, .getfield 19, 3, 10, 2, [(0, 0), (0, 365)], 0) :: (36, .iload_n 2, 1, 2, 0, [], 0) :: (37, .iadd, 1, 0, 0, [], 0) :: (38, .iaload, 1, 0, 0, [], 0) :: (39, .aload_n 1, 1, 1, 0, [], 0) :: (40, .iload_n 2, 1, 2, 0, [], 0) :: (41, .invokevirtual 109, 3, 147, 2, [(0, 1), (0, 0), (0, 0), (0, 100), (0, 844)], 0) :: (44, .if_icmp .eq 5, 3, 30, 0, [], 0) :: (47, .iconst 0, 1, 0, 0, [], 0) :: (48, .ireturn, 1, 1, 0, [], 0) :: uX10_isWord_30
set_option maxRecDepth 100000 in
def tX10_isWord_13 : List zEn := uX10_isWord_13
set_option maxRecDepth 100000 in
def uX10_isWord_12 : List zEn := (20, .nop, 0, 0, 0, [], 0) :: tX10_isWord_13
set_option maxRecDepth 100000 in
def uX10_isWord_10 : List zEn := (18, .iconst 0, 1, 0, 0, [], 0) :: (19, .istore_n 2, 1, 2, 0, [], 0) :: uX10_isWord_12
set_option maxRecDepth 100000 in
def uX10_isWord_0 : List zEn := (0, .aload_n 0, 1, 0, 0, [], 0) :: (1, .getfield 22, 3, 10, 3, [(0, 0), (0, 366)], 0) :: (4, .aload_n 0, 1, 0, 0, [], 0) :: (5, .getfield 19, 3, 10, 2, [(0, 0), (0, 365)], 0) :: (8, .isub, 1, 0, 0, [], 0) :: (9, .aload_n 1, 1, 1, 0, [], 0) :: (10, .invokevirtual 105, 3, 142, 1, [(0, 1), (0, 0), (0, 0), (0, 100), (0, 834)], 0) :: (13, .if_icmp .eq 5, 3, 10, 0, [], 0) :: (16, .iconst 0, 1, 0, 0, [], 0) :: (17, .ireturn, 1, 1, 0, [], 0) :: uX10_isWord_10
set_option maxRecDepth 100000 in
theorem jX10_isWord_10 : zj pX10_isWord 10 = uX10_isWord_10 := rfl
set_option maxRecDepth 100000 in
theorem jX10_isWord_12 : zj pX10_isWord 12 = uX10_isWord_12 := rfl
set_option maxRecDepth 100000 in
theorem jX10_isWord_30 : zj pX10_isWord 30 = uX10_isWord_30 := rfl
set_option maxRecDepth 100000 in
theorem jX10_isWord_32 : zj pX10_isWord 32 = uX10_isWord_32 := rfl
set_option maxRecDepth 100000 in
def uX10_keyHere_19 : List zEn := (36, .ireturn, 1, 0, 0, [], 0) :: []
set_option maxRecDepth 100000 in
def uX10_keyHere_18 : List zEn := (35, .iconst (-1), 1, 0, 0, [], (-1)) :: uX10_keyHere_19
set_option maxRecDepth 100000 in
def uX10_keyHere_12 : List zEn := (22, .aload_n 0, 1, 0, 0, [], 0) :: (23, .ldc 103, 2, 3, 0, [(0, 883)], 0) :: (25, .invokevirtual 97, 3, 148, 2, [(0, 1), (0, 0), (0, 0), (0, 10), (0, 830)], 0) :: (28, .ifCond .eq 7, 3, 18, 0, [], 0) :: (31, .iconst 2, 1, 0, 0, [], 2) :: (32, .goto 4, 3, 19, 0, [], 0) :: uX10_keyHere_18
set_option maxRecDepth 100000 in
def uX10_keyHere_6 : List zEn := (11, .aload_n 0, 1, 0, 0, [], 0) :: (12, .ldc 101, 2, 2, 0, [(0, 882)], 0) :: (14, .invokevirtual 97, 3, 148, 2, [(0, 1), (0, 0), (0, 0), (0, 10), (0, 830)], 0) :: (17, .ifCond .eq 5, 3, 12, 0, [], 0) :: (20, .iconst 1, 1, 0, 0, [], 1) :: (21, .ireturn, 1, 0, 0, [], 0) :: uX10_keyHere_12
set_option maxRecDepth 100000 in
def uX10_keyHere_0 : List zEn := (0, .aload_n 0, 1, 0, 0, [], 0) :: (1, .ldc 95, 2, 1, 0, [(0, 829)], 0) :: (3, .invokevirtual 97, 3, 148, 2, [(0, 1), (0, 0), (0, 0), (0, 10), (0, 830)], 0) :: (6, .ifCond .eq 5, 3, 6, 0, [], 0) :: (9, .iconst 0, 1, 0, 0, [], 0) :: (10, .ireturn, 1, 0, 0, [], 0) :: uX10_keyHere_6
set_option maxRecDepth 100000 in
theorem jX10_keyHere_6 : zj pX10_keyHere 6 = uX10_keyHere_6 := rfl
set_option maxRecDepth 100000 in
theorem jX10_keyHere_12 : zj pX10_keyHere 12 = uX10_keyHere_12 := rfl
set_option maxRecDepth 100000 in
theorem jX10_keyHere_18 : zj pX10_keyHere 18 = uX10_keyHere_18 := rfl
set_option maxRecDepth 100000 in
theorem jX10_keyHere_19 : zj pX10_keyHere 19 = uX10_keyHere_19 := rfl
set_option maxRecDepth 100000 in
def uX10_addStep_16 : List zEn := (29, .return_, 1, 0, 0, [], 0) :: []
set_option maxRecDepth 100000 in
def uX10_addStep_0 : List zEn := (0, .aload_n 0, 1, 0, 0, [], 0) :: (1, .getfield 53, 3, 10, 13, [(0, 0), (0, 376)], 0) :: (4, .bipush 96, 2, 0, 0, [], 96) :: (6, .if_icmp .ge 23, 3, 16, 0, [], 0) :: (9, .aload_n 0, 1, 0, 0, [], 0) :: (10, .getfield 50, 3, 10, 12, [(0, 2), (0, 375)], 0) :: (13, .aload_n 0, 1, 0, 0, [], 0) :: (14, .getfield 53, 3, 10, 13, [(0, 0), (0, 376)], 0) :: (17, .iload_n 1, 1, 1, 0, [], 0) :: (18, .iastore, 1, 0, 0, [], 0) :: (19, .aload_n 0, 1, 0, 0, [], 0) :: (20, .dup, 1, 0, 0, [], 0) :: (21, .getfield 53, 3, 10, 13, [(0, 0), (0, 376)], 0) :: (24, .iconst 1, 1, 0, 0, [], 1) :: (25, .iadd, 1, 0, 0, [], 0) :: (26, .putfield 53, 3, 10, 13, [(0, 0), (0, 376)], 0) :: uX10_addStep_16
set_option maxRecDepth 100000 in
theorem jX10_addStep_16 : zj pX10_addStep 16 = uX10_addStep_16 := rfl
set_option maxRecDepth 100000 in
def uX10_endPiece_34 : List zEn := (59, .return_, 1, 0, 0, [], 0) :: []
set_option maxRecDepth 100000 in
def uX10_endPiece_7 : List zEn := (10, .iload_n 1, 1, 1, 0, [], 0) :: (11, .ifCond .le 48, 3, 34, 0, [], 0) :: (14, .aload_n 0, 1, 0, 0, [], 0) :: (15, .getfield 38, 3, 10, 8, [(0, 2), (0, 371)], 0) :: (18, .iload_n 1, 1, 1, 0, [], 0) :: (19, .iconst 1, 1, 0, 0, [], 1) :: (20, .isub, 1, 0, 0, [], 0) :: (21, .iaload, 1, 0, 0, [], 0) :: (22, .bipush 33, 2, 0, 0, [], 33) :: (24, .if_icmp .ne 35, 3, 34, 0, [], 0) :: (27, .aload_n 0, 1, 0, 0, [], 0) :: (28, .bipush (-33), 2, 0, 0, [], (-33)) :: (30, .invokevirtual 141, 3, 150, 2, [(0, 0), (0, 0), (0, 0), (0, 10), (0, 896)], 0) :: (33, .aload_n 0, 1, 0, 0, [], 0) :: (34, .dup, 1, 0, 0, [], 0) :: (35, .getfield 47, 3, 10, 11, [(0, 0), (0, 374)], 0) :: (38, .iconst 1, 1, 0, 0, [], 1) :: (39, .isub, 1, 0, 0, [], 0) :: (40, .putfield 47, 3, 10, 11, [(0, 0), (0, 374)], 0) :: (43, .aload_n 0, 1, 0, 0, [], 0) :: (44, .dup, 1, 0, 0, [], 0) :: (45, .getfield 41, 3, 10, 9, [(0, 0), (0, 372)], 0) :: (48, .iconst 1, 1, 0, 0, [], 1) :: (49, .isub, 1, 0, 0, [], 0) :: (50, .putfield 41, 3, 10, 9, [(0, 0), (0, 372)], 0) :: (53, .iinc 1 (-1), 3, 1, 0, [], (-1)) :: (56, .goto (-46), 3, 6, 0, [], 0) :: uX10_endPiece_34
set_option maxRecDepth 100000 in
def tX10_endPiece_7 : List zEn := uX10_endPiece_7
set_option maxRecDepth 100000 in
def uX10_endPiece_6 : List zEn := (10, .nop, 0, 0, 0, [], 0) :: tX10_endPiece_7
set_option maxRecDepth 100000 in
def uX10_endPiece_0 : List zEn := (0, .aload_n 0, 1, 0, 0, [], 0) :: (1, .iconst 0, 1, 0, 0, [], 0) :: (2, .putfield 35, 3, 10, 7, [(0, 1), (0, 370)], 0) :: (5, .aload_n 0, 1, 0, 0, [], 0) :: (6, .getfield 41, 3, 10, 9, [(0, 0), (0, 372)], 0) :: (9, .istore_n 1, 1, 1, 0, [], 0) :: uX10_endPiece_6
set_option maxRecDepth 100000 in
theorem jX10_endPiece_6 : zj pX10_endPiece 6 = uX10_endPiece_6 := rfl
set_option maxRecDepth 100000 in
theorem jX10_endPiece_34 : zj pX10_endPiece 34 = uX10_endPiece_34 := rfl
set_option maxRecDepth 100000 in
def uX10_takeLeaf_0 : List zEn := (0, .aload_n 0, 1, 0, 0, [], 0) :: (1, .iload_n 1, 1, 1, 0, [], 0) :: (2, .invokevirtual 141, 3, 150, 2, [(0, 0), (0, 0), (0, 0), (0, 10), (0, 896)], 0) :: (5, .aload_n 0, 1, 0, 0, [], 0) :: (6, .dup, 1, 0, 0, [], 0) :: (7, .getfield 56, 3, 10, 14, [(0, 0), (0, 377)], 0) :: (10, .iconst 1, 1, 0, 0, [], 1) :: (11, .iadd, 1, 0, 0, [], 0) :: (12, .putfield 56, 3, 10, 14, [(0, 0), (0, 377)], 0) :: (15, .aload_n 0, 1, 0, 0, [], 0) :: (16, .invokevirtual 144, 3, 151, 1, [(0, 0), (0, 0), (0, 0), (0, 10), (0, 900)], 0) :: (19, .return_, 1, 0, 0, [], 0) :: []
set_option maxRecDepth 100000 in
def uX10_takesNumber_32 : List zEn := (51, .aload_n 0, 1, 0, 0, [], 0) :: (52, .iload_n 1, 1, 1, 0, [], 0) :: (53, .invokevirtual 125, 3, 152, 2, [(0, 0), (0, 0), (0, 0), (0, 10), (0, 892)], 0) :: (56, .iconst 1, 1, 0, 0, [], 1) :: (57, .ireturn, 1, 1, 0, [], 0) :: []
set_option maxRecDepth 100000 in
def uX10_takesNumber_15 : List zEn := (22, .iload_n 2, 1, 2, 0, [], 0) :: (23, .aload_n 0, 1, 0, 0, [], 0) :: (24, .getfield 22, 3, 10, 3, [(0, 0), (0, 366)], 0) :: (27, .if_icmp .ge 24, 3, 32, 0, [], 0) :: (30, .bipush 10, 2, 0, 0, [], 10) :: (32, .iload_n 1, 1, 1, 0, [], 0) :: (33, .imul, 1, 0, 0, [], 0) :: (34, .aload_n 0, 1, 0, 0, [], 0) :: (35, .getfield 9, 3, 10, 0, [(0, 2), (0, 362)], 0) :: (38, .iload_n 2, 1, 2, 0, [], 0) :: (39, .iaload, 1, 0, 0, [], 0) :: (40, .iadd, 1, 0, 0, [], 0) :: (41, .bipush 48, 2, 0, 0, [], 48) :: (43, .isub, 1, 0, 0, [], 0) :: (44, .istore_n 1, 1, 1, 0, [], 0) :: (45, .iinc 2 1, 3, 2, 0, [], 1) :: (48, .goto (-26), 3, 14, 0, [], 0) :: uX10_takesNumber_32
set_option maxRecDepth 100000 in
def tX10_takesNumber_15 : List zEn := uX10_takesNumber_15
set_option maxRecDepth 100000 in
def uX10_takesNumber_14 : List zEn := (22, .nop, 0, 0, 0, [], 0) :: tX10_takesNumber_15
set_option maxRecDepth 100000 in
def uX10_takesNumber_9 : List zEn := (15, .iconst 0, 1, 0, 0, [], 0) :: (16, .istore_n 1, 1, 1, 0, [], 0) :: (17, .aload_n 0, 1, 0, 0, [], 0) :: (18, .getfield 19, 3, 10, 2, [(0, 0), (0, 365)], 0) :: (21, .istore_n 2, 1, 2, 0, [], 0) :: uX10_takesNumber_14
set_option maxRecDepth 100000 in
def uX10_takesNumber_0 : List zEn := (0, .aload_n 0, 1, 0, 0, [], 0) :: (1, .getfield 22, 3, 10, 3, [(0, 0), (0, 366)], 0) :: (4, .aload_n 0, 1, 0, 0, [], 0) :: (5, .getfield 19, 3, 10, 2, [(0, 0), (0, 365)], 0) :: (8, .isub, 1, 0, 0, [], 0) :: (9, .iconst 4, 1, 0, 0, [], 4) :: (10, .if_icmp .le 5, 3, 9, 0, [], 0) :: (13, .iconst 0, 1, 0, 0, [], 0) :: (14, .ireturn, 1, 1, 0, [], 0) :: uX10_takesNumber_9
set_option maxRecDepth 100000 in
theorem jX10_takesNumber_9 : zj pX10_takesNumber 9 = uX10_takesNumber_9 := rfl
set_option maxRecDepth 100000 in
theorem jX10_takesNumber_14 : zj pX10_takesNumber 14 = uX10_takesNumber_14 := rfl
set_option maxRecDepth 100000 in
theorem jX10_takesNumber_32 : zj pX10_takesNumber 32 = uX10_takesNumber_32 := rfl
set_option maxRecDepth 100000 in
def uJ1_canEncode_9a6ad_8 : List zEn := (16, .ireturn, 1, 1, 0, [], 0) :: []
set_option maxRecDepth 100000 in
def uJ1_canEncode_9a6ad_7 : List zEn := (15, .iconst 0, 1, 0, 0, [], 0) :: uJ1_canEncode_9a6ad_8
set_option maxRecDepth 100000 in
def uJ1_canEncode_9a6ad_0 : List zEn := (0, .iload_n 0, 1, 0, 0, [], 0) :: (1, .ifCond .lt 14, 3, 7, 0, [], 0) :: (4, .iload_n 0, 1, 0, 0, [], 0) :: (5, .sipush 255, 3, 0, 0, [], 255) :: (8, .if_icmp .gt 7, 3, 7, 0, [], 0) :: (11, .iconst 1, 1, 0, 0, [], 1) :: (12, .goto 4, 3, 8, 0, [], 0) :: uJ1_canEncode_9a6ad_7
set_option maxRecDepth 100000 in
theorem jJ1_canEncode_9a6ad_7 : zj pJ1_canEncode_9a6ad 7 = uJ1_canEncode_9a6ad_7 := rfl
set_option maxRecDepth 100000 in
theorem jJ1_canEncode_9a6ad_8 : zj pJ1_canEncode_9a6ad 8 = uJ1_canEncode_9a6ad_8 := rfl
set_option maxRecDepth 100000 in
def uJ1_indexOfChar_4cfef_18 : List zEn := (31, .iconst (-1), 1, 0, 0, [], (-1)) :: (32, .ireturn, 1, 0, 0, [], 0) :: []
set_option maxRecDepth 100000 in
def uJ1_indexOfChar_4cfef_16 : List zEn := (25, .iinc 5 1, 3, 5, 0, [], 1) :: (28, .goto (-21), 3, 5, 0, [], 0) :: uJ1_indexOfChar_4cfef_18
set_option maxRecDepth 100000 in
def uJ1_indexOfChar_4cfef_6 : List zEn := (7, .iload 5, 2, 5, 0, [], 0) :: (9, .iload_n 3, 1, 3, 0, [], 0) :: (10, .if_icmp .ge 21, 3, 18, 0, [], 0) :: (13, .aload_n 0, 1, 0, 0, [], 0) :: (14, .iload 5, 2, 5, 0, [], 0) :: (16, .baload, 1, 0, 0, [], 0) :: (17, .iload 4, 2, 4, 0, [], 0) :: (19, .if_icmp .ne 6, 3, 16, 0, [], 0) :: (22, .iload 5, 2, 5, 0, [], 0) :: (24, .ireturn, 1, 0, 0, [], 0) :: uJ1_indexOfChar_4cfef_16
set_option maxRecDepth 100000 in
def tJ1_indexOfChar_4cfef_6 : List zEn := uJ1_indexOfChar_4cfef_6
set_option maxRecDepth 100000 in
def uJ1_indexOfChar_4cfef_5 : List zEn := (7, .nop, 0, 0, 0, [], 0) :: tJ1_indexOfChar_4cfef_6
set_option maxRecDepth 100000 in
def uJ1_indexOfChar_4cfef_0 : List zEn := (0, .iload_n 1, 1, 1, 0, [], 0) :: (1, .i2b, 1, 0, 0, [], 0) :: (2, .istore 4, 2, 4, 0, [], 0) :: (4, .iload_n 2, 1, 2, 0, [], 0) :: (5, .istore 5, 2, 5, 0, [], 0) :: uJ1_indexOfChar_4cfef_5
set_option maxRecDepth 100000 in
theorem jJ1_indexOfChar_4cfef_5 : zj pJ1_indexOfChar_4cfef 5 = uJ1_indexOfChar_4cfef_5 := rfl
set_option maxRecDepth 100000 in
theorem jJ1_indexOfChar_4cfef_16 : zj pJ1_indexOfChar_4cfef 16 = uJ1_indexOfChar_4cfef_16 := rfl
set_option maxRecDepth 100000 in
theorem jJ1_indexOfChar_4cfef_18 : zj pJ1_indexOfChar_4cfef 18 = uJ1_indexOfChar_4cfef_18 := rfl
set_option maxRecDepth 100000 in
def uJ1_indexOf_4cfef_19 : List zEn := (29, .aload_n 0, 1, 0, 0, [], 0) :: (30, .iload_n 1, 1, 1, 0, [], 0) :: (31, .iload_n 2, 1, 2, 0, [], 0) :: (32, .iload_n 3, 1, 3, 0, [], 0) :: (33, .invokestatic 95, 3, 155, 4, [(0, 1), (0, 0), (0, 0), (0, 930)], 0) :: (36, .ireturn, 1, 0, 0, [], 0) :: []
set_option maxRecDepth 100000 in
def uJ1_indexOf_4cfef_5 : List zEn := (9, .iload_n 2, 1, 2, 0, [], 0) :: (10, .iconst 0, 1, 0, 0, [], 0) :: (11, .invokestatic 92, 3, 19, 2, [(0, 1), (0, 0), (0, 0), (0, 928)], 0) :: (14, .istore_n 2, 1, 2, 0, [], 0) :: (15, .iload_n 3, 1, 3, 0, [], 0) :: (16, .aload_n 0, 1, 0, 0, [], 0) :: (17, .arraylength, 1, 0, 0, [], 0) :: (18, .invokestatic 38, 3, 94, 2, [(0, 1), (0, 0), (0, 0), (0, 929)], 0) :: (21, .istore_n 3, 1, 3, 0, [], 0) :: (22, .iload_n 2, 1, 2, 0, [], 0) :: (23, .iload_n 3, 1, 3, 0, [], 0) :: (24, .if_icmp .lt 5, 3, 19, 0, [], 0) :: (27, .iconst (-1), 1, 0, 0, [], (-1)) :: (28, .ireturn, 1, 0, 0, [], 0) :: uJ1_indexOf_4cfef_19
set_option maxRecDepth 100000 in
def uJ1_indexOf_4cfef_0 : List zEn := (0, .iload_n 1, 1, 1, 0, [], 0) :: (1, .invokestatic 88, 3, 154, 1, [(0, 1), (0, 0), (0, 0), (0, 925)], 0) :: (4, .ifCond .ne 5, 3, 5, 0, [], 0) :: (7, .iconst (-1), 1, 0, 0, [], (-1)) :: (8, .ireturn, 1, 0, 0, [], 0) :: uJ1_indexOf_4cfef_5
set_option maxRecDepth 100000 in
theorem jJ1_indexOf_4cfef_5 : zj pJ1_indexOf_4cfef 5 = uJ1_indexOf_4cfef_5 := rfl
set_option maxRecDepth 100000 in
theorem jJ1_indexOf_4cfef_19 : zj pJ1_indexOf_4cfef 19 = uJ1_indexOf_4cfef_19 := rfl
set_option maxRecDepth 100000 in
def uJ0_indexOf_7cf53_18 : List zEn := (36, .ireturn, 1, 0, 0, [], 0) :: []
set_option maxRecDepth 100000 in
def uJ0_indexOf_7cf53_11 : List zEn := (23, .aload_n 0, 1, 0, 0, [], 0) :: (24, .getfield 9, 3, 100, 0, [(0, 0), (0, 1810)], 0) :: (27, .iload_n 1, 1, 1, 0, [], 0) :: (28, .iload_n 2, 1, 2, 0, [], 0) :: (29, .aload_n 0, 1, 0, 0, [], 0) :: (30, .invokevirtual 505, 3, 142, 1, [(0, 1), (0, 0), (0, 0), (0, 100), (0, 921)], 0) :: (33, .invokestatic 640, 3, 0, 0, [(0, 0)], 0) :: uJ0_indexOf_7cf53_18
set_option maxRecDepth 100000 in
def uJ0_indexOf_7cf53_0 : List zEn := (0, .aload_n 0, 1, 0, 0, [], 0) :: (1, .invokevirtual 492, 3, 143, 1, [(0, 1), (0, 0), (0, 0), (0, 100), (0, 848)], 0) :: (4, .ifCond .eq 19, 3, 11, 0, [], 0) :: (7, .aload_n 0, 1, 0, 0, [], 0) :: (8, .getfield 9, 3, 100, 0, [(0, 0), (0, 1810)], 0) :: (11, .iload_n 1, 1, 1, 0, [], 0) :: (12, .iload_n 2, 1, 2, 0, [], 0) :: (13, .aload_n 0, 1, 0, 0, [], 0) :: (14, .invokevirtual 505, 3, 142, 1, [(0, 1), (0, 0), (0, 0), (0, 100), (0, 921)], 0) :: (17, .invokestatic 637, 3, 156, 4, [(0, 1), (0, 0), (0, 0), (0, 922)], 0) :: (20, .goto 16, 3, 18, 0, [], 0) :: uJ0_indexOf_7cf53_11
set_option maxRecDepth 100000 in
theorem jJ0_indexOf_7cf53_11 : zj pJ0_indexOf_7cf53 11 = uJ0_indexOf_7cf53_11 := rfl
set_option maxRecDepth 100000 in
theorem jJ0_indexOf_7cf53_18 : zj pJ0_indexOf_7cf53 18 = uJ0_indexOf_7cf53_18 := rfl
set_option maxRecDepth 100000 in
def uJ0_indexOf_0f7a4_0 : List zEn := (0, .aload_n 0, 1, 0, 0, [], 0) :: (1, .iload_n 1, 1, 1, 0, [], 0) :: (2, .iconst 0, 1, 0, 0, [], 0) :: (3, .invokevirtual 633, 3, 157, 3, [(0, 1), (0, 0), (0, 0), (0, 100), (0, 917)], 0) :: (6, .ireturn, 1, 0, 0, [], 0) :: []
set_option maxRecDepth 100000 in
def uX10_isNameHere_29 : List zEn := (79, .ireturn, 1, 1, 0, [], 0) :: []
set_option maxRecDepth 100000 in
def uX10_isNameHere_28 : List zEn := (78, .iconst 0, 1, 0, 0, [], 0) :: uX10_isNameHere_29
set_option maxRecDepth 100000 in
def uX10_isNameHere_21 : List zEn := (64, .ldc 139, 2, 6, 0, [(0, 969)], 0) :: (66, .iload_n 1, 1, 1, 0, [], 0) :: (67, .i2c, 1, 0, 0, [], 0) :: (68, .invokevirtual 134, 3, 158, 2, [(0, 1), (0, 0), (0, 0), (0, 100), (0, 913)], 0) :: (71, .ifCond .lt 7, 3, 28, 0, [], 0) :: (74, .iconst 1, 1, 0, 0, [], 1) :: (75, .goto 4, 3, 29, 0, [], 0) :: uX10_isNameHere_28
set_option maxRecDepth 100000 in
def uX10_isNameHere_20 : List zEn := (63, .ireturn, 1, 1, 0, [], 0) :: uX10_isNameHere_21
set_option maxRecDepth 100000 in
def uX10_isNameHere_19 : List zEn := (62, .iconst 0, 1, 0, 0, [], 0) :: uX10_isNameHere_20
set_option maxRecDepth 100000 in
def uX10_isNameHere_12 : List zEn := (48, .ldc 137, 2, 5, 0, [(0, 968)], 0) :: (50, .iload_n 1, 1, 1, 0, [], 0) :: (51, .i2c, 1, 0, 0, [], 0) :: (52, .invokevirtual 134, 3, 158, 2, [(0, 1), (0, 0), (0, 0), (0, 100), (0, 913)], 0) :: (55, .ifCond .lt 7, 3, 19, 0, [], 0) :: (58, .iconst 1, 1, 0, 0, [], 1) :: (59, .goto 4, 3, 20, 0, [], 0) :: uX10_isNameHere_19
set_option maxRecDepth 100000 in
def uX10_isNameHere_11 : List zEn := (47, .ireturn, 1, 1, 0, [], 0) :: uX10_isNameHere_12
set_option maxRecDepth 100000 in
def uX10_isNameHere_10 : List zEn := (46, .iconst 0, 1, 0, 0, [], 0) :: uX10_isNameHere_11
set_option maxRecDepth 100000 in
def uX10_isNameHere_3 : List zEn := (32, .ldc 132, 2, 4, 0, [(0, 912)], 0) :: (34, .iload_n 1, 1, 1, 0, [], 0) :: (35, .i2c, 1, 0, 0, [], 0) :: (36, .invokevirtual 134, 3, 158, 2, [(0, 1), (0, 0), (0, 0), (0, 100), (0, 913)], 0) :: (39, .ifCond .lt 7, 3, 10, 0, [], 0) :: (42, .iconst 1, 1, 0, 0, [], 1) :: (43, .goto 4, 3, 11, 0, [], 0) :: uX10_isNameHere_10
set_option maxRecDepth 100000 in
def uX10_isNameHere_0 : List zEn := (0, .aload_n 0, 1, 0, 0, [], 0) :: (1, .getfield 32, 3, 10, 6, [(0, 0), (0, 369)], 0) :: (4, .lookupswitch 60 #[(0, 28), (1, 44)], 28, 21, 0, [(0, 3), (1, 12)], 0) :: uX10_isNameHere_3
set_option maxRecDepth 100000 in
theorem jX10_isNameHere_3 : zj pX10_isNameHere 3 = uX10_isNameHere_3 := rfl
set_option maxRecDepth 100000 in
theorem jX10_isNameHere_10 : zj pX10_isNameHere 10 = uX10_isNameHere_10 := rfl
set_option maxRecDepth 100000 in
theorem jX10_isNameHere_11 : zj pX10_isNameHere 11 = uX10_isNameHere_11 := rfl
set_option maxRecDepth 100000 in
theorem jX10_isNameHere_12 : zj pX10_isNameHere 12 = uX10_isNameHere_12 := rfl
set_option maxRecDepth 100000 in
theorem jX10_isNameHere_19 : zj pX10_isNameHere 19 = uX10_isNameHere_19 := rfl
set_option maxRecDepth 100000 in
theorem jX10_isNameHere_20 : zj pX10_isNameHere 20 = uX10_isNameHere_20 := rfl
set_option maxRecDepth 100000 in
theorem jX10_isNameHere_21 : zj pX10_isNameHere 21 = uX10_isNameHere_21 := rfl
set_option maxRecDepth 100000 in
theorem jX10_isNameHere_28 : zj pX10_isNameHere 28 = uX10_isNameHere_28 := rfl
set_option maxRecDepth 100000 in
theorem jX10_isNameHere_29 : zj pX10_isNameHere 29 = uX10_isNameHere_29 := rfl
set_option maxRecDepth 100000 in
def uX10_takesName_17 : List zEn := (31, .aload_n 0, 1, 0, 0, [], 0) :: (32, .aload_n 0, 1, 0, 0, [], 0) :: (33, .getfield 9, 3, 10, 0, [(0, 2), (0, 362)], 0) :: (36, .aload_n 0, 1, 0, 0, [], 0) :: (37, .getfield 19, 3, 10, 2, [(0, 0), (0, 365)], 0) :: (40, .iaload, 1, 0, 0, [], 0) :: (41, .ineg, 1, 0, 0, [], 0) :: (42, .invokevirtual 125, 3, 152, 2, [(0, 0), (0, 0), (0, 0), (0, 10), (0, 892)], 0) :: (45, .iconst 1, 1, 0, 0, [], 1) :: (46, .ireturn, 1, 1, 0, [], 0) :: []
set_option maxRecDepth 100000 in
def uX10_takesName_15 : List zEn := (29, .iconst 0, 1, 0, 0, [], 0) :: (30, .ireturn, 1, 1, 0, [], 0) :: uX10_takesName_17
set_option maxRecDepth 100000 in
def uX10_takesName_0 : List zEn := (0, .aload_n 0, 1, 0, 0, [], 0) :: (1, .getfield 22, 3, 10, 3, [(0, 0), (0, 366)], 0) :: (4, .aload_n 0, 1, 0, 0, [], 0) :: (5, .getfield 19, 3, 10, 2, [(0, 0), (0, 365)], 0) :: (8, .isub, 1, 0, 0, [], 0) :: (9, .iconst 1, 1, 0, 0, [], 1) :: (10, .if_icmp .ne 19, 3, 15, 0, [], 0) :: (13, .aload_n 0, 1, 0, 0, [], 0) :: (14, .aload_n 0, 1, 0, 0, [], 0) :: (15, .getfield 9, 3, 10, 0, [(0, 2), (0, 362)], 0) :: (18, .aload_n 0, 1, 0, 0, [], 0) :: (19, .getfield 19, 3, 10, 2, [(0, 0), (0, 365)], 0) :: (22, .iaload, 1, 0, 0, [], 0) :: (23, .invokevirtual 128, 3, 159, 2, [(0, 1), (0, 0), (0, 0), (0, 10), (0, 908)], 0) :: (26, .ifCond .ne 5, 3, 17, 0, [], 0) :: uX10_takesName_15
set_option maxRecDepth 100000 in
theorem jX10_takesName_15 : zj pX10_takesName 15 = uX10_takesName_15 := rfl
set_option maxRecDepth 100000 in
theorem jX10_takesName_17 : zj pX10_takesName 17 = uX10_takesName_17 := rfl
set_option maxRecDepth 100000 in
def uX10_push_16 : List zEn := (29, .return_, 1, 0, 0, [], 0) :: []
set_option maxRecDepth 100000 in
def uX10_push_0 : List zEn := (0, .aload_n 0, 1, 0, 0, [], 0) :: (1, .getfield 41, 3, 10, 9, [(0, 0), (0, 372)], 0) :: (4, .bipush 96, 2, 0, 0, [], 96) :: (6, .if_icmp .ge 23, 3, 16, 0, [], 0) :: (9, .aload_n 0, 1, 0, 0, [], 0) :: (10, .getfield 38, 3, 10, 8, [(0, 2), (0, 371)], 0) :: (13, .aload_n 0, 1, 0, 0, [], 0) :: (14, .getfield 41, 3, 10, 9, [(0, 0), (0, 372)], 0) :: (17, .iload_n 1, 1, 1, 0, [], 0) :: (18, .iastore, 1, 0, 0, [], 0) :: (19, .aload_n 0, 1, 0, 0, [], 0) :: (20, .dup, 1, 0, 0, [], 0) :: (21, .getfield 41, 3, 10, 9, [(0, 0), (0, 372)], 0) :: (24, .iconst 1, 1, 0, 0, [], 1) :: (25, .iadd, 1, 0, 0, [], 0) :: (26, .putfield 41, 3, 10, 9, [(0, 0), (0, 372)], 0) :: uX10_push_16
set_option maxRecDepth 100000 in
theorem jX10_push_16 : zj pX10_push 16 = uX10_push_16 := rfl
set_option maxRecDepth 100000 in
def uX10_takesBracket_6 : List zEn := (11, .aload_n 0, 1, 0, 0, [], 0) :: (12, .dup, 1, 0, 0, [], 0) :: (13, .getfield 44, 3, 10, 10, [(0, 0), (0, 373)], 0) :: (16, .iconst 1, 1, 0, 0, [], 1) :: (17, .iadd, 1, 0, 0, [], 0) :: (18, .putfield 44, 3, 10, 10, [(0, 0), (0, 373)], 0) :: (21, .aload_n 0, 1, 0, 0, [], 0) :: (22, .bipush 40, 2, 0, 0, [], 40) :: (24, .invokevirtual 147, 3, 161, 2, [(0, 0), (0, 0), (0, 0), (0, 10), (0, 974)], 0) :: (27, .iconst 1, 1, 0, 0, [], 1) :: (28, .ireturn, 1, 1, 0, [], 0) :: []
set_option maxRecDepth 100000 in
def uX10_takesBracket_0 : List zEn := (0, .aload_n 0, 1, 0, 0, [], 0) :: (1, .getfield 44, 3, 10, 10, [(0, 0), (0, 373)], 0) :: (4, .bipush 8, 2, 0, 0, [], 8) :: (6, .if_icmp .lt 5, 3, 6, 0, [], 0) :: (9, .iconst 0, 1, 0, 0, [], 0) :: (10, .ireturn, 1, 1, 0, [], 0) :: uX10_takesBracket_6
set_option maxRecDepth 100000 in
theorem jX10_takesBracket_6 : zj pX10_takesBracket 6 = uX10_takesBracket_6 := rfl
set_option maxRecDepth 100000 in
def uX10_takesNot_13 : List zEn := (25, .aload_n 0, 1, 0, 0, [], 0) :: (26, .dup, 1, 0, 0, [], 0) :: (27, .getfield 47, 3, 10, 11, [(0, 0), (0, 374)], 0) :: (30, .iconst 1, 1, 0, 0, [], 1) :: (31, .iadd, 1, 0, 0, [], 0) :: (32, .putfield 47, 3, 10, 11, [(0, 0), (0, 374)], 0) :: (35, .aload_n 0, 1, 0, 0, [], 0) :: (36, .bipush 33, 2, 0, 0, [], 33) :: (38, .invokevirtual 147, 3, 161, 2, [(0, 0), (0, 0), (0, 0), (0, 10), (0, 974)], 0) :: (41, .iconst 1, 1, 0, 0, [], 1) :: (42, .ireturn, 1, 1, 0, [], 0) :: []
set_option maxRecDepth 100000 in
def uX10_takesNot_11 : List zEn := (23, .iconst 0, 1, 0, 0, [], 0) :: (24, .ireturn, 1, 1, 0, [], 0) :: uX10_takesNot_13
set_option maxRecDepth 100000 in
def uX10_takesNot_0 : List zEn := (0, .aload_n 0, 1, 0, 0, [], 0) :: (1, .getfield 9, 3, 10, 0, [(0, 2), (0, 362)], 0) :: (4, .aload_n 0, 1, 0, 0, [], 0) :: (5, .getfield 19, 3, 10, 2, [(0, 0), (0, 365)], 0) :: (8, .iaload, 1, 0, 0, [], 0) :: (9, .bipush 33, 2, 0, 0, [], 33) :: (11, .if_icmp .ne 12, 3, 11, 0, [], 0) :: (14, .aload_n 0, 1, 0, 0, [], 0) :: (15, .getfield 47, 3, 10, 11, [(0, 0), (0, 374)], 0) :: (18, .bipush 8, 2, 0, 0, [], 8) :: (20, .if_icmp .lt 5, 3, 13, 0, [], 0) :: uX10_takesNot_11
set_option maxRecDepth 100000 in
theorem jX10_takesNot_11 : zj pX10_takesNot 11 = uX10_takesNot_11 := rfl
set_option maxRecDepth 100000 in
theorem jX10_takesNot_13 : zj pX10_takesNot 13 = uX10_takesNot_13 := rfl
set_option maxRecDepth 100000 in
def uX10_takesPiece_30 : List zEn := (83, .ireturn, 1, 1, 0, [], 0) :: []
set_option maxRecDepth 100000 in
def uX10_takesPiece_28 : List zEn := (79, .aload_n 0, 1, 0, 0, [], 0) :: (80, .invokevirtual 122, 3, 163, 1, [(0, 1), (0, 0), (0, 0), (0, 10), (0, 978)], 0) :: uX10_takesPiece_30
set_option maxRecDepth 100000 in
def uX10_takesPiece_18 : List zEn := (58, .aload_n 0, 1, 0, 0, [], 0) :: (59, .getfield 9, 3, 10, 0, [(0, 2), (0, 362)], 0) :: (62, .aload_n 0, 1, 0, 0, [], 0) :: (63, .getfield 19, 3, 10, 2, [(0, 0), (0, 365)], 0) :: (66, .iaload, 1, 0, 0, [], 0) :: (67, .bipush 40, 2, 0, 0, [], 40) :: (69, .if_icmp .ne 10, 3, 28, 0, [], 0) :: (72, .aload_n 0, 1, 0, 0, [], 0) :: (73, .invokevirtual 119, 3, 162, 1, [(0, 1), (0, 0), (0, 0), (0, 10), (0, 970)], 0) :: (76, .goto 7, 3, 30, 0, [], 0) :: uX10_takesPiece_28
set_option maxRecDepth 100000 in
def uX10_takesPiece_15 : List zEn := (53, .aload_n 0, 1, 0, 0, [], 0) :: (54, .invokevirtual 116, 3, 160, 1, [(0, 1), (0, 0), (0, 0), (0, 10), (0, 904)], 0) :: (57, .ireturn, 1, 1, 0, [], 0) :: uX10_takesPiece_18
set_option maxRecDepth 100000 in
def uX10_takesPiece_12 : List zEn := (48, .aload_n 0, 1, 0, 0, [], 0) :: (49, .invokevirtual 113, 3, 153, 1, [(0, 1), (0, 0), (0, 0), (0, 10), (0, 888)], 0) :: (52, .ireturn, 1, 1, 0, [], 0) :: uX10_takesPiece_15
set_option maxRecDepth 100000 in
def uX10_takesPiece_9 : List zEn := (17, .aload_n 0, 1, 0, 0, [], 0) :: (18, .getfield 25, 3, 10, 4, [(0, 0), (0, 367)], 0) :: (21, .lookupswitch 37 #[(1, 32), (2, 27)], 27, 18, 0, [(1, 15), (2, 12)], 0) :: uX10_takesPiece_12
set_option maxRecDepth 100000 in
def uX10_takesPiece_0 : List zEn := (0, .aload_n 0, 1, 0, 0, [], 0) :: (1, .getfield 28, 3, 10, 5, [(0, 1), (0, 368)], 0) :: (4, .ifCond .eq 13, 3, 9, 0, [], 0) :: (7, .aload_n 0, 1, 0, 0, [], 0) :: (8, .getfield 25, 3, 10, 4, [(0, 0), (0, 367)], 0) :: (11, .iconst 3, 1, 0, 0, [], 3) :: (12, .if_icmp .eq 5, 3, 9, 0, [], 0) :: (15, .iconst 0, 1, 0, 0, [], 0) :: (16, .ireturn, 1, 1, 0, [], 0) :: uX10_takesPiece_9
set_option maxRecDepth 100000 in
theorem jX10_takesPiece_9 : zj pX10_takesPiece 9 = uX10_takesPiece_9 := rfl
set_option maxRecDepth 100000 in
theorem jX10_takesPiece_12 : zj pX10_takesPiece 12 = uX10_takesPiece_12 := rfl
set_option maxRecDepth 100000 in
theorem jX10_takesPiece_15 : zj pX10_takesPiece 15 = uX10_takesPiece_15 := rfl
set_option maxRecDepth 100000 in
theorem jX10_takesPiece_18 : zj pX10_takesPiece 18 = uX10_takesPiece_18 := rfl
set_option maxRecDepth 100000 in
theorem jX10_takesPiece_28 : zj pX10_takesPiece 28 = uX10_takesPiece_28 := rfl
set_option maxRecDepth 100000 in
theorem jX10_takesPiece_30 : zj pX10_takesPiece 30 = uX10_takesPiece_30 := rfl
set_option maxRecDepth 100000 in
def uX10_unpile_32 : List zEn := (53, .return_, 1, 0, 0, [], 0) :: []
set_option maxRecDepth 100000 in
def uX10_unpile_4 : List zEn := (5, .iload_n 2, 1, 2, 0, [], 0) :: (6, .ifCond .le 47, 3, 32, 0, [], 0) :: (9, .aload_n 0, 1, 0, 0, [], 0) :: (10, .getfield 38, 3, 10, 8, [(0, 2), (0, 371)], 0) :: (13, .iload_n 2, 1, 2, 0, [], 0) :: (14, .iconst 1, 1, 0, 0, [], 1) :: (15, .isub, 1, 0, 0, [], 0) :: (16, .iaload, 1, 0, 0, [], 0) :: (17, .invokestatic 153, 3, 53, 1, [(0, 1), (0, 0), (0, 0), (0, 994)], 0) :: (20, .iload_n 1, 1, 1, 0, [], 0) :: (21, .if_icmp .lt 32, 3, 32, 0, [], 0) :: (24, .aload_n 0, 1, 0, 0, [], 0) :: (25, .aload_n 0, 1, 0, 0, [], 0) :: (26, .getfield 38, 3, 10, 8, [(0, 2), (0, 371)], 0) :: (29, .iload_n 2, 1, 2, 0, [], 0) :: (30, .iconst 1, 1, 0, 0, [], 1) :: (31, .isub, 1, 0, 0, [], 0) :: (32, .iaload, 1, 0, 0, [], 0) :: (33, .ineg, 1, 0, 0, [], 0) :: (34, .invokevirtual 141, 3, 150, 2, [(0, 0), (0, 0), (0, 0), (0, 10), (0, 896)], 0) :: (37, .aload_n 0, 1, 0, 0, [], 0) :: (38, .dup, 1, 0, 0, [], 0) :: (39, .getfield 41, 3, 10, 9, [(0, 0), (0, 372)], 0) :: (42, .iconst 1, 1, 0, 0, [], 1) :: (43, .isub, 1, 0, 0, [], 0) :: (44, .putfield 41, 3, 10, 9, [(0, 0), (0, 372)], 0) :: (47, .iinc 2 (-1), 3, 2, 0, [], (-1)) :: (50, .goto (-45), 3, 3, 0, [], 0) :: uX10_unpile_32
set_option maxRecDepth 100000 in
def tX10_unpile_4 : List zEn := uX10_unpile_4
set_option maxRecDepth 100000 in
def uX10_unpile_3 : List zEn := (5, .nop, 0, 0, 0, [], 0) :: tX10_unpile_4
set_option maxRecDepth 100000 in
def uX10_unpile_0 : List zEn := (0, .aload_n 0, 1, 0, 0, [], 0) :: (1, .getfield 41, 3, 10, 9, [(0, 0), (0, 372)], 0) :: (4, .istore_n 2, 1, 2, 0, [], 0) :: uX10_unpile_3
set_option maxRecDepth 100000 in
theorem jX10_unpile_3 : zj pX10_unpile 3 = uX10_unpile_3 := rfl
set_option maxRecDepth 100000 in
theorem jX10_unpile_32 : zj pX10_unpile 32 = uX10_unpile_32 := rfl
set_option maxRecDepth 100000 in
def uX10_closesBracket_5 : List zEn := (9, .aload_n 0, 1, 0, 0, [], 0) :: (10, .iconst 1, 1, 0, 0, [], 1) :: (11, .invokevirtual 87, 3, 165, 2, [(0, 0), (0, 0), (0, 0), (0, 10), (0, 990)], 0) :: (14, .aload_n 0, 1, 0, 0, [], 0) :: (15, .dup, 1, 0, 0, [], 0) :: (16, .getfield 44, 3, 10, 10, [(0, 0), (0, 373)], 0) :: (19, .iconst 1, 1, 0, 0, [], 1) :: (20, .isub, 1, 0, 0, [], 0) :: (21, .putfield 44, 3, 10, 10, [(0, 0), (0, 373)], 0) :: (24, .aload_n 0, 1, 0, 0, [], 0) :: (25, .iconst 0, 1, 0, 0, [], 0) :: (26, .aload_n 0, 1, 0, 0, [], 0) :: (27, .getfield 41, 3, 10, 9, [(0, 0), (0, 372)], 0) :: (30, .iconst 1, 1, 0, 0, [], 1) :: (31, .isub, 1, 0, 0, [], 0) :: (32, .invokestatic 156, 3, 19, 2, [(0, 1), (0, 0), (0, 0), (0, 995)], 0) :: (35, .putfield 41, 3, 10, 9, [(0, 0), (0, 372)], 0) :: (38, .aload_n 0, 1, 0, 0, [], 0) :: (39, .invokevirtual 144, 3, 151, 1, [(0, 0), (0, 0), (0, 0), (0, 10), (0, 900)], 0) :: (42, .iconst 1, 1, 0, 0, [], 1) :: (43, .ireturn, 1, 1, 0, [], 0) :: []
set_option maxRecDepth 100000 in
def uX10_closesBracket_0 : List zEn := (0, .aload_n 0, 1, 0, 0, [], 0) :: (1, .getfield 44, 3, 10, 10, [(0, 0), (0, 373)], 0) :: (4, .ifCond .ne 5, 3, 5, 0, [], 0) :: (7, .iconst 0, 1, 0, 0, [], 0) :: (8, .ireturn, 1, 1, 0, [], 0) :: uX10_closesBracket_5
set_option maxRecDepth 100000 in
theorem jX10_closesBracket_5 : zj pX10_closesBracket 5 = uX10_closesBracket_5 := rfl
set_option maxRecDepth 100000 in
def uX10_takesSign_47 : List zEn := (80, .aload_n 0, 1, 0, 0, [], 0) :: (81, .iload_n 1, 1, 1, 0, [], 0) :: (82, .invokevirtual 147, 3, 161, 2, [(0, 0), (0, 0), (0, 0), (0, 10), (0, 974)], 0) :: (85, .aload_n 0, 1, 0, 0, [], 0) :: (86, .iconst 1, 1, 0, 0, [], 1) :: (87, .putfield 35, 3, 10, 7, [(0, 1), (0, 370)], 0) :: (90, .iconst 1, 1, 0, 0, [], 1) :: (91, .ireturn, 1, 1, 0, [], 0) :: []
set_option maxRecDepth 100000 in
def uX10_takesSign_28 : List zEn := (45, .invokevirtual 87, 3, 165, 2, [(0, 0), (0, 0), (0, 0), (0, 10), (0, 990)], 0) :: (48, .iload_n 2, 1, 2, 0, [], 0) :: (49, .iconst 3, 1, 0, 0, [], 3) :: (50, .if_icmp .ne 30, 3, 47, 0, [], 0) :: (53, .aload_n 0, 1, 0, 0, [], 0) :: (54, .getfield 41, 3, 10, 9, [(0, 0), (0, 372)], 0) :: (57, .ifCond .le 23, 3, 47, 0, [], 0) :: (60, .aload_n 0, 1, 0, 0, [], 0) :: (61, .getfield 38, 3, 10, 8, [(0, 2), (0, 371)], 0) :: (64, .aload_n 0, 1, 0, 0, [], 0) :: (65, .getfield 41, 3, 10, 9, [(0, 0), (0, 372)], 0) :: (68, .iconst 1, 1, 0, 0, [], 1) :: (69, .isub, 1, 0, 0, [], 0) :: (70, .iaload, 1, 0, 0, [], 0) :: (71, .invokestatic 153, 3, 53, 1, [(0, 1), (0, 0), (0, 0), (0, 994)], 0) :: (74, .iconst 3, 1, 0, 0, [], 3) :: (75, .if_icmp .ne 5, 3, 47, 0, [], 0) :: (78, .iconst 0, 1, 0, 0, [], 0) :: (79, .ireturn, 1, 1, 0, [], 0) :: uX10_takesSign_47
set_option maxRecDepth 100000 in
def uX10_takesSign_27 : List zEn := (44, .iload_n 2, 1, 2, 0, [], 0) :: uX10_takesSign_28
set_option maxRecDepth 100000 in
def uX10_takesSign_19 : List zEn := (32, .aload_n 0, 1, 0, 0, [], 0) :: (33, .iload_n 2, 1, 2, 0, [], 0) :: (34, .iconst 3, 1, 0, 0, [], 3) :: (35, .if_icmp .ne 9, 3, 27, 0, [], 0) :: (38, .iload_n 2, 1, 2, 0, [], 0) :: (39, .iconst 1, 1, 0, 0, [], 1) :: (40, .iadd, 1, 0, 0, [], 0) :: (41, .goto 4, 3, 28, 0, [], 0) :: uX10_takesSign_27
set_option maxRecDepth 100000 in
def uX10_takesSign_12 : List zEn := (21, .iload_n 1, 1, 1, 0, [], 0) :: (22, .invokestatic 153, 3, 53, 1, [(0, 1), (0, 0), (0, 0), (0, 994)], 0) :: (25, .istore_n 2, 1, 2, 0, [], 0) :: (26, .iload_n 2, 1, 2, 0, [], 0) :: (27, .ifCond .ne 5, 3, 19, 0, [], 0) :: (30, .iconst 0, 1, 0, 0, [], 0) :: (31, .ireturn, 1, 1, 0, [], 0) :: uX10_takesSign_19
set_option maxRecDepth 100000 in
def uX10_takesSign_0 : List zEn := (0, .aload_n 0, 1, 0, 0, [], 0) :: (1, .getfield 9, 3, 10, 0, [(0, 2), (0, 362)], 0) :: (4, .aload_n 0, 1, 0, 0, [], 0) :: (5, .getfield 19, 3, 10, 2, [(0, 0), (0, 365)], 0) :: (8, .iaload, 1, 0, 0, [], 0) :: (9, .istore_n 1, 1, 1, 0, [], 0) :: (10, .iload_n 1, 1, 1, 0, [], 0) :: (11, .bipush 41, 2, 0, 0, [], 41) :: (13, .if_icmp .ne 8, 3, 12, 0, [], 0) :: (16, .aload_n 0, 1, 0, 0, [], 0) :: (17, .invokevirtual 150, 3, 166, 1, [(0, 1), (0, 0), (0, 0), (0, 10), (0, 986)], 0) :: (20, .ireturn, 1, 1, 0, [], 0) :: uX10_takesSign_12
set_option maxRecDepth 100000 in
theorem jX10_takesSign_12 : zj pX10_takesSign 12 = uX10_takesSign_12 := rfl
set_option maxRecDepth 100000 in
theorem jX10_takesSign_19 : zj pX10_takesSign 19 = uX10_takesSign_19 := rfl
set_option maxRecDepth 100000 in
theorem jX10_takesSign_27 : zj pX10_takesSign 27 = uX10_takesSign_27 := rfl
set_option maxRecDepth 100000 in
theorem jX10_takesSign_28 : zj pX10_takesSign 28 = uX10_takesSign_28 := rfl
set_option maxRecDepth 100000 in
theorem jX10_takesSign_47 : zj pX10_takesSign 47 = uX10_takesSign_47 := rfl
set_option maxRecDepth 100000 in
def uX10_readTape_50 : List zEn := (104, .aload_n 0, 1, 0, 0, [], 0) :: (105, .iconst 1, 1, 0, 0, [], 1) :: (106, .invokevirtual 87, 3, 165, 2, [(0, 0), (0, 0), (0, 0), (0, 10), (0, 990)], 0) :: (109, .iconst (-1), 1, 0, 0, [], (-1)) :: (110, .ireturn, 1, 0, 0, [], 0) :: []
set_option maxRecDepth 100000 in
def uX10_readTape_47 : List zEn := (99, .aload_n 0, 1, 0, 0, [], 0) :: (100, .getfield 19, 3, 10, 2, [(0, 0), (0, 365)], 0) :: (103, .ireturn, 1, 0, 0, [], 0) :: uX10_readTape_50
set_option maxRecDepth 100000 in
def uX10_readTape_41 : List zEn := (85, .aload_n 0, 1, 0, 0, [], 0) :: (86, .getfield 35, 3, 10, 7, [(0, 1), (0, 370)], 0) :: (89, .ifCond .ne 10, 3, 47, 0, [], 0) :: (92, .aload_n 0, 1, 0, 0, [], 0) :: (93, .getfield 44, 3, 10, 10, [(0, 0), (0, 373)], 0) :: (96, .ifCond .le 8, 3, 50, 0, [], 0) :: uX10_readTape_47
set_option maxRecDepth 100000 in
def uX10_readTape_39 : List zEn := (79, .iinc 1 1, 3, 1, 0, [], 1) :: (82, .goto (-52), 3, 16, 0, [], 0) :: uX10_readTape_41
set_option maxRecDepth 100000 in
def uX10_readTape_36 : List zEn := (74, .aload_n 0, 1, 0, 0, [], 0) :: (75, .getfield 19, 3, 10, 2, [(0, 0), (0, 365)], 0) :: (78, .ireturn, 1, 0, 0, [], 0) :: uX10_readTape_39
set_option maxRecDepth 100000 in
def uX10_readTape_33 : List zEn := (67, .aload_n 0, 1, 0, 0, [], 0) :: (68, .invokevirtual 84, 3, 167, 1, [(0, 1), (0, 0), (0, 0), (0, 10), (0, 982)], 0) :: (71, .ifCond .ne 8, 3, 39, 0, [], 0) :: uX10_readTape_36
set_option maxRecDepth 100000 in
def uX10_readTape_26 : List zEn := (50, .aload_n 0, 1, 0, 0, [], 0) :: (51, .getfield 35, 3, 10, 7, [(0, 1), (0, 370)], 0) :: (54, .ifCond .eq 13, 3, 33, 0, [], 0) :: (57, .aload_n 0, 1, 0, 0, [], 0) :: (58, .invokevirtual 80, 3, 164, 1, [(0, 1), (0, 0), (0, 0), (0, 10), (0, 884)], 0) :: (61, .ifCond .eq 13, 3, 36, 0, [], 0) :: (64, .goto 15, 3, 39, 0, [], 0) :: uX10_readTape_33
set_option maxRecDepth 100000 in
def uX10_readTape_17 : List zEn := (30, .iload_n 1, 1, 1, 0, [], 0) :: (31, .bipush 96, 2, 0, 0, [], 96) :: (33, .if_icmp .ge 52, 3, 41, 0, [], 0) :: (36, .aload_n 0, 1, 0, 0, [], 0) :: (37, .invokevirtual 73, 3, 140, 1, [(0, 0), (0, 0), (0, 0), (0, 10), (0, 818)], 0) :: (40, .aload_n 0, 1, 0, 0, [], 0) :: (41, .getfield 25, 3, 10, 4, [(0, 0), (0, 367)], 0) :: (44, .ifCond .ne 6, 3, 26, 0, [], 0) :: (47, .goto 38, 3, 41, 0, [], 0) :: uX10_readTape_26
set_option maxRecDepth 100000 in
def tX10_readTape_17 : List zEn := uX10_readTape_17
set_option maxRecDepth 100000 in
def uX10_readTape_16 : List zEn := (30, .nop, 0, 0, 0, [], 0) :: tX10_readTape_17
set_option maxRecDepth 100000 in
def uX10_readTape_14 : List zEn := (28, .iconst 0, 1, 0, 0, [], 0) :: (29, .istore_n 1, 1, 1, 0, [], 0) :: uX10_readTape_16
set_option maxRecDepth 100000 in
def uX10_readTape_0 : List zEn := (0, .aload_n 0, 1, 0, 0, [], 0) :: (1, .invokevirtual 70, 3, 138, 1, [(0, 0), (0, 0), (0, 0), (0, 10), (0, 814)], 0) :: (4, .aload_n 0, 1, 0, 0, [], 0) :: (5, .invokevirtual 73, 3, 140, 1, [(0, 0), (0, 0), (0, 0), (0, 10), (0, 818)], 0) :: (8, .aload_n 0, 1, 0, 0, [], 0) :: (9, .aload_n 0, 1, 0, 0, [], 0) :: (10, .invokevirtual 76, 3, 149, 1, [(0, 1), (0, 0), (0, 0), (0, 10), (0, 825)], 0) :: (13, .putfield 32, 3, 10, 6, [(0, 0), (0, 369)], 0) :: (16, .aload_n 0, 1, 0, 0, [], 0) :: (17, .getfield 32, 3, 10, 6, [(0, 0), (0, 369)], 0) :: (20, .ifCond .ge 8, 3, 14, 0, [], 0) :: (23, .aload_n 0, 1, 0, 0, [], 0) :: (24, .getfield 19, 3, 10, 2, [(0, 0), (0, 365)], 0) :: (27, .ireturn, 1, 0, 0, [], 0) :: uX10_readTape_14
set_option maxRecDepth 100000 in
theorem jX10_readTape_14 : zj pX10_readTape 14 = uX10_readTape_14 := rfl
set_option maxRecDepth 100000 in
theorem jX10_readTape_16 : zj pX10_readTape 16 = uX10_readTape_16 := rfl
set_option maxRecDepth 100000 in
theorem jX10_readTape_26 : zj pX10_readTape 26 = uX10_readTape_26 := rfl
set_option maxRecDepth 100000 in
theorem jX10_readTape_33 : zj pX10_readTape 33 = uX10_readTape_33 := rfl
set_option maxRecDepth 100000 in
theorem jX10_readTape_36 : zj pX10_readTape 36 = uX10_readTape_36 := rfl
set_option maxRecDepth 100000 in
theorem jX10_readTape_39 : zj pX10_readTape 39 = uX10_readTape_39 := rfl
set_option maxRecDepth 100000 in
theorem jX10_readTape_41 : zj pX10_readTape 41 = uX10_readTape_41 := rfl
set_option maxRecDepth 100000 in
theorem jX10_readTape_47 : zj pX10_readTape 47 = uX10_readTape_47 := rfl
set_option maxRecDepth 100000 in
theorem jX10_readTape_50 : zj pX10_readTape 50 = uX10_readTape_50 := rfl
set_option maxRecDepth 100000 in
def uX9_init_0 : List zEn := (0, .aload_n 0, 1, 0, 0, [], 0) :: (1, .invokespecial 1, 3, 1006, 0, [], 0) :: (4, .aload_n 0, 1, 0, 0, [], 0) :: (5, .iload_n 1, 1, 1, 0, [], 0) :: (6, .putfield 7, 3, 9, 0, [(0, 0), (0, 1007)], 0) :: (9, .aload_n 0, 1, 0, 0, [], 0) :: (10, .iload_n 2, 1, 2, 0, [], 0) :: (11, .putfield 13, 3, 9, 1, [(0, 0), (0, 1010)], 0) :: (14, .aload_n 0, 1, 0, 0, [], 0) :: (15, .aload_n 3, 1, 3, 0, [], 0) :: (16, .putfield 16, 3, 9, 2, [(0, 2), (0, 1012)], 0) :: (19, .return_, 1, 0, 0, [], 0) :: []
set_option maxRecDepth 100000 in
def uX10_textRead_0 : List zEn := (0, .aload_n 0, 1, 0, 0, [], 0) :: (1, .getfield 53, 3, 10, 13, [(0, 0), (0, 376)], 0) :: (4, .newarray .int, 2, 0, 0, [], 0) :: (6, .astore_n 1, 1, 1, 0, [], 0) :: (7, .aload_n 0, 1, 0, 0, [], 0) :: (8, .getfield 50, 3, 10, 12, [(0, 2), (0, 375)], 0) :: (11, .iconst 0, 1, 0, 0, [], 0) :: (12, .aload_n 1, 1, 1, 0, [], 0) :: (13, .iconst 0, 1, 0, 0, [], 0) :: (14, .aload_n 0, 1, 0, 0, [], 0) :: (15, .getfield 53, 3, 10, 13, [(0, 0), (0, 376)], 0) :: (18, .invokestatic 59, 3, 1000, 0, [], 0) :: (21, .new 65, 3, 9, 3, [(0, 1001)], 0) :: (24, .dup, 1, 0, 0, [], 0) :: (25, .aload_n 0, 1, 0, 0, [], 0) :: (26, .getfield 32, 3, 10, 6, [(0, 0), (0, 369)], 0) :: (29, .aload_n 0, 1, 0, 0, [], 0) :: (30, .getfield 56, 3, 10, 14, [(0, 0), (0, 377)], 0) :: (33, .aload_n 1, 1, 1, 0, [], 0) :: (34, .invokespecial 67, 3, 169, 4, [(0, 0), (0, 0), (0, 0), (0, 1003)], 0) :: (37, .areturn, 1, 0, 0, [], 0) :: []
set_option maxRecDepth 100000 in
def uX1_addText_0 : List zEn := (0, .aload_n 0, 1, 0, 0, [], 0) :: (1, .getfield 11, 3, 1, 0, [(0, 2), (0, 148)], 0) :: (4, .aload_n 0, 1, 0, 0, [], 0) :: (5, .getfield 17, 3, 1, 1, [(0, 0), (0, 150)], 0) :: (8, .aload_n 1, 1, 1, 0, [], 0) :: (9, .aastore, 1, 0, 0, [], 0) :: (10, .aload_n 0, 1, 0, 0, [], 0) :: (11, .getfield 22, 3, 1, 2, [(0, 2), (0, 152)], 0) :: (14, .aload_n 1, 1, 1, 0, [], 0) :: (15, .getfield 35, 3, 9, 0, [(0, 0), (0, 1008)], 0) :: (18, .aload_n 0, 1, 0, 0, [], 0) :: (19, .getfield 17, 3, 1, 1, [(0, 0), (0, 150)], 0) :: (22, .iastore, 1, 0, 0, [], 0) :: (23, .aload_n 0, 1, 0, 0, [], 0) :: (24, .dup, 1, 0, 0, [], 0) :: (25, .getfield 17, 3, 1, 1, [(0, 0), (0, 150)], 0) :: (28, .iconst 1, 1, 0, 0, [], 1) :: (29, .iadd, 1, 0, 0, [], 0) :: (30, .putfield 17, 3, 1, 1, [(0, 0), (0, 150)], 0) :: (33, .aload_n 0, 1, 0, 0, [], 0) :: (34, .getfield 17, 3, 1, 1, [(0, 0), (0, 150)], 0) :: (37, .iconst 1, 1, 0, 0, [], 1) :: (38, .isub, 1, 0, 0, [], 0) :: (39, .ireturn, 1, 0, 0, [], 0) :: []
set_option maxRecDepth 100000 in
def uX11_text_22 : List zEn := (43, .aload_n 0, 1, 0, 0, [], 0) :: (44, .getfield 10, 3, 11, 0, [(0, 2), (0, 457)], 0) :: (47, .getfield 223, 3, 6, 7, [(0, 2), (0, 289)], 0) :: (50, .aload_n 0, 1, 0, 0, [], 0) :: (51, .getfield 40, 3, 11, 6, [(0, 2), (0, 463)], 0) :: (54, .invokevirtual 232, 3, 170, 1, [(0, 2), (0, 2), (0, 99), (0, 10), (0, 996)], 0) :: (57, .invokevirtual 236, 3, 171, 2, [(0, 1), (0, 0), (0, 0), (0, 1), (0, 1022)], 0) :: (60, .ireturn, 1, 0, 0, [], 0) :: []
set_option maxRecDepth 100000 in
def uX11_text_14 : List zEn := (25, .aload_n 0, 1, 0, 0, [], 0) :: (26, .getfield 10, 3, 11, 0, [(0, 2), (0, 457)], 0) :: (29, .getfield 223, 3, 6, 7, [(0, 2), (0, 289)], 0) :: (32, .getfield 227, 3, 1, 1, [(0, 0), (0, 151)], 0) :: (35, .bipush 14, 2, 0, 0, [], 14) :: (37, .if_icmp .lt 6, 3, 22, 0, [], 0) :: (40, .ldc 76, 2, 0, 0, [(0, 499)], (-1000000003)) :: (42, .ireturn, 1, 0, 0, [], 0) :: uX11_text_22
set_option maxRecDepth 100000 in
def uX11_text_0 : List zEn := (0, .aload_n 0, 1, 0, 0, [], 0) :: (1, .getfield 40, 3, 11, 6, [(0, 2), (0, 463)], 0) :: (4, .invokevirtual 220, 3, 168, 1, [(0, 1), (0, 0), (0, 0), (0, 10), (0, 810)], 0) :: (7, .istore_n 1, 1, 1, 0, [], 0) :: (8, .aload_n 0, 1, 0, 0, [], 0) :: (9, .getfield 40, 3, 11, 6, [(0, 2), (0, 463)], 0) :: (12, .iconst 0, 1, 0, 0, [], 0) :: (13, .putfield 213, 3, 10, 1, [(0, 0), (0, 364)], 0) :: (16, .iload_n 1, 1, 1, 0, [], 0) :: (17, .ifCond .lt 8, 3, 14, 0, [], 0) :: (20, .bipush (-100), 2, 0, 0, [], (-100)) :: (22, .iload_n 1, 1, 1, 0, [], 0) :: (23, .isub, 1, 0, 0, [], 0) :: (24, .ireturn, 1, 0, 0, [], 0) :: uX11_text_14
set_option maxRecDepth 100000 in
theorem jX11_text_14 : zj pX11_text 14 = uX11_text_14 := rfl
set_option maxRecDepth 100000 in
theorem jX11_text_22 : zj pX11_text 22 = uX11_text_22 := rfl
set_option maxRecDepth 100000 in
def uX12_isLetter_16 : List zEn := (32, .ireturn, 1, 1, 0, [], 0) :: []
set_option maxRecDepth 100000 in
def uX12_isLetter_15 : List zEn := (31, .iconst 0, 1, 0, 0, [], 0) :: uX12_isLetter_16
set_option maxRecDepth 100000 in
def uX12_isLetter_0 : List zEn := (0, .iload_n 1, 1, 1, 0, [], 0) :: (1, .aload_n 0, 1, 0, 0, [], 0) :: (2, .getfield 211, 3, 12, 19, [(0, 0), (0, 1269)], 0) :: (5, .if_icmp .ge 26, 3, 15, 0, [], 0) :: (8, .aload_n 0, 1, 0, 0, [], 0) :: (9, .getfield 55, 3, 12, 18, [(0, 2), (0, 1268)], 0) :: (12, .iload_n 1, 1, 1, 0, [], 0) :: (13, .iaload, 1, 0, 0, [], 0) :: (14, .i2l, 1, 0, 0, [], 0) :: (15, .ldc2_w 214, 3, 0, 0, [(0, 1602)], 97) :: (18, .ldc2_w 216, 3, 0, 0, [(0, 1603)], 122) :: (21, .invokestatic 77, 3, 15, 3, [(0, 1), (0, 0), (0, 0), (0, 1368)], 0) :: (24, .ifCond .eq 7, 3, 15, 0, [], 0) :: (27, .iconst 1, 1, 0, 0, [], 1) :: (28, .goto 4, 3, 16, 0, [], 0) :: uX12_isLetter_15
set_option maxRecDepth 100000 in
theorem jX12_isLetter_15 : zj pX12_isLetter 15 = uX12_isLetter_15 := rfl
set_option maxRecDepth 100000 in
theorem jX12_isLetter_16 : zj pX12_isLetter 16 = uX12_isLetter_16 := rfl
set_option maxRecDepth 100000 in
def uX12_isDigit_16 : List zEn := (32, .ireturn, 1, 1, 0, [], 0) :: []
set_option maxRecDepth 100000 in
def uX12_isDigit_15 : List zEn := (31, .iconst 0, 1, 0, 0, [], 0) :: uX12_isDigit_16
set_option maxRecDepth 100000 in
def uX12_isDigit_0 : List zEn := (0, .iload_n 1, 1, 1, 0, [], 0) :: (1, .aload_n 0, 1, 0, 0, [], 0) :: (2, .getfield 211, 3, 12, 19, [(0, 0), (0, 1269)], 0) :: (5, .if_icmp .ge 26, 3, 15, 0, [], 0) :: (8, .aload_n 0, 1, 0, 0, [], 0) :: (9, .getfield 55, 3, 12, 18, [(0, 2), (0, 1268)], 0) :: (12, .iload_n 1, 1, 1, 0, [], 0) :: (13, .iaload, 1, 0, 0, [], 0) :: (14, .i2l, 1, 0, 0, [], 0) :: (15, .ldc2_w 218, 3, 0, 0, [(0, 1608)], 48) :: (18, .ldc2_w 220, 3, 0, 0, [(0, 1609)], 57) :: (21, .invokestatic 77, 3, 15, 3, [(0, 1), (0, 0), (0, 0), (0, 1368)], 0) :: (24, .ifCond .eq 7, 3, 15, 0, [], 0) :: (27, .iconst 1, 1, 0, 0, [], 1) :: (28, .goto 4, 3, 16, 0, [], 0) :: uX12_isDigit_15
set_option maxRecDepth 100000 in
theorem jX12_isDigit_15 : zj pX12_isDigit 15 = uX12_isDigit_15 := rfl
set_option maxRecDepth 100000 in
theorem jX12_isDigit_16 : zj pX12_isDigit 16 = uX12_isDigit_16 := rfl
set_option maxRecDepth 100000 in
def uX12_nextToken_179 : List zEn := (339, .return_, 1, 0, 0, [], 0) :: []
set_option maxRecDepth 100000 in
def uX12_nextToken_163 : List zEn := (311, .aload_n 0, 1, 0, 0, [], 0) :: (312, .iconst 3, 1, 0, 0, [], 3) :: (313, .putfield 225, 3, 12, 22, [(0, 0), (0, 1272)], 0) :: (316, .aload_n 0, 1, 0, 0, [], 0) :: (317, .aload_n 0, 1, 0, 0, [], 0) :: (318, .getfield 55, 3, 12, 18, [(0, 2), (0, 1268)], 0) :: (321, .aload_n 0, 1, 0, 0, [], 0) :: (322, .getfield 228, 3, 12, 20, [(0, 0), (0, 1270)], 0) :: (325, .iaload, 1, 0, 0, [], 0) :: (326, .putfield 234, 3, 12, 24, [(0, 0), (0, 1274)], 0) :: (329, .aload_n 0, 1, 0, 0, [], 0) :: (330, .dup, 1, 0, 0, [], 0) :: (331, .getfield 222, 3, 12, 21, [(0, 0), (0, 1271)], 0) :: (334, .iconst 1, 1, 0, 0, [], 1) :: (335, .iadd, 1, 0, 0, [], 0) :: (336, .putfield 222, 3, 12, 21, [(0, 0), (0, 1271)], 0) :: uX12_nextToken_179
set_option maxRecDepth 100000 in
def uX12_nextToken_161 : List zEn := (305, .putfield 225, 3, 12, 22, [(0, 0), (0, 1272)], 0) :: (308, .goto 31, 3, 179, 0, [], 0) :: uX12_nextToken_163
set_option maxRecDepth 100000 in
def uX12_nextToken_160 : List zEn := (304, .iconst 2, 1, 0, 0, [], 2) :: uX12_nextToken_161
set_option maxRecDepth 100000 in
def uX12_nextToken_158 : List zEn := (300, .iconst 4, 1, 0, 0, [], 4) :: (301, .goto 4, 3, 161, 0, [], 0) :: uX12_nextToken_160
set_option maxRecDepth 100000 in
def uX12_nextToken_148 : List zEn := (282, .aload_n 0, 1, 0, 0, [], 0) :: (283, .iload_n 1, 1, 1, 0, [], 0) :: (284, .ifCond .ne 16, 3, 158, 0, [], 0) :: (287, .aload_n 0, 1, 0, 0, [], 0) :: (288, .getfield 222, 3, 12, 21, [(0, 0), (0, 1271)], 0) :: (291, .aload_n 0, 1, 0, 0, [], 0) :: (292, .getfield 228, 3, 12, 20, [(0, 0), (0, 1270)], 0) :: (295, .isub, 1, 0, 0, [], 0) :: (296, .iconst 4, 1, 0, 0, [], 4) :: (297, .if_icmp .le 7, 3, 160, 0, [], 0) :: uX12_nextToken_158
set_option maxRecDepth 100000 in
def uX12_nextToken_140 : List zEn := (266, .putfield 240, 3, 12, 23, [(0, 0), (0, 1273)], 0) :: (269, .aload_n 0, 1, 0, 0, [], 0) :: (270, .dup, 1, 0, 0, [], 0) :: (271, .getfield 222, 3, 12, 21, [(0, 0), (0, 1271)], 0) :: (274, .iconst 1, 1, 0, 0, [], 1) :: (275, .iadd, 1, 0, 0, [], 0) :: (276, .putfield 222, 3, 12, 21, [(0, 0), (0, 1271)], 0) :: (279, .goto (-65), 3, 111, 0, [], 0) :: uX12_nextToken_148
set_option maxRecDepth 100000 in
def uX12_nextToken_138 : List zEn := (262, .aload_n 0, 1, 0, 0, [], 0) :: (263, .getfield 240, 3, 12, 23, [(0, 0), (0, 1273)], 0) :: uX12_nextToken_140
set_option maxRecDepth 100000 in
def uX12_nextToken_112 : List zEn := (214, .aload_n 0, 1, 0, 0, [], 0) :: (215, .aload_n 0, 1, 0, 0, [], 0) :: (216, .getfield 222, 3, 12, 21, [(0, 0), (0, 1271)], 0) :: (219, .invokevirtual 237, 3, 174, 2, [(0, 1), (0, 0), (0, 0), (0, 12), (0, 1604)], 0) :: (222, .ifCond .eq 60, 3, 148, 0, [], 0) :: (225, .aload_n 0, 1, 0, 0, [], 0) :: (226, .aload_n 0, 1, 0, 0, [], 0) :: (227, .getfield 222, 3, 12, 21, [(0, 0), (0, 1271)], 0) :: (230, .aload_n 0, 1, 0, 0, [], 0) :: (231, .getfield 228, 3, 12, 20, [(0, 0), (0, 1270)], 0) :: (234, .isub, 1, 0, 0, [], 0) :: (235, .iconst 4, 1, 0, 0, [], 4) :: (236, .if_icmp .ge 26, 3, 138, 0, [], 0) :: (239, .bipush 10, 2, 0, 0, [], 10) :: (241, .aload_n 0, 1, 0, 0, [], 0) :: (242, .getfield 240, 3, 12, 23, [(0, 0), (0, 1273)], 0) :: (245, .imul, 1, 0, 0, [], 0) :: (246, .aload_n 0, 1, 0, 0, [], 0) :: (247, .getfield 55, 3, 12, 18, [(0, 2), (0, 1268)], 0) :: (250, .aload_n 0, 1, 0, 0, [], 0) :: (251, .getfield 222, 3, 12, 21, [(0, 0), (0, 1271)], 0) :: (254, .iaload, 1, 0, 0, [], 0) :: (255, .iadd, 1, 0, 0, [], 0) :: (256, .bipush 48, 2, 0, 0, [], 48) :: (258, .isub, 1, 0, 0, [], 0) :: (259, .goto 7, 3, 140, 0, [], 0) :: uX12_nextToken_138
set_option maxRecDepth 100000 in
def tX12_nextToken_112 : List zEn := uX12_nextToken_112
set_option maxRecDepth 100000 in
def uX12_nextToken_111 : List zEn := (214, .nop, 0, 0, 0, [], 0) :: tX12_nextToken_112
set_option maxRecDepth 100000 in
def uX12_nextToken_103 : List zEn := (198, .aload_n 0, 1, 0, 0, [], 0) :: (199, .aload_n 0, 1, 0, 0, [], 0) :: (200, .getfield 228, 3, 12, 20, [(0, 0), (0, 1270)], 0) :: (203, .invokevirtual 237, 3, 174, 2, [(0, 1), (0, 0), (0, 0), (0, 12), (0, 1604)], 0) :: (206, .ifCond .eq 105, 3, 163, 0, [], 0) :: (209, .aload_n 0, 1, 0, 0, [], 0) :: (210, .iconst 0, 1, 0, 0, [], 0) :: (211, .putfield 240, 3, 12, 23, [(0, 0), (0, 1273)], 0) :: uX12_nextToken_111
set_option maxRecDepth 100000 in
def uX12_nextToken_101 : List zEn := (192, .putfield 234, 3, 12, 24, [(0, 0), (0, 1274)], 0) :: (195, .goto 144, 3, 179, 0, [], 0) :: uX12_nextToken_103
set_option maxRecDepth 100000 in
def uX12_nextToken_100 : List zEn := (191, .iconst 0, 1, 0, 0, [], 0) :: uX12_nextToken_101
set_option maxRecDepth 100000 in
def uX12_nextToken_85 : List zEn := (162, .putfield 225, 3, 12, 22, [(0, 0), (0, 1272)], 0) :: (165, .aload_n 0, 1, 0, 0, [], 0) :: (166, .aload_n 0, 1, 0, 0, [], 0) :: (167, .getfield 222, 3, 12, 21, [(0, 0), (0, 1271)], 0) :: (170, .aload_n 0, 1, 0, 0, [], 0) :: (171, .getfield 228, 3, 12, 20, [(0, 0), (0, 1270)], 0) :: (174, .isub, 1, 0, 0, [], 0) :: (175, .iconst 1, 1, 0, 0, [], 1) :: (176, .if_icmp .ne 15, 3, 100, 0, [], 0) :: (179, .aload_n 0, 1, 0, 0, [], 0) :: (180, .getfield 55, 3, 12, 18, [(0, 2), (0, 1268)], 0) :: (183, .aload_n 0, 1, 0, 0, [], 0) :: (184, .getfield 228, 3, 12, 20, [(0, 0), (0, 1270)], 0) :: (187, .iaload, 1, 0, 0, [], 0) :: (188, .goto 4, 3, 101, 0, [], 0) :: uX12_nextToken_100
set_option maxRecDepth 100000 in
def uX12_nextToken_84 : List zEn := (161, .iconst 1, 1, 0, 0, [], 1) :: uX12_nextToken_85
set_option maxRecDepth 100000 in
def uX12_nextToken_79 : List zEn := (152, .aload_n 0, 1, 0, 0, [], 0) :: (153, .iload_n 1, 1, 1, 0, [], 0) :: (154, .ifCond .eq 7, 3, 84, 0, [], 0) :: (157, .iconst 4, 1, 0, 0, [], 4) :: (158, .goto 4, 3, 85, 0, [], 0) :: uX12_nextToken_84
set_option maxRecDepth 100000 in
def uX12_nextToken_67 : List zEn := (128, .aload_n 0, 1, 0, 0, [], 0) :: (129, .aload_n 0, 1, 0, 0, [], 0) :: (130, .getfield 222, 3, 12, 21, [(0, 0), (0, 1271)], 0) :: (133, .invokevirtual 231, 3, 173, 2, [(0, 1), (0, 0), (0, 0), (0, 12), (0, 1598)], 0) :: (136, .ifCond .eq 16, 3, 79, 0, [], 0) :: (139, .aload_n 0, 1, 0, 0, [], 0) :: (140, .dup, 1, 0, 0, [], 0) :: (141, .getfield 222, 3, 12, 21, [(0, 0), (0, 1271)], 0) :: (144, .iconst 1, 1, 0, 0, [], 1) :: (145, .iadd, 1, 0, 0, [], 0) :: (146, .putfield 222, 3, 12, 21, [(0, 0), (0, 1271)], 0) :: (149, .goto (-21), 3, 66, 0, [], 0) :: uX12_nextToken_79
set_option maxRecDepth 100000 in
def tX12_nextToken_67 : List zEn := uX12_nextToken_67
set_option maxRecDepth 100000 in
def uX12_nextToken_66 : List zEn := (128, .nop, 0, 0, 0, [], 0) :: tX12_nextToken_67
set_option maxRecDepth 100000 in
def uX12_nextToken_61 : List zEn := (117, .aload_n 0, 1, 0, 0, [], 0) :: (118, .aload_n 0, 1, 0, 0, [], 0) :: (119, .getfield 228, 3, 12, 20, [(0, 0), (0, 1270)], 0) :: (122, .invokevirtual 231, 3, 173, 2, [(0, 1), (0, 0), (0, 0), (0, 12), (0, 1598)], 0) :: (125, .ifCond .eq 73, 3, 103, 0, [], 0) :: uX12_nextToken_66
set_option maxRecDepth 100000 in
def uX12_nextToken_47 : List zEn := (89, .istore_n 1, 1, 1, 0, [], 0) :: (90, .aload_n 0, 1, 0, 0, [], 0) :: (91, .aload_n 0, 1, 0, 0, [], 0) :: (92, .getfield 222, 3, 12, 21, [(0, 0), (0, 1271)], 0) :: (95, .putfield 228, 3, 12, 20, [(0, 0), (0, 1270)], 0) :: (98, .aload_n 0, 1, 0, 0, [], 0) :: (99, .getfield 228, 3, 12, 20, [(0, 0), (0, 1270)], 0) :: (102, .aload_n 0, 1, 0, 0, [], 0) :: (103, .getfield 211, 3, 12, 19, [(0, 0), (0, 1269)], 0) :: (106, .if_icmp .ne 11, 3, 61, 0, [], 0) :: (109, .aload_n 0, 1, 0, 0, [], 0) :: (110, .iconst 0, 1, 0, 0, [], 0) :: (111, .putfield 225, 3, 12, 22, [(0, 0), (0, 1272)], 0) :: (114, .goto 225, 3, 179, 0, [], 0) :: uX12_nextToken_61
set_option maxRecDepth 100000 in
def uX12_nextToken_46 : List zEn := (88, .iconst 0, 1, 0, 0, [], 0) :: uX12_nextToken_47
set_option maxRecDepth 100000 in
def uX12_nextToken_38 : List zEn := (72, .iload_n 1, 1, 1, 0, [], 0) :: (73, .ifCond .eq 15, 3, 46, 0, [], 0) :: (76, .iload_n 2, 1, 2, 0, [], 0) :: (77, .aload_n 0, 1, 0, 0, [], 0) :: (78, .getfield 222, 3, 12, 21, [(0, 0), (0, 1271)], 0) :: (81, .if_icmp .ne 7, 3, 46, 0, [], 0) :: (84, .iconst 1, 1, 0, 0, [], 1) :: (85, .goto 4, 3, 47, 0, [], 0) :: uX12_nextToken_46
set_option maxRecDepth 100000 in
def uX12_nextToken_19 : List zEn := (34, .aload_n 0, 1, 0, 0, [], 0) :: (35, .getfield 222, 3, 12, 21, [(0, 0), (0, 1271)], 0) :: (38, .aload_n 0, 1, 0, 0, [], 0) :: (39, .getfield 211, 3, 12, 19, [(0, 0), (0, 1269)], 0) :: (42, .if_icmp .ge 30, 3, 38, 0, [], 0) :: (45, .aload_n 0, 1, 0, 0, [], 0) :: (46, .getfield 55, 3, 12, 18, [(0, 2), (0, 1268)], 0) :: (49, .aload_n 0, 1, 0, 0, [], 0) :: (50, .getfield 222, 3, 12, 21, [(0, 0), (0, 1271)], 0) :: (53, .iaload, 1, 0, 0, [], 0) :: (54, .bipush 32, 2, 0, 0, [], 32) :: (56, .if_icmp .ne 16, 3, 38, 0, [], 0) :: (59, .aload_n 0, 1, 0, 0, [], 0) :: (60, .dup, 1, 0, 0, [], 0) :: (61, .getfield 222, 3, 12, 21, [(0, 0), (0, 1271)], 0) :: (64, .iconst 1, 1, 0, 0, [], 1) :: (65, .iadd, 1, 0, 0, [], 0) :: (66, .putfield 222, 3, 12, 21, [(0, 0), (0, 1271)], 0) :: (69, .goto (-35), 3, 18, 0, [], 0) :: uX12_nextToken_38
set_option maxRecDepth 100000 in
def tX12_nextToken_19 : List zEn := uX12_nextToken_19
set_option maxRecDepth 100000 in
def uX12_nextToken_18 : List zEn := (34, .nop, 0, 0, 0, [], 0) :: tX12_nextToken_19
set_option maxRecDepth 100000 in
def uX12_nextToken_14 : List zEn := (28, .istore_n 1, 1, 1, 0, [], 0) :: (29, .aload_n 0, 1, 0, 0, [], 0) :: (30, .getfield 222, 3, 12, 21, [(0, 0), (0, 1271)], 0) :: (33, .istore_n 2, 1, 2, 0, [], 0) :: uX12_nextToken_18
set_option maxRecDepth 100000 in
def uX12_nextToken_13 : List zEn := (27, .iconst 0, 1, 0, 0, [], 0) :: uX12_nextToken_14
set_option maxRecDepth 100000 in
def uX12_nextToken_11 : List zEn := (23, .iconst 1, 1, 0, 0, [], 1) :: (24, .goto 4, 3, 14, 0, [], 0) :: uX12_nextToken_13
set_option maxRecDepth 100000 in
def uX12_nextToken_0 : List zEn := (0, .aload_n 0, 1, 0, 0, [], 0) :: (1, .getfield 222, 3, 12, 21, [(0, 0), (0, 1271)], 0) :: (4, .ifCond .le 23, 3, 13, 0, [], 0) :: (7, .aload_n 0, 1, 0, 0, [], 0) :: (8, .getfield 225, 3, 12, 22, [(0, 0), (0, 1272)], 0) :: (11, .iconst 1, 1, 0, 0, [], 1) :: (12, .if_icmp .eq 11, 3, 11, 0, [], 0) :: (15, .aload_n 0, 1, 0, 0, [], 0) :: (16, .getfield 225, 3, 12, 22, [(0, 0), (0, 1272)], 0) :: (19, .iconst 2, 1, 0, 0, [], 2) :: (20, .if_icmp .ne 7, 3, 13, 0, [], 0) :: uX12_nextToken_11
set_option maxRecDepth 100000 in
theorem jX12_nextToken_11 : zj pX12_nextToken 11 = uX12_nextToken_11 := rfl
set_option maxRecDepth 100000 in
theorem jX12_nextToken_13 : zj pX12_nextToken 13 = uX12_nextToken_13 := rfl
set_option maxRecDepth 100000 in
theorem jX12_nextToken_14 : zj pX12_nextToken 14 = uX12_nextToken_14 := rfl
set_option maxRecDepth 100000 in
theorem jX12_nextToken_18 : zj pX12_nextToken 18 = uX12_nextToken_18 := rfl
set_option maxRecDepth 100000 in
theorem jX12_nextToken_38 : zj pX12_nextToken 38 = uX12_nextToken_38 := rfl
set_option maxRecDepth 100000 in
theorem jX12_nextToken_46 : zj pX12_nextToken 46 = uX12_nextToken_46 := rfl
set_option maxRecDepth 100000 in
theorem jX12_nextToken_47 : zj pX12_nextToken 47 = uX12_nextToken_47 := rfl
set_option maxRecDepth 100000 in
theorem jX12_nextToken_61 : zj pX12_nextToken 61 = uX12_nextToken_61 := rfl
set_option maxRecDepth 100000 in
theorem jX12_nextToken_66 : zj pX12_nextToken 66 = uX12_nextToken_66 := rfl
set_option maxRecDepth 100000 in
theorem jX12_nextToken_79 : zj pX12_nextToken 79 = uX12_nextToken_79 := rfl
set_option maxRecDepth 100000 in
theorem jX12_nextToken_84 : zj pX12_nextToken 84 = uX12_nextToken_84 := rfl
set_option maxRecDepth 100000 in
theorem jX12_nextToken_85 : zj pX12_nextToken 85 = uX12_nextToken_85 := rfl
set_option maxRecDepth 100000 in
theorem jX12_nextToken_100 : zj pX12_nextToken 100 = uX12_nextToken_100 := rfl
set_option maxRecDepth 100000 in
theorem jX12_nextToken_101 : zj pX12_nextToken 101 = uX12_nextToken_101 := rfl
set_option maxRecDepth 100000 in
theorem jX12_nextToken_103 : zj pX12_nextToken 103 = uX12_nextToken_103 := rfl
set_option maxRecDepth 100000 in
theorem jX12_nextToken_111 : zj pX12_nextToken 111 = uX12_nextToken_111 := rfl
set_option maxRecDepth 100000 in
theorem jX12_nextToken_138 : zj pX12_nextToken 138 = uX12_nextToken_138 := rfl
set_option maxRecDepth 100000 in
theorem jX12_nextToken_140 : zj pX12_nextToken 140 = uX12_nextToken_140 := rfl
set_option maxRecDepth 100000 in
theorem jX12_nextToken_148 : zj pX12_nextToken 148 = uX12_nextToken_148 := rfl
set_option maxRecDepth 100000 in
theorem jX12_nextToken_158 : zj pX12_nextToken 158 = uX12_nextToken_158 := rfl
set_option maxRecDepth 100000 in
theorem jX12_nextToken_160 : zj pX12_nextToken 160 = uX12_nextToken_160 := rfl
set_option maxRecDepth 100000 in
theorem jX12_nextToken_161 : zj pX12_nextToken 161 = uX12_nextToken_161 := rfl
set_option maxRecDepth 100000 in
theorem jX12_nextToken_163 : zj pX12_nextToken 163 = uX12_nextToken_163 := rfl
set_option maxRecDepth 100000 in
theorem jX12_nextToken_179 : zj pX12_nextToken 179 = uX12_nextToken_179 := rfl
set_option maxRecDepth 100000 in
def uX12_isWordAt_56 : List zEn := (103, .ireturn, 1, 1, 0, [], 0) :: []
set_option maxRecDepth 100000 in
def uX12_isWordAt_55 : List zEn := (102, .iconst 0, 1, 0, 0, [], 0) :: uX12_isWordAt_56
set_option maxRecDepth 100000 in
def uX12_isWordAt_53 : List zEn := (98, .iconst 1, 1, 0, 0, [], 1) :: (99, .goto 4, 3, 56, 0, [], 0) :: uX12_isWordAt_55
set_option maxRecDepth 100000 in
def uX12_isWordAt_5 : List zEn := (10, .istore 5, 2, 5, 0, [], 0) :: (12, .aload_n 0, 1, 0, 0, [], 0) :: (13, .getfield 225, 3, 12, 22, [(0, 0), (0, 1272)], 0) :: (16, .iconst 1, 1, 0, 0, [], 1) :: (17, .if_icmp .ne 85, 3, 55, 0, [], 0) :: (20, .aload_n 0, 1, 0, 0, [], 0) :: (21, .getfield 222, 3, 12, 21, [(0, 0), (0, 1271)], 0) :: (24, .aload_n 0, 1, 0, 0, [], 0) :: (25, .getfield 228, 3, 12, 20, [(0, 0), (0, 1270)], 0) :: (28, .isub, 1, 0, 0, [], 0) :: (29, .iload 5, 2, 5, 0, [], 0) :: (31, .if_icmp .ne 71, 3, 55, 0, [], 0) :: (34, .aload_n 0, 1, 0, 0, [], 0) :: (35, .getfield 55, 3, 12, 18, [(0, 2), (0, 1268)], 0) :: (38, .aload_n 0, 1, 0, 0, [], 0) :: (39, .getfield 228, 3, 12, 20, [(0, 0), (0, 1270)], 0) :: (42, .iaload, 1, 0, 0, [], 0) :: (43, .iload_n 1, 1, 1, 0, [], 0) :: (44, .if_icmp .ne 58, 3, 55, 0, [], 0) :: (47, .aload_n 0, 1, 0, 0, [], 0) :: (48, .getfield 55, 3, 12, 18, [(0, 2), (0, 1268)], 0) :: (51, .aload_n 0, 1, 0, 0, [], 0) :: (52, .getfield 228, 3, 12, 20, [(0, 0), (0, 1270)], 0) :: (55, .iconst 1, 1, 0, 0, [], 1) :: (56, .iadd, 1, 0, 0, [], 0) :: (57, .iaload, 1, 0, 0, [], 0) :: (58, .iload_n 2, 1, 2, 0, [], 0) :: (59, .if_icmp .ne 43, 3, 55, 0, [], 0) :: (62, .aload_n 0, 1, 0, 0, [], 0) :: (63, .getfield 55, 3, 12, 18, [(0, 2), (0, 1268)], 0) :: (66, .aload_n 0, 1, 0, 0, [], 0) :: (67, .getfield 228, 3, 12, 20, [(0, 0), (0, 1270)], 0) :: (70, .iconst 2, 1, 0, 0, [], 2) :: (71, .iadd, 1, 0, 0, [], 0) :: (72, .iaload, 1, 0, 0, [], 0) :: (73, .iload_n 3, 1, 3, 0, [], 0) :: (74, .if_icmp .ne 28, 3, 55, 0, [], 0) :: (77, .iload 4, 2, 4, 0, [], 0) :: (79, .ifCond .eq 19, 3, 53, 0, [], 0) :: (82, .aload_n 0, 1, 0, 0, [], 0) :: (83, .getfield 55, 3, 12, 18, [(0, 2), (0, 1268)], 0) :: (86, .aload_n 0, 1, 0, 0, [], 0) :: (87, .getfield 228, 3, 12, 20, [(0, 0), (0, 1270)], 0) :: (90, .iconst 3, 1, 0, 0, [], 3) :: (91, .iadd, 1, 0, 0, [], 0) :: (92, .iaload, 1, 0, 0, [], 0) :: (93, .iload 4, 2, 4, 0, [], 0) :: (95, .if_icmp .ne 7, 3, 55, 0, [], 0) :: uX12_isWordAt_53
set_option maxRecDepth 100000 in
def uX12_isWordAt_4 : List zEn := (9, .iconst 4, 1, 0, 0, [], 4) :: uX12_isWordAt_5
set_option maxRecDepth 100000 in
def uX12_isWordAt_0 : List zEn := (0, .iload 4, 2, 4, 0, [], 0) :: (2, .ifCond .ne 7, 3, 4, 0, [], 0) :: (5, .iconst 3, 1, 0, 0, [], 3) :: (6, .goto 4, 3, 5, 0, [], 0) :: uX12_isWordAt_4
set_option maxRecDepth 100000 in
theorem jX12_isWordAt_4 : zj pX12_isWordAt 4 = uX12_isWordAt_4 := rfl
set_option maxRecDepth 100000 in
theorem jX12_isWordAt_5 : zj pX12_isWordAt 5 = uX12_isWordAt_5 := rfl
set_option maxRecDepth 100000 in
theorem jX12_isWordAt_53 : zj pX12_isWordAt 53 = uX12_isWordAt_53 := rfl
set_option maxRecDepth 100000 in
theorem jX12_isWordAt_55 : zj pX12_isWordAt 55 = uX12_isWordAt_55 := rfl
set_option maxRecDepth 100000 in
theorem jX12_isWordAt_56 : zj pX12_isWordAt 56 = uX12_isWordAt_56 := rfl
set_option maxRecDepth 100000 in
def uX12_isLong_74 : List zEn := (136, .ireturn, 1, 1, 0, [], 0) :: []
set_option maxRecDepth 100000 in
def uX12_isLong_73 : List zEn := (135, .iconst 0, 1, 0, 0, [], 0) :: uX12_isLong_74
set_option maxRecDepth 100000 in
def uX12_isLong_71 : List zEn := (131, .iconst 1, 1, 0, 0, [], 1) :: (132, .goto 4, 3, 74, 0, [], 0) :: uX12_isLong_73
set_option maxRecDepth 100000 in
def uX12_isLong_5 : List zEn := (11, .istore 7, 2, 7, 0, [], 0) :: (13, .aload_n 0, 1, 0, 0, [], 0) :: (14, .getfield 225, 3, 12, 22, [(0, 0), (0, 1272)], 0) :: (17, .iconst 1, 1, 0, 0, [], 1) :: (18, .if_icmp .ne 117, 3, 73, 0, [], 0) :: (21, .aload_n 0, 1, 0, 0, [], 0) :: (22, .getfield 222, 3, 12, 21, [(0, 0), (0, 1271)], 0) :: (25, .aload_n 0, 1, 0, 0, [], 0) :: (26, .getfield 228, 3, 12, 20, [(0, 0), (0, 1270)], 0) :: (29, .isub, 1, 0, 0, [], 0) :: (30, .iload 7, 2, 7, 0, [], 0) :: (32, .if_icmp .ne 103, 3, 73, 0, [], 0) :: (35, .aload_n 0, 1, 0, 0, [], 0) :: (36, .getfield 55, 3, 12, 18, [(0, 2), (0, 1268)], 0) :: (39, .aload_n 0, 1, 0, 0, [], 0) :: (40, .getfield 228, 3, 12, 20, [(0, 0), (0, 1270)], 0) :: (43, .iaload, 1, 0, 0, [], 0) :: (44, .iload_n 1, 1, 1, 0, [], 0) :: (45, .if_icmp .ne 90, 3, 73, 0, [], 0) :: (48, .aload_n 0, 1, 0, 0, [], 0) :: (49, .getfield 55, 3, 12, 18, [(0, 2), (0, 1268)], 0) :: (52, .aload_n 0, 1, 0, 0, [], 0) :: (53, .getfield 228, 3, 12, 20, [(0, 0), (0, 1270)], 0) :: (56, .iconst 1, 1, 0, 0, [], 1) :: (57, .iadd, 1, 0, 0, [], 0) :: (58, .iaload, 1, 0, 0, [], 0) :: (59, .iload_n 2, 1, 2, 0, [], 0) :: (60, .if_icmp .ne 75, 3, 73, 0, [], 0) :: (63, .aload_n 0, 1, 0, 0, [], 0) :: (64, .getfield 55, 3, 12, 18, [(0, 2), (0, 1268)], 0) :: (67, .aload_n 0, 1, 0, 0, [], 0) :: (68, .getfield 228, 3, 12, 20, [(0, 0), (0, 1270)], 0) :: (71, .iconst 2, 1, 0, 0, [], 2) :: (72, .iadd, 1, 0, 0, [], 0) :: (73, .iaload, 1, 0, 0, [], 0) :: (74, .iload_n 3, 1, 3, 0, [], 0) :: (75, .if_icmp .ne 60, 3, 73, 0, [], 0) :: (78, .aload_n 0, 1, 0, 0, [], 0) :: (79, .getfield 55, 3, 12, 18, [(0, 2), (0, 1268)], 0) :: (82, .aload_n 0, 1, 0, 0, [], 0) :: (83, .getfield 228, 3, 12, 20, [(0, 0), (0, 1270)], 0) :: (86, .iconst 3, 1, 0, 0, [], 3) :: (87, .iadd, 1, 0, 0, [], 0) :: (88, .iaload, 1, 0, 0, [], 0) :: (89, .iload 4, 2, 4, 0, [], 0) :: (91, .if_icmp .ne 44, 3, 73, 0, [], 0) :: (94, .aload_n 0, 1, 0, 0, [], 0) :: (95, .getfield 55, 3, 12, 18, [(0, 2), (0, 1268)], 0) :: (98, .aload_n 0, 1, 0, 0, [], 0) :: (99, .getfield 228, 3, 12, 20, [(0, 0), (0, 1270)], 0) :: (102, .iconst 4, 1, 0, 0, [], 4) :: (103, .iadd, 1, 0, 0, [], 0) :: (104, .iaload, 1, 0, 0, [], 0) :: (105, .iload 5, 2, 5, 0, [], 0) :: (107, .if_icmp .ne 28, 3, 73, 0, [], 0) :: (110, .iload 6, 2, 6, 0, [], 0) :: (112, .ifCond .eq 19, 3, 71, 0, [], 0) :: (115, .aload_n 0, 1, 0, 0, [], 0) :: (116, .getfield 55, 3, 12, 18, [(0, 2), (0, 1268)], 0) :: (119, .aload_n 0, 1, 0, 0, [], 0) :: (120, .getfield 228, 3, 12, 20, [(0, 0), (0, 1270)], 0) :: (123, .iconst 5, 1, 0, 0, [], 5) :: (124, .iadd, 1, 0, 0, [], 0) :: (125, .iaload, 1, 0, 0, [], 0) :: (126, .iload 6, 2, 6, 0, [], 0) :: (128, .if_icmp .ne 7, 3, 73, 0, [], 0) :: uX12_isLong_71
set_option maxRecDepth 100000 in
def uX12_isLong_4 : List zEn := (9, .bipush 6, 2, 0, 0, [], 6) :: uX12_isLong_5
set_option maxRecDepth 100000 in
def uX12_isLong_0 : List zEn := (0, .iload 6, 2, 6, 0, [], 0) :: (2, .ifCond .ne 7, 3, 4, 0, [], 0) :: (5, .iconst 5, 1, 0, 0, [], 5) :: (6, .goto 5, 3, 5, 0, [], 0) :: uX12_isLong_4
set_option maxRecDepth 100000 in
theorem jX12_isLong_4 : zj pX12_isLong 4 = uX12_isLong_4 := rfl
set_option maxRecDepth 100000 in
theorem jX12_isLong_5 : zj pX12_isLong 5 = uX12_isLong_5 := rfl
set_option maxRecDepth 100000 in
theorem jX12_isLong_71 : zj pX12_isLong 71 = uX12_isLong_71 := rfl
set_option maxRecDepth 100000 in
theorem jX12_isLong_73 : zj pX12_isLong 73 = uX12_isLong_73 := rfl
set_option maxRecDepth 100000 in
theorem jX12_isLong_74 : zj pX12_isLong 74 = uX12_isLong_74 := rfl
set_option maxRecDepth 100000 in
def uX12_key_30 : List zEn := (57, .ireturn, 1, 0, 0, [], 0) :: []
set_option maxRecDepth 100000 in
def uX12_key_29 : List zEn := (56, .iconst (-1), 1, 0, 0, [], (-1)) :: uX12_key_30
set_option maxRecDepth 100000 in
def uX12_key_18 : List zEn := (34, .aload_n 0, 1, 0, 0, [], 0) :: (35, .bipush 115, 2, 0, 0, [], 115) :: (37, .bipush 99, 2, 0, 0, [], 99) :: (39, .bipush 114, 2, 0, 0, [], 114) :: (41, .bipush 97, 2, 0, 0, [], 97) :: (43, .bipush 112, 2, 0, 0, [], 112) :: (45, .iconst 0, 1, 0, 0, [], 0) :: (46, .invokevirtual 247, 3, 177, 7, [(0, 1), (0, 0), (0, 0), (0, 12), (0, 1618)], 0) :: (49, .ifCond .eq 7, 3, 29, 0, [], 0) :: (52, .iconst 1, 1, 0, 0, [], 1) :: (53, .goto 4, 3, 30, 0, [], 0) :: uX12_key_29
set_option maxRecDepth 100000 in
def uX12_key_9 : List zEn := (17, .aload_n 0, 1, 0, 0, [], 0) :: (18, .bipush 98, 2, 0, 0, [], 98) :: (20, .bipush 97, 2, 0, 0, [], 97) :: (22, .bipush 99, 2, 0, 0, [], 99) :: (24, .bipush 107, 2, 0, 0, [], 107) :: (26, .invokevirtual 243, 3, 176, 5, [(0, 1), (0, 0), (0, 0), (0, 12), (0, 1614)], 0) :: (29, .ifCond .eq 5, 3, 18, 0, [], 0) :: (32, .iconst 2, 1, 0, 0, [], 2) :: (33, .ireturn, 1, 0, 0, [], 0) :: uX12_key_18
set_option maxRecDepth 100000 in
def uX12_key_0 : List zEn := (0, .aload_n 0, 1, 0, 0, [], 0) :: (1, .bipush 115, 2, 0, 0, [], 115) :: (3, .bipush 97, 2, 0, 0, [], 97) :: (5, .bipush 108, 2, 0, 0, [], 108) :: (7, .bipush 101, 2, 0, 0, [], 101) :: (9, .invokevirtual 243, 3, 176, 5, [(0, 1), (0, 0), (0, 0), (0, 12), (0, 1614)], 0) :: (12, .ifCond .eq 5, 3, 9, 0, [], 0) :: (15, .iconst 0, 1, 0, 0, [], 0) :: (16, .ireturn, 1, 0, 0, [], 0) :: uX12_key_9
set_option maxRecDepth 100000 in
theorem jX12_key_9 : zj pX12_key 9 = uX12_key_9 := rfl
set_option maxRecDepth 100000 in
theorem jX12_key_18 : zj pX12_key 18 = uX12_key_18 := rfl
set_option maxRecDepth 100000 in
theorem jX12_key_29 : zj pX12_key 29 = uX12_key_29 := rfl
set_option maxRecDepth 100000 in
theorem jX12_key_30 : zj pX12_key 30 = uX12_key_30 := rfl
set_option maxRecDepth 100000 in
def uX12_step_0 : List zEn := (0, .aload_n 0, 1, 0, 0, [], 0) :: (1, .getfield 7, 3, 12, 0, [(0, 2), (0, 1250)], 0) :: (4, .aload_n 0, 1, 0, 0, [], 0) :: (5, .getfield 251, 3, 12, 28, [(0, 0), (0, 1278)], 0) :: (8, .iconst 2, 1, 0, 0, [], 2) :: (9, .aload_n 0, 1, 0, 0, [], 0) :: (10, .getfield 254, 3, 12, 27, [(0, 0), (0, 1277)], 0) :: (13, .imul, 1, 0, 0, [], 0) :: (14, .iadd, 1, 0, 0, [], 0) :: (15, .iload_n 1, 1, 1, 0, [], 0) :: (16, .iastore, 1, 0, 0, [], 0) :: (17, .aload_n 0, 1, 0, 0, [], 0) :: (18, .getfield 7, 3, 12, 0, [(0, 2), (0, 1250)], 0) :: (21, .aload_n 0, 1, 0, 0, [], 0) :: (22, .getfield 251, 3, 12, 28, [(0, 0), (0, 1278)], 0) :: (25, .iconst 2, 1, 0, 0, [], 2) :: (26, .aload_n 0, 1, 0, 0, [], 0) :: (27, .getfield 254, 3, 12, 27, [(0, 0), (0, 1277)], 0) :: (30, .imul, 1, 0, 0, [], 0) :: (31, .iadd, 1, 0, 0, [], 0) :: (32, .iconst 1, 1, 0, 0, [], 1) :: (33, .iadd, 1, 0, 0, [], 0) :: (34, .iload_n 2, 1, 2, 0, [], 0) :: (35, .iastore, 1, 0, 0, [], 0) :: (36, .aload_n 0, 1, 0, 0, [], 0) :: (37, .dup, 1, 0, 0, [], 0) :: (38, .getfield 254, 3, 12, 27, [(0, 0), (0, 1277)], 0) :: (41, .iconst 1, 1, 0, 0, [], 1) :: (42, .iadd, 1, 0, 0, [], 0) :: (43, .putfield 254, 3, 12, 27, [(0, 0), (0, 1277)], 0) :: (46, .return_, 1, 0, 0, [], 0) :: []
set_option maxRecDepth 100000 in
def uX12_isName_43 : List zEn := (105, .ireturn, 1, 1, 0, [], 0) :: []
set_option maxRecDepth 100000 in
def uX12_isName_42 : List zEn := (104, .iconst 0, 1, 0, 0, [], 0) :: uX12_isName_43
set_option maxRecDepth 100000 in
def uX12_isName_40 : List zEn := (100, .iconst 1, 1, 0, 0, [], 1) :: (101, .goto 4, 3, 43, 0, [], 0) :: uX12_isName_42
set_option maxRecDepth 100000 in
def uX12_isName_31 : List zEn := (82, .iload_n 1, 1, 1, 0, [], 0) :: (83, .bipush 98, 2, 0, 0, [], 98) :: (85, .if_icmp .eq 15, 3, 40, 0, [], 0) :: (88, .iload_n 1, 1, 1, 0, [], 0) :: (89, .bipush 115, 2, 0, 0, [], 115) :: (91, .if_icmp .eq 9, 3, 40, 0, [], 0) :: (94, .iload_n 1, 1, 1, 0, [], 0) :: (95, .bipush 102, 2, 0, 0, [], 102) :: (97, .if_icmp .ne 7, 3, 42, 0, [], 0) :: uX12_isName_40
set_option maxRecDepth 100000 in
def uX12_isName_30 : List zEn := (81, .ireturn, 1, 1, 0, [], 0) :: uX12_isName_31
set_option maxRecDepth 100000 in
def uX12_isName_29 : List zEn := (80, .iconst 0, 1, 0, 0, [], 0) :: uX12_isName_30
set_option maxRecDepth 100000 in
def uX12_isName_27 : List zEn := (76, .iconst 1, 1, 0, 0, [], 1) :: (77, .goto 4, 3, 30, 0, [], 0) :: uX12_isName_29
set_option maxRecDepth 100000 in
def uX12_isName_18 : List zEn := (58, .iload_n 1, 1, 1, 0, [], 0) :: (59, .bipush 107, 2, 0, 0, [], 107) :: (61, .if_icmp .eq 15, 3, 27, 0, [], 0) :: (64, .iload_n 1, 1, 1, 0, [], 0) :: (65, .bipush 103, 2, 0, 0, [], 103) :: (67, .if_icmp .eq 9, 3, 27, 0, [], 0) :: (70, .iload_n 1, 1, 1, 0, [], 0) :: (71, .bipush 100, 2, 0, 0, [], 100) :: (73, .if_icmp .ne 7, 3, 29, 0, [], 0) :: uX12_isName_27
set_option maxRecDepth 100000 in
def uX12_isName_17 : List zEn := (57, .ireturn, 1, 1, 0, [], 0) :: uX12_isName_18
set_option maxRecDepth 100000 in
def uX12_isName_16 : List zEn := (56, .iconst 0, 1, 0, 0, [], 0) :: uX12_isName_17
set_option maxRecDepth 100000 in
def uX12_isName_14 : List zEn := (52, .iconst 1, 1, 0, 0, [], 1) :: (53, .goto 4, 3, 17, 0, [], 0) :: uX12_isName_16
set_option maxRecDepth 100000 in
def uX12_isName_2 : List zEn := (28, .iload_n 1, 1, 1, 0, [], 0) :: (29, .bipush 107, 2, 0, 0, [], 107) :: (31, .if_icmp .eq 21, 3, 14, 0, [], 0) :: (34, .iload_n 1, 1, 1, 0, [], 0) :: (35, .bipush 102, 2, 0, 0, [], 102) :: (37, .if_icmp .eq 15, 3, 14, 0, [], 0) :: (40, .iload_n 1, 1, 1, 0, [], 0) :: (41, .bipush 115, 2, 0, 0, [], 115) :: (43, .if_icmp .eq 9, 3, 14, 0, [], 0) :: (46, .iload_n 1, 1, 1, 0, [], 0) :: (47, .bipush 100, 2, 0, 0, [], 100) :: (49, .if_icmp .ne 7, 3, 16, 0, [], 0) :: uX12_isName_14
set_option maxRecDepth 100000 in
def uX12_isName_0 : List zEn := (0, .iload_n 0, 1, 0, 0, [], 0) :: (1, .lookupswitch 81 #[(0, 27), (1, 57)], 27, 31, 0, [(0, 2), (1, 18)], 0) :: uX12_isName_2
set_option maxRecDepth 100000 in
theorem jX12_isName_2 : zj pX12_isName 2 = uX12_isName_2 := rfl
set_option maxRecDepth 100000 in
theorem jX12_isName_14 : zj pX12_isName 14 = uX12_isName_14 := rfl
set_option maxRecDepth 100000 in
theorem jX12_isName_16 : zj pX12_isName 16 = uX12_isName_16 := rfl
set_option maxRecDepth 100000 in
theorem jX12_isName_17 : zj pX12_isName 17 = uX12_isName_17 := rfl
set_option maxRecDepth 100000 in
theorem jX12_isName_18 : zj pX12_isName 18 = uX12_isName_18 := rfl
set_option maxRecDepth 100000 in
theorem jX12_isName_27 : zj pX12_isName 27 = uX12_isName_27 := rfl
set_option maxRecDepth 100000 in
theorem jX12_isName_29 : zj pX12_isName 29 = uX12_isName_29 := rfl
set_option maxRecDepth 100000 in
theorem jX12_isName_30 : zj pX12_isName 30 = uX12_isName_30 := rfl
set_option maxRecDepth 100000 in
theorem jX12_isName_31 : zj pX12_isName 31 = uX12_isName_31 := rfl
set_option maxRecDepth 100000 in
theorem jX12_isName_40 : zj pX12_isName 40 = uX12_isName_40 := rfl
set_option maxRecDepth 100000 in
theorem jX12_isName_42 : zj pX12_isName 42 = uX12_isName_42 := rfl
set_option maxRecDepth 100000 in
theorem jX12_isName_43 : zj pX12_isName 43 = uX12_isName_43 := rfl
set_option maxRecDepth 100000 in
def uX12_isSign_11 : List zEn := (21, .ireturn, 1, 1, 0, [], 0) :: []
set_option maxRecDepth 100000 in
def uX12_isSign_10 : List zEn := (20, .iconst 0, 1, 0, 0, [], 0) :: uX12_isSign_11
set_option maxRecDepth 100000 in
def uX12_isSign_0 : List zEn := (0, .aload_n 0, 1, 0, 0, [], 0) :: (1, .getfield 225, 3, 12, 22, [(0, 0), (0, 1272)], 0) :: (4, .iconst 3, 1, 0, 0, [], 3) :: (5, .if_icmp .ne 15, 3, 10, 0, [], 0) :: (8, .aload_n 0, 1, 0, 0, [], 0) :: (9, .getfield 234, 3, 12, 24, [(0, 0), (0, 1274)], 0) :: (12, .iload_n 1, 1, 1, 0, [], 0) :: (13, .if_icmp .ne 7, 3, 10, 0, [], 0) :: (16, .iconst 1, 1, 0, 0, [], 1) :: (17, .goto 4, 3, 11, 0, [], 0) :: uX12_isSign_10
set_option maxRecDepth 100000 in
theorem jX12_isSign_10 : zj pX12_isSign 10 = uX12_isSign_10 := rfl
set_option maxRecDepth 100000 in
theorem jX12_isSign_11 : zj pX12_isSign 11 = uX12_isSign_11 := rfl
set_option maxRecDepth 100000 in
def uX12_part0_108 : List zEn := (198, .aload_n 0, 1, 0, 0, [], 0) :: (199, .dup, 1, 0, 0, [], 0) :: (200, .getfield 291, 3, 12, 25, [(0, 0), (0, 1275)], 0) :: (203, .iconst 1, 1, 0, 0, [], 1) :: (204, .isub, 1, 0, 0, [], 0) :: (205, .putfield 291, 3, 12, 25, [(0, 0), (0, 1275)], 0) :: (208, .aload_n 0, 1, 0, 0, [], 0) :: (209, .invokevirtual 263, 3, 175, 1, [(0, 0), (0, 0), (0, 0), (0, 12), (0, 1594)], 0) :: (212, .iconst 1, 1, 0, 0, [], 1) :: (213, .ireturn, 1, 1, 0, [], 0) :: []
set_option maxRecDepth 100000 in
def uX12_part0_106 : List zEn := (196, .iconst 0, 1, 0, 0, [], 0) :: (197, .ireturn, 1, 1, 0, [], 0) :: uX12_part0_108
set_option maxRecDepth 100000 in
def uX12_part0_90 : List zEn := (165, .aload_n 0, 1, 0, 0, [], 0) :: (166, .dup, 1, 0, 0, [], 0) :: (167, .getfield 291, 3, 12, 25, [(0, 0), (0, 1275)], 0) :: (170, .iconst 1, 1, 0, 0, [], 1) :: (171, .iadd, 1, 0, 0, [], 0) :: (172, .putfield 291, 3, 12, 25, [(0, 0), (0, 1275)], 0) :: (175, .aload_n 0, 1, 0, 0, [], 0) :: (176, .invokevirtual 263, 3, 175, 1, [(0, 0), (0, 0), (0, 0), (0, 12), (0, 1594)], 0) :: (179, .aload_n 0, 1, 0, 0, [], 0) :: (180, .iload_n 1, 1, 1, 0, [], 0) :: (181, .invokevirtual 294, 3, 187, 2, [(0, 1), (0, 0), (0, 0), (0, 12), (0, 1622)], 0) :: (184, .ifCond .eq 12, 3, 106, 0, [], 0) :: (187, .aload_n 0, 1, 0, 0, [], 0) :: (188, .bipush 41, 2, 0, 0, [], 41) :: (190, .invokevirtual 260, 3, 181, 2, [(0, 1), (0, 0), (0, 0), (0, 12), (0, 1653)], 0) :: (193, .ifCond .ne 5, 3, 108, 0, [], 0) :: uX12_part0_106
set_option maxRecDepth 100000 in
def uX12_part0_88 : List zEn := (163, .iconst 0, 1, 0, 0, [], 0) :: (164, .ireturn, 1, 1, 0, [], 0) :: uX12_part0_90
set_option maxRecDepth 100000 in
def uX12_part0_80 : List zEn := (145, .aload_n 0, 1, 0, 0, [], 0) :: (146, .bipush 40, 2, 0, 0, [], 40) :: (148, .invokevirtual 260, 3, 181, 2, [(0, 1), (0, 0), (0, 0), (0, 12), (0, 1653)], 0) :: (151, .ifCond .eq 12, 3, 88, 0, [], 0) :: (154, .aload_n 0, 1, 0, 0, [], 0) :: (155, .getfield 291, 3, 12, 25, [(0, 0), (0, 1275)], 0) :: (158, .bipush 8, 2, 0, 0, [], 8) :: (160, .if_icmp .ne 5, 3, 90, 0, [], 0) :: uX12_part0_88
set_option maxRecDepth 100000 in
def uX12_part0_68 : List zEn := (126, .aload_n 0, 1, 0, 0, [], 0) :: (127, .dup, 1, 0, 0, [], 0) :: (128, .getfield 288, 3, 12, 26, [(0, 0), (0, 1276)], 0) :: (131, .iconst 1, 1, 0, 0, [], 1) :: (132, .isub, 1, 0, 0, [], 0) :: (133, .putfield 288, 3, 12, 26, [(0, 0), (0, 1276)], 0) :: (136, .aload_n 0, 1, 0, 0, [], 0) :: (137, .iconst 2, 1, 0, 0, [], 2) :: (138, .bipush 33, 2, 0, 0, [], 33) :: (140, .invokevirtual 266, 3, 179, 3, [(0, 0), (0, 0), (0, 0), (0, 12), (0, 1646)], 0) :: (143, .iconst 1, 1, 0, 0, [], 1) :: (144, .ireturn, 1, 1, 0, [], 0) :: uX12_part0_80
set_option maxRecDepth 100000 in
def uX12_part0_46 : List zEn := (84, .aload_n 0, 1, 0, 0, [], 0) :: (85, .bipush 33, 2, 0, 0, [], 33) :: (87, .invokevirtual 260, 3, 181, 2, [(0, 1), (0, 0), (0, 0), (0, 12), (0, 1653)], 0) :: (90, .ifCond .eq 55, 3, 80, 0, [], 0) :: (93, .aload_n 0, 1, 0, 0, [], 0) :: (94, .getfield 288, 3, 12, 26, [(0, 0), (0, 1276)], 0) :: (97, .bipush 8, 2, 0, 0, [], 8) :: (99, .if_icmp .ge 46, 3, 80, 0, [], 0) :: (102, .aload_n 0, 1, 0, 0, [], 0) :: (103, .dup, 1, 0, 0, [], 0) :: (104, .getfield 288, 3, 12, 26, [(0, 0), (0, 1276)], 0) :: (107, .iconst 1, 1, 0, 0, [], 1) :: (108, .iadd, 1, 0, 0, [], 0) :: (109, .putfield 288, 3, 12, 26, [(0, 0), (0, 1276)], 0) :: (112, .aload_n 0, 1, 0, 0, [], 0) :: (113, .invokevirtual 263, 3, 175, 1, [(0, 0), (0, 0), (0, 0), (0, 12), (0, 1594)], 0) :: (116, .aload_n 0, 1, 0, 0, [], 0) :: (117, .iload_n 1, 1, 1, 0, [], 0) :: (118, .invokevirtual 279, 3, 182, 2, [(0, 1), (0, 0), (0, 0), (0, 12), (0, 1642)], 0) :: (121, .ifCond .ne 5, 3, 68, 0, [], 0) :: (124, .iconst 0, 1, 0, 0, [], 0) :: (125, .ireturn, 1, 1, 0, [], 0) :: uX12_part0_68
set_option maxRecDepth 100000 in
def uX12_part0_19 : List zEn := (33, .aload_n 0, 1, 0, 0, [], 0) :: (34, .getfield 225, 3, 12, 22, [(0, 0), (0, 1272)], 0) :: (37, .iconst 1, 1, 0, 0, [], 1) :: (38, .if_icmp .ne 46, 3, 46, 0, [], 0) :: (41, .aload_n 0, 1, 0, 0, [], 0) :: (42, .getfield 234, 3, 12, 24, [(0, 0), (0, 1274)], 0) :: (45, .ifCond .eq 39, 3, 46, 0, [], 0) :: (48, .iload_n 1, 1, 1, 0, [], 0) :: (49, .aload_n 0, 1, 0, 0, [], 0) :: (50, .getfield 234, 3, 12, 24, [(0, 0), (0, 1274)], 0) :: (53, .invokestatic 285, 3, 180, 2, [(0, 1), (0, 0), (0, 0), (0, 1650)], 0) :: (56, .ifCond .eq 28, 3, 46, 0, [], 0) :: (59, .aload_n 0, 1, 0, 0, [], 0) :: (60, .iconst 1, 1, 0, 0, [], 1) :: (61, .aload_n 0, 1, 0, 0, [], 0) :: (62, .getfield 234, 3, 12, 24, [(0, 0), (0, 1274)], 0) :: (65, .invokevirtual 266, 3, 179, 3, [(0, 0), (0, 0), (0, 0), (0, 12), (0, 1646)], 0) :: (68, .aload_n 0, 1, 0, 0, [], 0) :: (69, .dup, 1, 0, 0, [], 0) :: (70, .getfield 282, 3, 12, 29, [(0, 0), (0, 1279)], 0) :: (73, .iconst 1, 1, 0, 0, [], 1) :: (74, .iadd, 1, 0, 0, [], 0) :: (75, .putfield 282, 3, 12, 29, [(0, 0), (0, 1279)], 0) :: (78, .aload_n 0, 1, 0, 0, [], 0) :: (79, .invokevirtual 263, 3, 175, 1, [(0, 0), (0, 0), (0, 0), (0, 12), (0, 1594)], 0) :: (82, .iconst 1, 1, 0, 0, [], 1) :: (83, .ireturn, 1, 1, 0, [], 0) :: uX12_part0_46
set_option maxRecDepth 100000 in
def uX12_part0_0 : List zEn := (0, .aload_n 0, 1, 0, 0, [], 0) :: (1, .getfield 225, 3, 12, 22, [(0, 0), (0, 1272)], 0) :: (4, .iconst 2, 1, 0, 0, [], 2) :: (5, .if_icmp .ne 28, 3, 19, 0, [], 0) :: (8, .aload_n 0, 1, 0, 0, [], 0) :: (9, .iconst 0, 1, 0, 0, [], 0) :: (10, .aload_n 0, 1, 0, 0, [], 0) :: (11, .getfield 240, 3, 12, 23, [(0, 0), (0, 1273)], 0) :: (14, .invokevirtual 266, 3, 179, 3, [(0, 0), (0, 0), (0, 0), (0, 12), (0, 1646)], 0) :: (17, .aload_n 0, 1, 0, 0, [], 0) :: (18, .dup, 1, 0, 0, [], 0) :: (19, .getfield 282, 3, 12, 29, [(0, 0), (0, 1279)], 0) :: (22, .iconst 1, 1, 0, 0, [], 1) :: (23, .iadd, 1, 0, 0, [], 0) :: (24, .putfield 282, 3, 12, 29, [(0, 0), (0, 1279)], 0) :: (27, .aload_n 0, 1, 0, 0, [], 0) :: (28, .invokevirtual 263, 3, 175, 1, [(0, 0), (0, 0), (0, 0), (0, 12), (0, 1594)], 0) :: (31, .iconst 1, 1, 0, 0, [], 1) :: (32, .ireturn, 1, 1, 0, [], 0) :: uX12_part0_19
set_option maxRecDepth 100000 in
theorem jX12_part0_19 : zj pX12_part0 19 = uX12_part0_19 := rfl
set_option maxRecDepth 100000 in
theorem jX12_part0_46 : zj pX12_part0 46 = uX12_part0_46 := rfl
set_option maxRecDepth 100000 in
theorem jX12_part0_68 : zj pX12_part0 68 = uX12_part0_68 := rfl
set_option maxRecDepth 100000 in
theorem jX12_part0_80 : zj pX12_part0 80 = uX12_part0_80 := rfl
set_option maxRecDepth 100000 in
theorem jX12_part0_88 : zj pX12_part0 88 = uX12_part0_88 := rfl
set_option maxRecDepth 100000 in
theorem jX12_part0_90 : zj pX12_part0 90 = uX12_part0_90 := rfl
set_option maxRecDepth 100000 in
theorem jX12_part0_106 : zj pX12_part0 106 = uX12_part0_106 := rfl
set_option maxRecDepth 100000 in
theorem jX12_part0_108 : zj pX12_part0 108 = uX12_part0_108 := rfl
set_option maxRecDepth 100000 in
def uX12_term_31 : List zEn := (56, .iconst 1, 1, 0, 0, [], 1) :: (57, .ireturn, 1, 1, 0, [], 0) :: []
set_option maxRecDepth 100000 in
def uX12_term_26 : List zEn := (47, .aload_n 0, 1, 0, 0, [], 0) :: (48, .iconst 2, 1, 0, 0, [], 2) :: (49, .iload_n 2, 1, 2, 0, [], 0) :: (50, .invokevirtual 266, 3, 179, 3, [(0, 0), (0, 0), (0, 0), (0, 12), (0, 1646)], 0) :: (53, .goto (-43), 3, 6, 0, [], 0) :: uX12_term_31
set_option maxRecDepth 100000 in
def uX12_term_15 : List zEn := (28, .aload_n 0, 1, 0, 0, [], 0) :: (29, .getfield 234, 3, 12, 24, [(0, 0), (0, 1274)], 0) :: (32, .istore_n 2, 1, 2, 0, [], 0) :: (33, .aload_n 0, 1, 0, 0, [], 0) :: (34, .invokevirtual 263, 3, 175, 1, [(0, 0), (0, 0), (0, 0), (0, 12), (0, 1594)], 0) :: (37, .aload_n 0, 1, 0, 0, [], 0) :: (38, .iload_n 1, 1, 1, 0, [], 0) :: (39, .invokevirtual 279, 3, 182, 2, [(0, 1), (0, 0), (0, 0), (0, 12), (0, 1642)], 0) :: (42, .ifCond .ne 5, 3, 26, 0, [], 0) :: (45, .iconst 0, 1, 0, 0, [], 0) :: (46, .ireturn, 1, 1, 0, [], 0) :: uX12_term_26
set_option maxRecDepth 100000 in
def uX12_term_7 : List zEn := (10, .aload_n 0, 1, 0, 0, [], 0) :: (11, .bipush 42, 2, 0, 0, [], 42) :: (13, .invokevirtual 260, 3, 181, 2, [(0, 1), (0, 0), (0, 0), (0, 12), (0, 1653)], 0) :: (16, .ifCond .ne 12, 3, 15, 0, [], 0) :: (19, .aload_n 0, 1, 0, 0, [], 0) :: (20, .bipush 47, 2, 0, 0, [], 47) :: (22, .invokevirtual 260, 3, 181, 2, [(0, 1), (0, 0), (0, 0), (0, 12), (0, 1653)], 0) :: (25, .ifCond .eq 31, 3, 31, 0, [], 0) :: uX12_term_15
set_option maxRecDepth 100000 in
def tX12_term_7 : List zEn := uX12_term_7
set_option maxRecDepth 100000 in
def uX12_term_6 : List zEn := (10, .nop, 0, 0, 0, [], 0) :: tX12_term_7
set_option maxRecDepth 100000 in
def uX12_term_0 : List zEn := (0, .aload_n 0, 1, 0, 0, [], 0) :: (1, .iload_n 1, 1, 1, 0, [], 0) :: (2, .invokevirtual 279, 3, 182, 2, [(0, 1), (0, 0), (0, 0), (0, 12), (0, 1642)], 0) :: (5, .ifCond .ne 5, 3, 6, 0, [], 0) :: (8, .iconst 0, 1, 0, 0, [], 0) :: (9, .ireturn, 1, 1, 0, [], 0) :: uX12_term_6
set_option maxRecDepth 100000 in
theorem jX12_term_6 : zj pX12_term 6 = uX12_term_6 := rfl
set_option maxRecDepth 100000 in
theorem jX12_term_15 : zj pX12_term 15 = uX12_term_15 := rfl
set_option maxRecDepth 100000 in
theorem jX12_term_26 : zj pX12_term 26 = uX12_term_26 := rfl
set_option maxRecDepth 100000 in
theorem jX12_term_31 : zj pX12_term 31 = uX12_term_31 := rfl
set_option maxRecDepth 100000 in
def uX12_sum_31 : List zEn := (56, .iconst 1, 1, 0, 0, [], 1) :: (57, .ireturn, 1, 1, 0, [], 0) :: []
set_option maxRecDepth 100000 in
def uX12_sum_26 : List zEn := (47, .aload_n 0, 1, 0, 0, [], 0) :: (48, .iconst 2, 1, 0, 0, [], 2) :: (49, .iload_n 2, 1, 2, 0, [], 0) :: (50, .invokevirtual 266, 3, 179, 3, [(0, 0), (0, 0), (0, 0), (0, 12), (0, 1646)], 0) :: (53, .goto (-43), 3, 6, 0, [], 0) :: uX12_sum_31
set_option maxRecDepth 100000 in
def uX12_sum_15 : List zEn := (28, .aload_n 0, 1, 0, 0, [], 0) :: (29, .getfield 234, 3, 12, 24, [(0, 0), (0, 1274)], 0) :: (32, .istore_n 2, 1, 2, 0, [], 0) :: (33, .aload_n 0, 1, 0, 0, [], 0) :: (34, .invokevirtual 263, 3, 175, 1, [(0, 0), (0, 0), (0, 0), (0, 12), (0, 1594)], 0) :: (37, .aload_n 0, 1, 0, 0, [], 0) :: (38, .iload_n 1, 1, 1, 0, [], 0) :: (39, .invokevirtual 276, 3, 183, 2, [(0, 1), (0, 0), (0, 0), (0, 12), (0, 1638)], 0) :: (42, .ifCond .ne 5, 3, 26, 0, [], 0) :: (45, .iconst 0, 1, 0, 0, [], 0) :: (46, .ireturn, 1, 1, 0, [], 0) :: uX12_sum_26
set_option maxRecDepth 100000 in
def uX12_sum_7 : List zEn := (10, .aload_n 0, 1, 0, 0, [], 0) :: (11, .bipush 43, 2, 0, 0, [], 43) :: (13, .invokevirtual 260, 3, 181, 2, [(0, 1), (0, 0), (0, 0), (0, 12), (0, 1653)], 0) :: (16, .ifCond .ne 12, 3, 15, 0, [], 0) :: (19, .aload_n 0, 1, 0, 0, [], 0) :: (20, .bipush 45, 2, 0, 0, [], 45) :: (22, .invokevirtual 260, 3, 181, 2, [(0, 1), (0, 0), (0, 0), (0, 12), (0, 1653)], 0) :: (25, .ifCond .eq 31, 3, 31, 0, [], 0) :: uX12_sum_15
set_option maxRecDepth 100000 in
def tX12_sum_7 : List zEn := uX12_sum_7
set_option maxRecDepth 100000 in
def uX12_sum_6 : List zEn := (10, .nop, 0, 0, 0, [], 0) :: tX12_sum_7
set_option maxRecDepth 100000 in
def uX12_sum_0 : List zEn := (0, .aload_n 0, 1, 0, 0, [], 0) :: (1, .iload_n 1, 1, 1, 0, [], 0) :: (2, .invokevirtual 276, 3, 183, 2, [(0, 1), (0, 0), (0, 0), (0, 12), (0, 1638)], 0) :: (5, .ifCond .ne 5, 3, 6, 0, [], 0) :: (8, .iconst 0, 1, 0, 0, [], 0) :: (9, .ireturn, 1, 1, 0, [], 0) :: uX12_sum_6
set_option maxRecDepth 100000 in
theorem jX12_sum_6 : zj pX12_sum 6 = uX12_sum_6 := rfl
set_option maxRecDepth 100000 in
theorem jX12_sum_15 : zj pX12_sum 15 = uX12_sum_15 := rfl
set_option maxRecDepth 100000 in
theorem jX12_sum_26 : zj pX12_sum 26 = uX12_sum_26 := rfl
set_option maxRecDepth 100000 in
theorem jX12_sum_31 : zj pX12_sum 31 = uX12_sum_31 := rfl
set_option maxRecDepth 100000 in
def uX12_test_33 : List zEn := (62, .iconst 1, 1, 0, 0, [], 1) :: (63, .ireturn, 1, 1, 0, [], 0) :: []
set_option maxRecDepth 100000 in
def uX12_test_29 : List zEn := (56, .aload_n 0, 1, 0, 0, [], 0) :: (57, .iconst 2, 1, 0, 0, [], 2) :: (58, .iload_n 2, 1, 2, 0, [], 0) :: (59, .invokevirtual 266, 3, 179, 3, [(0, 0), (0, 0), (0, 0), (0, 12), (0, 1646)], 0) :: uX12_test_33
set_option maxRecDepth 100000 in
def uX12_test_18 : List zEn := (37, .aload_n 0, 1, 0, 0, [], 0) :: (38, .getfield 234, 3, 12, 24, [(0, 0), (0, 1274)], 0) :: (41, .istore_n 2, 1, 2, 0, [], 0) :: (42, .aload_n 0, 1, 0, 0, [], 0) :: (43, .invokevirtual 263, 3, 175, 1, [(0, 0), (0, 0), (0, 0), (0, 12), (0, 1594)], 0) :: (46, .aload_n 0, 1, 0, 0, [], 0) :: (47, .iload_n 1, 1, 1, 0, [], 0) :: (48, .invokevirtual 273, 3, 184, 2, [(0, 1), (0, 0), (0, 0), (0, 12), (0, 1634)], 0) :: (51, .ifCond .ne 5, 3, 29, 0, [], 0) :: (54, .iconst 0, 1, 0, 0, [], 0) :: (55, .ireturn, 1, 1, 0, [], 0) :: uX12_test_29
set_option maxRecDepth 100000 in
def uX12_test_6 : List zEn := (10, .aload_n 0, 1, 0, 0, [], 0) :: (11, .bipush 60, 2, 0, 0, [], 60) :: (13, .invokevirtual 260, 3, 181, 2, [(0, 1), (0, 0), (0, 0), (0, 12), (0, 1653)], 0) :: (16, .ifCond .ne 21, 3, 18, 0, [], 0) :: (19, .aload_n 0, 1, 0, 0, [], 0) :: (20, .bipush 61, 2, 0, 0, [], 61) :: (22, .invokevirtual 260, 3, 181, 2, [(0, 1), (0, 0), (0, 0), (0, 12), (0, 1653)], 0) :: (25, .ifCond .ne 12, 3, 18, 0, [], 0) :: (28, .aload_n 0, 1, 0, 0, [], 0) :: (29, .bipush 62, 2, 0, 0, [], 62) :: (31, .invokevirtual 260, 3, 181, 2, [(0, 1), (0, 0), (0, 0), (0, 12), (0, 1653)], 0) :: (34, .ifCond .eq 28, 3, 33, 0, [], 0) :: uX12_test_18
set_option maxRecDepth 100000 in
def uX12_test_0 : List zEn := (0, .aload_n 0, 1, 0, 0, [], 0) :: (1, .iload_n 1, 1, 1, 0, [], 0) :: (2, .invokevirtual 273, 3, 184, 2, [(0, 1), (0, 0), (0, 0), (0, 12), (0, 1634)], 0) :: (5, .ifCond .ne 5, 3, 6, 0, [], 0) :: (8, .iconst 0, 1, 0, 0, [], 0) :: (9, .ireturn, 1, 1, 0, [], 0) :: uX12_test_6
set_option maxRecDepth 100000 in
theorem jX12_test_6 : zj pX12_test 6 = uX12_test_6 := rfl
set_option maxRecDepth 100000 in
theorem jX12_test_18 : zj pX12_test 18 = uX12_test_18 := rfl
set_option maxRecDepth 100000 in
theorem jX12_test_29 : zj pX12_test 29 = uX12_test_29 := rfl
set_option maxRecDepth 100000 in
theorem jX12_test_33 : zj pX12_test 33 = uX12_test_33 := rfl
set_option maxRecDepth 100000 in
def uX12_both_24 : List zEn := (43, .iconst 1, 1, 0, 0, [], 1) :: (44, .ireturn, 1, 1, 0, [], 0) :: []
set_option maxRecDepth 100000 in
def uX12_both_19 : List zEn := (33, .aload_n 0, 1, 0, 0, [], 0) :: (34, .iconst 2, 1, 0, 0, [], 2) :: (35, .bipush 38, 2, 0, 0, [], 38) :: (37, .invokevirtual 266, 3, 179, 3, [(0, 0), (0, 0), (0, 0), (0, 12), (0, 1646)], 0) :: (40, .goto (-30), 3, 6, 0, [], 0) :: uX12_both_24
set_option maxRecDepth 100000 in
def uX12_both_7 : List zEn := (10, .aload_n 0, 1, 0, 0, [], 0) :: (11, .bipush 38, 2, 0, 0, [], 38) :: (13, .invokevirtual 260, 3, 181, 2, [(0, 1), (0, 0), (0, 0), (0, 12), (0, 1653)], 0) :: (16, .ifCond .eq 27, 3, 24, 0, [], 0) :: (19, .aload_n 0, 1, 0, 0, [], 0) :: (20, .invokevirtual 263, 3, 175, 1, [(0, 0), (0, 0), (0, 0), (0, 12), (0, 1594)], 0) :: (23, .aload_n 0, 1, 0, 0, [], 0) :: (24, .iload_n 1, 1, 1, 0, [], 0) :: (25, .invokevirtual 270, 3, 185, 2, [(0, 1), (0, 0), (0, 0), (0, 12), (0, 1630)], 0) :: (28, .ifCond .ne 5, 3, 19, 0, [], 0) :: (31, .iconst 0, 1, 0, 0, [], 0) :: (32, .ireturn, 1, 1, 0, [], 0) :: uX12_both_19
set_option maxRecDepth 100000 in
def tX12_both_7 : List zEn := uX12_both_7
set_option maxRecDepth 100000 in
def uX12_both_6 : List zEn := (10, .nop, 0, 0, 0, [], 0) :: tX12_both_7
set_option maxRecDepth 100000 in
def uX12_both_0 : List zEn := (0, .aload_n 0, 1, 0, 0, [], 0) :: (1, .iload_n 1, 1, 1, 0, [], 0) :: (2, .invokevirtual 270, 3, 185, 2, [(0, 1), (0, 0), (0, 0), (0, 12), (0, 1630)], 0) :: (5, .ifCond .ne 5, 3, 6, 0, [], 0) :: (8, .iconst 0, 1, 0, 0, [], 0) :: (9, .ireturn, 1, 1, 0, [], 0) :: uX12_both_6
set_option maxRecDepth 100000 in
theorem jX12_both_6 : zj pX12_both 6 = uX12_both_6 := rfl
set_option maxRecDepth 100000 in
theorem jX12_both_19 : zj pX12_both 19 = uX12_both_19 := rfl
set_option maxRecDepth 100000 in
theorem jX12_both_24 : zj pX12_both 24 = uX12_both_24 := rfl
set_option maxRecDepth 100000 in
def uX12_either_24 : List zEn := (43, .iconst 1, 1, 0, 0, [], 1) :: (44, .ireturn, 1, 1, 0, [], 0) :: []
set_option maxRecDepth 100000 in
def uX12_either_19 : List zEn := (33, .aload_n 0, 1, 0, 0, [], 0) :: (34, .iconst 2, 1, 0, 0, [], 2) :: (35, .bipush 124, 2, 0, 0, [], 124) :: (37, .invokevirtual 266, 3, 179, 3, [(0, 0), (0, 0), (0, 0), (0, 12), (0, 1646)], 0) :: (40, .goto (-30), 3, 6, 0, [], 0) :: uX12_either_24
set_option maxRecDepth 100000 in
def uX12_either_7 : List zEn := (10, .aload_n 0, 1, 0, 0, [], 0) :: (11, .bipush 124, 2, 0, 0, [], 124) :: (13, .invokevirtual 260, 3, 181, 2, [(0, 1), (0, 0), (0, 0), (0, 12), (0, 1653)], 0) :: (16, .ifCond .eq 27, 3, 24, 0, [], 0) :: (19, .aload_n 0, 1, 0, 0, [], 0) :: (20, .invokevirtual 263, 3, 175, 1, [(0, 0), (0, 0), (0, 0), (0, 12), (0, 1594)], 0) :: (23, .aload_n 0, 1, 0, 0, [], 0) :: (24, .iload_n 1, 1, 1, 0, [], 0) :: (25, .invokevirtual 257, 3, 186, 2, [(0, 1), (0, 0), (0, 0), (0, 12), (0, 1626)], 0) :: (28, .ifCond .ne 5, 3, 19, 0, [], 0) :: (31, .iconst 0, 1, 0, 0, [], 0) :: (32, .ireturn, 1, 1, 0, [], 0) :: uX12_either_19
set_option maxRecDepth 100000 in
def tX12_either_7 : List zEn := uX12_either_7
set_option maxRecDepth 100000 in
def uX12_either_6 : List zEn := (10, .nop, 0, 0, 0, [], 0) :: tX12_either_7
set_option maxRecDepth 100000 in
def uX12_either_0 : List zEn := (0, .aload_n 0, 1, 0, 0, [], 0) :: (1, .iload_n 1, 1, 1, 0, [], 0) :: (2, .invokevirtual 257, 3, 186, 2, [(0, 1), (0, 0), (0, 0), (0, 12), (0, 1626)], 0) :: (5, .ifCond .ne 5, 3, 6, 0, [], 0) :: (8, .iconst 0, 1, 0, 0, [], 0) :: (9, .ireturn, 1, 1, 0, [], 0) :: uX12_either_6
set_option maxRecDepth 100000 in
theorem jX12_either_6 : zj pX12_either 6 = uX12_either_6 := rfl
set_option maxRecDepth 100000 in
theorem jX12_either_19 : zj pX12_either 19 = uX12_either_19 := rfl
set_option maxRecDepth 100000 in
theorem jX12_either_24 : zj pX12_either 24 = uX12_either_24 := rfl
set_option maxRecDepth 100000 in
def uX12_parse_70 : List zEn := (125, .ireturn, 1, 0, 0, [], 0) :: []
set_option maxRecDepth 100000 in
def uX12_parse_69 : List zEn := (124, .iconst (-1), 1, 0, 0, [], (-1)) :: uX12_parse_70
set_option maxRecDepth 100000 in
def uX12_parse_62 : List zEn := (111, .aload_n 0, 1, 0, 0, [], 0) :: (112, .iconst 0, 1, 0, 0, [], 0) :: (113, .putfield 211, 3, 12, 19, [(0, 0), (0, 1269)], 0) :: (116, .iload_n 2, 1, 2, 0, [], 0) :: (117, .ifCond .eq 7, 3, 69, 0, [], 0) :: (120, .iload_n 1, 1, 1, 0, [], 0) :: (121, .goto 4, 3, 70, 0, [], 0) :: uX12_parse_69
set_option maxRecDepth 100000 in
def uX12_parse_61 : List zEn := (110, .istore_n 2, 1, 2, 0, [], 0) :: uX12_parse_62
set_option maxRecDepth 100000 in
def uX12_parse_60 : List zEn := (109, .iconst 0, 1, 0, 0, [], 0) :: uX12_parse_61
set_option maxRecDepth 100000 in
def uX12_parse_46 : List zEn := (81, .istore_n 2, 1, 2, 0, [], 0) :: (82, .iload_n 2, 1, 2, 0, [], 0) :: (83, .ifCond .eq 28, 3, 62, 0, [], 0) :: (86, .aload_n 0, 1, 0, 0, [], 0) :: (87, .invokevirtual 263, 3, 175, 1, [(0, 0), (0, 0), (0, 0), (0, 12), (0, 1594)], 0) :: (90, .aload_n 0, 1, 0, 0, [], 0) :: (91, .iload_n 1, 1, 1, 0, [], 0) :: (92, .invokevirtual 294, 3, 187, 2, [(0, 1), (0, 0), (0, 0), (0, 12), (0, 1622)], 0) :: (95, .ifCond .eq 14, 3, 60, 0, [], 0) :: (98, .aload_n 0, 1, 0, 0, [], 0) :: (99, .getfield 225, 3, 12, 22, [(0, 0), (0, 1272)], 0) :: (102, .ifCond .ne 7, 3, 60, 0, [], 0) :: (105, .iconst 1, 1, 0, 0, [], 1) :: (106, .goto 4, 3, 61, 0, [], 0) :: uX12_parse_60
set_option maxRecDepth 100000 in
def uX12_parse_45 : List zEn := (80, .iconst 0, 1, 0, 0, [], 0) :: uX12_parse_46
set_option maxRecDepth 100000 in
def uX12_parse_35 : List zEn := (60, .putfield 251, 3, 12, 28, [(0, 0), (0, 1278)], 0) :: (63, .aload_n 0, 1, 0, 0, [], 0) :: (64, .invokevirtual 263, 3, 175, 1, [(0, 0), (0, 0), (0, 0), (0, 12), (0, 1594)], 0) :: (67, .aload_n 0, 1, 0, 0, [], 0) :: (68, .invokevirtual 300, 3, 178, 1, [(0, 1), (0, 0), (0, 0), (0, 12), (0, 1610)], 0) :: (71, .istore_n 1, 1, 1, 0, [], 0) :: (72, .iload_n 1, 1, 1, 0, [], 0) :: (73, .ifCond .lt 7, 3, 45, 0, [], 0) :: (76, .iconst 1, 1, 0, 0, [], 1) :: (77, .goto 4, 3, 46, 0, [], 0) :: uX12_parse_45
set_option maxRecDepth 100000 in
def uX12_parse_34 : List zEn := (57, .sipush 3140, 3, 0, 0, [], 3140) :: uX12_parse_35
set_option maxRecDepth 100000 in
def uX12_parse_0 : List zEn := (0, .aload_n 0, 1, 0, 0, [], 0) :: (1, .iconst 0, 1, 0, 0, [], 0) :: (2, .putfield 222, 3, 12, 21, [(0, 0), (0, 1271)], 0) :: (5, .aload_n 0, 1, 0, 0, [], 0) :: (6, .iconst 3, 1, 0, 0, [], 3) :: (7, .putfield 225, 3, 12, 22, [(0, 0), (0, 1272)], 0) :: (10, .aload_n 0, 1, 0, 0, [], 0) :: (11, .iconst 0, 1, 0, 0, [], 0) :: (12, .putfield 291, 3, 12, 25, [(0, 0), (0, 1275)], 0) :: (15, .aload_n 0, 1, 0, 0, [], 0) :: (16, .iconst 0, 1, 0, 0, [], 0) :: (17, .putfield 288, 3, 12, 26, [(0, 0), (0, 1276)], 0) :: (20, .aload_n 0, 1, 0, 0, [], 0) :: (21, .iconst 0, 1, 0, 0, [], 0) :: (22, .putfield 254, 3, 12, 27, [(0, 0), (0, 1277)], 0) :: (25, .aload_n 0, 1, 0, 0, [], 0) :: (26, .iconst 0, 1, 0, 0, [], 0) :: (27, .putfield 282, 3, 12, 29, [(0, 0), (0, 1279)], 0) :: (30, .aload_n 0, 1, 0, 0, [], 0) :: (31, .aload_n 0, 1, 0, 0, [], 0) :: (32, .getfield 7, 3, 12, 0, [(0, 2), (0, 1250)], 0) :: (35, .iconst 2, 1, 0, 0, [], 2) :: (36, .iaload, 1, 0, 0, [], 0) :: (37, .bipush 14, 2, 0, 0, [], 14) :: (39, .if_icmp .ge 18, 3, 34, 0, [], 0) :: (42, .aload_n 0, 1, 0, 0, [], 0) :: (43, .aload_n 0, 1, 0, 0, [], 0) :: (44, .getfield 7, 3, 12, 0, [(0, 2), (0, 1250)], 0) :: (47, .iconst 2, 1, 0, 0, [], 2) :: (48, .iaload, 1, 0, 0, [], 0) :: (49, .invokevirtual 297, 3, 71, 2, [(0, 1), (0, 0), (0, 0), (0, 12), (0, 1472)], 0) :: (52, .iconst 4, 1, 0, 0, [], 4) :: (53, .iadd, 1, 0, 0, [], 0) :: (54, .goto 6, 3, 35, 0, [], 0) :: uX12_parse_34
set_option maxRecDepth 100000 in
theorem jX12_parse_34 : zj pX12_parse 34 = uX12_parse_34 := rfl
set_option maxRecDepth 100000 in
theorem jX12_parse_35 : zj pX12_parse 35 = uX12_parse_35 := rfl
set_option maxRecDepth 100000 in
theorem jX12_parse_45 : zj pX12_parse 45 = uX12_parse_45 := rfl
set_option maxRecDepth 100000 in
theorem jX12_parse_46 : zj pX12_parse 46 = uX12_parse_46 := rfl
set_option maxRecDepth 100000 in
theorem jX12_parse_60 : zj pX12_parse 60 = uX12_parse_60 := rfl
set_option maxRecDepth 100000 in
theorem jX12_parse_61 : zj pX12_parse 61 = uX12_parse_61 := rfl
set_option maxRecDepth 100000 in
theorem jX12_parse_62 : zj pX12_parse 62 = uX12_parse_62 := rfl
set_option maxRecDepth 100000 in
theorem jX12_parse_69 : zj pX12_parse 69 = uX12_parse_69 := rfl
set_option maxRecDepth 100000 in
theorem jX12_parse_70 : zj pX12_parse 70 = uX12_parse_70 := rfl
set_option maxRecDepth 100000 in
def uX12_text_18 : List zEn := (31, .aload_n 0, 1, 0, 0, [], 0) :: (32, .aload_n 0, 1, 0, 0, [], 0) :: (33, .getfield 7, 3, 12, 0, [(0, 2), (0, 1250)], 0) :: (36, .iconst 2, 1, 0, 0, [], 2) :: (37, .iaload, 1, 0, 0, [], 0) :: (38, .invokevirtual 297, 3, 71, 2, [(0, 1), (0, 0), (0, 0), (0, 12), (0, 1472)], 0) :: (41, .istore_n 2, 1, 2, 0, [], 0) :: (42, .aload_n 0, 1, 0, 0, [], 0) :: (43, .getfield 7, 3, 12, 0, [(0, 2), (0, 1250)], 0) :: (46, .iload_n 2, 1, 2, 0, [], 0) :: (47, .iconst 0, 1, 0, 0, [], 0) :: (48, .iadd, 1, 0, 0, [], 0) :: (49, .iload_n 1, 1, 1, 0, [], 0) :: (50, .iastore, 1, 0, 0, [], 0) :: (51, .aload_n 0, 1, 0, 0, [], 0) :: (52, .getfield 7, 3, 12, 0, [(0, 2), (0, 1250)], 0) :: (55, .iload_n 2, 1, 2, 0, [], 0) :: (56, .iconst 1, 1, 0, 0, [], 1) :: (57, .iadd, 1, 0, 0, [], 0) :: (58, .aload_n 0, 1, 0, 0, [], 0) :: (59, .getfield 282, 3, 12, 29, [(0, 0), (0, 1279)], 0) :: (62, .iastore, 1, 0, 0, [], 0) :: (63, .aload_n 0, 1, 0, 0, [], 0) :: (64, .getfield 7, 3, 12, 0, [(0, 2), (0, 1250)], 0) :: (67, .iload_n 2, 1, 2, 0, [], 0) :: (68, .iconst 2, 1, 0, 0, [], 2) :: (69, .iadd, 1, 0, 0, [], 0) :: (70, .aload_n 0, 1, 0, 0, [], 0) :: (71, .getfield 254, 3, 12, 27, [(0, 0), (0, 1277)], 0) :: (74, .iastore, 1, 0, 0, [], 0) :: (75, .aload_n 0, 1, 0, 0, [], 0) :: (76, .getfield 7, 3, 12, 0, [(0, 2), (0, 1250)], 0) :: (79, .iconst 2, 1, 0, 0, [], 2) :: (80, .dup2, 1, 0, 0, [], 0) :: (81, .iaload, 1, 0, 0, [], 0) :: (82, .iconst 1, 1, 0, 0, [], 1) :: (83, .iadd, 1, 0, 0, [], 0) :: (84, .iastore, 1, 0, 0, [], 0) :: (85, .aload_n 0, 1, 0, 0, [], 0) :: (86, .getfield 7, 3, 12, 0, [(0, 2), (0, 1250)], 0) :: (89, .iconst 2, 1, 0, 0, [], 2) :: (90, .iaload, 1, 0, 0, [], 0) :: (91, .iconst 1, 1, 0, 0, [], 1) :: (92, .isub, 1, 0, 0, [], 0) :: (93, .ireturn, 1, 0, 0, [], 0) :: []
set_option maxRecDepth 100000 in
def uX12_text_10 : List zEn := (17, .aload_n 0, 1, 0, 0, [], 0) :: (18, .getfield 7, 3, 12, 0, [(0, 2), (0, 1250)], 0) :: (21, .iconst 2, 1, 0, 0, [], 2) :: (22, .iaload, 1, 0, 0, [], 0) :: (23, .bipush 14, 2, 0, 0, [], 14) :: (25, .if_icmp .ne 6, 3, 18, 0, [], 0) :: (28, .ldc 88, 2, 0, 0, [(0, 1373)], (-1000000003)) :: (30, .ireturn, 1, 0, 0, [], 0) :: uX12_text_18
set_option maxRecDepth 100000 in
def uX12_text_0 : List zEn := (0, .aload_n 0, 1, 0, 0, [], 0) :: (1, .invokevirtual 303, 3, 188, 1, [(0, 1), (0, 0), (0, 0), (0, 12), (0, 1590)], 0) :: (4, .istore_n 1, 1, 1, 0, [], 0) :: (5, .iload_n 1, 1, 1, 0, [], 0) :: (6, .ifCond .ge 11, 3, 10, 0, [], 0) :: (9, .bipush (-100), 2, 0, 0, [], (-100)) :: (11, .aload_n 0, 1, 0, 0, [], 0) :: (12, .getfield 228, 3, 12, 20, [(0, 0), (0, 1270)], 0) :: (15, .isub, 1, 0, 0, [], 0) :: (16, .ireturn, 1, 0, 0, [], 0) :: uX12_text_10
set_option maxRecDepth 100000 in
theorem jX12_text_10 : zj pX12_text 10 = uX12_text_10 := rfl
set_option maxRecDepth 100000 in
theorem jX12_text_18 : zj pX12_text 18 = uX12_text_18 := rfl
set_option maxRecDepth 100000 in
def uX11_textTold_35 : List zEn := (67, .ireturn, 1, 0, 0, [], 0) :: []
set_option maxRecDepth 100000 in
def uX11_textTold_33 : List zEn := (63, .aload_n 3, 1, 3, 0, [], 0) :: (64, .getfield 249, 3, 9, 1, [(0, 0), (0, 1011)], 0) :: uX11_textTold_35
set_option maxRecDepth 100000 in
def uX11_textTold_28 : List zEn := (52, .iload_n 2, 1, 2, 0, [], 0) :: (53, .ifCond .ne 10, 3, 33, 0, [], 0) :: (56, .aload_n 3, 1, 3, 0, [], 0) :: (57, .getfield 244, 3, 9, 0, [(0, 0), (0, 1009)], 0) :: (60, .goto 7, 3, 35, 0, [], 0) :: uX11_textTold_33
set_option maxRecDepth 100000 in
def uX11_textTold_17 : List zEn := (32, .aload_n 0, 1, 0, 0, [], 0) :: (33, .getfield 10, 3, 11, 0, [(0, 2), (0, 457)], 0) :: (36, .getfield 223, 3, 6, 7, [(0, 2), (0, 289)], 0) :: (39, .getfield 240, 3, 1, 0, [(0, 2), (0, 149)], 0) :: (42, .iload_n 1, 1, 1, 0, [], 0) :: (43, .aaload, 1, 0, 0, [], 0) :: (44, .astore_n 3, 1, 3, 0, [], 0) :: (45, .aload_n 3, 1, 3, 0, [], 0) :: (46, .ifnonnull 6, 3, 28, 0, [], 0) :: (49, .ldc 75, 2, 0, 0, [(0, 498)], (-1000000001)) :: (51, .ireturn, 1, 0, 0, [], 0) :: uX11_textTold_28
set_option maxRecDepth 100000 in
def uX11_textTold_15 : List zEn := (29, .ldc 75, 2, 0, 0, [(0, 498)], (-1000000001)) :: (31, .ireturn, 1, 0, 0, [], 0) :: uX11_textTold_17
set_option maxRecDepth 100000 in
def uX11_textTold_0 : List zEn := (0, .iload_n 1, 1, 1, 0, [], 0) :: (1, .iconst 0, 1, 0, 0, [], 0) :: (2, .aload_n 0, 1, 0, 0, [], 0) :: (3, .getfield 10, 3, 11, 0, [(0, 2), (0, 457)], 0) :: (6, .getfield 223, 3, 6, 7, [(0, 2), (0, 289)], 0) :: (9, .getfield 227, 3, 1, 1, [(0, 0), (0, 151)], 0) :: (12, .iconst 1, 1, 0, 0, [], 1) :: (13, .isub, 1, 0, 0, [], 0) :: (14, .invokestatic 68, 3, 12, 3, [(0, 1), (0, 0), (0, 0), (0, 495)], 0) :: (17, .ifCond .eq 12, 3, 15, 0, [], 0) :: (20, .iload_n 2, 1, 2, 0, [], 0) :: (21, .iconst 0, 1, 0, 0, [], 0) :: (22, .iconst 1, 1, 0, 0, [], 1) :: (23, .invokestatic 68, 3, 12, 3, [(0, 1), (0, 0), (0, 0), (0, 495)], 0) :: (26, .ifCond .ne 6, 3, 17, 0, [], 0) :: uX11_textTold_15
set_option maxRecDepth 100000 in
theorem jX11_textTold_15 : zj pX11_textTold 15 = uX11_textTold_15 := rfl
set_option maxRecDepth 100000 in
theorem jX11_textTold_17 : zj pX11_textTold 17 = uX11_textTold_17 := rfl
set_option maxRecDepth 100000 in
theorem jX11_textTold_28 : zj pX11_textTold 28 = uX11_textTold_28 := rfl
set_option maxRecDepth 100000 in
theorem jX11_textTold_33 : zj pX11_textTold 33 = uX11_textTold_33 := rfl
set_option maxRecDepth 100000 in
theorem jX11_textTold_35 : zj pX11_textTold 35 = uX11_textTold_35 := rfl
set_option maxRecDepth 100000 in
def uX12_isText_0 : List zEn := (0, .iload_n 1, 1, 1, 0, [], 0) :: (1, .i2l, 1, 0, 0, [], 0) :: (2, .lconst 0, 1, 0, 0, [], 0) :: (3, .aload_n 0, 1, 0, 0, [], 0) :: (4, .getfield 7, 3, 12, 0, [(0, 2), (0, 1250)], 0) :: (7, .iconst 2, 1, 0, 0, [], 2) :: (8, .iaload, 1, 0, 0, [], 0) :: (9, .iconst 1, 1, 0, 0, [], 1) :: (10, .isub, 1, 0, 0, [], 0) :: (11, .i2l, 1, 0, 0, [], 0) :: (12, .invokestatic 77, 3, 15, 3, [(0, 1), (0, 0), (0, 0), (0, 1368)], 0) :: (15, .ireturn, 1, 1, 0, [], 0) :: []
set_option maxRecDepth 100000 in
def uX12_textTold_12 : List zEn := (21, .aload_n 0, 1, 0, 0, [], 0) :: (22, .getfield 7, 3, 12, 0, [(0, 2), (0, 1250)], 0) :: (25, .aload_n 0, 1, 0, 0, [], 0) :: (26, .iload_n 1, 1, 1, 0, [], 0) :: (27, .invokevirtual 297, 3, 71, 2, [(0, 1), (0, 0), (0, 0), (0, 12), (0, 1472)], 0) :: (30, .iload_n 2, 1, 2, 0, [], 0) :: (31, .iadd, 1, 0, 0, [], 0) :: (32, .iaload, 1, 0, 0, [], 0) :: (33, .ireturn, 1, 0, 0, [], 0) :: []
set_option maxRecDepth 100000 in
def uX12_textTold_10 : List zEn := (18, .ldc 87, 2, 0, 0, [(0, 1372)], (-1000000001)) :: (20, .ireturn, 1, 0, 0, [], 0) :: uX12_textTold_12
set_option maxRecDepth 100000 in
def uX12_textTold_0 : List zEn := (0, .aload_n 0, 1, 0, 0, [], 0) :: (1, .iload_n 1, 1, 1, 0, [], 0) :: (2, .invokevirtual 306, 3, 191, 2, [(0, 1), (0, 0), (0, 0), (0, 12), (0, 1661)], 0) :: (5, .ifCond .eq 13, 3, 10, 0, [], 0) :: (8, .iload_n 2, 1, 2, 0, [], 0) :: (9, .i2l, 1, 0, 0, [], 0) :: (10, .lconst 0, 1, 0, 0, [], 0) :: (11, .lconst 1, 1, 0, 0, [], 1) :: (12, .invokestatic 77, 3, 15, 3, [(0, 1), (0, 0), (0, 0), (0, 1368)], 0) :: (15, .ifCond .ne 6, 3, 12, 0, [], 0) :: uX12_textTold_10
set_option maxRecDepth 100000 in
theorem jX12_textTold_10 : zj pX12_textTold 10 = uX12_textTold_10 := rfl
set_option maxRecDepth 100000 in
theorem jX12_textTold_12 : zj pX12_textTold 12 = uX12_textTold_12 := rfl
set_option maxRecDepth 100000 in
def uX11_why_13 : List zEn := (26, .ireturn, 1, 0, 0, [], 0) :: []
set_option maxRecDepth 100000 in
def uX11_why_12 : List zEn := (24, .ldc 75, 2, 0, 0, [(0, 498)], (-1000000001)) :: uX11_why_13
set_option maxRecDepth 100000 in
def uX11_why_0 : List zEn := (0, .iload_n 1, 1, 1, 0, [], 0) :: (1, .iconst 0, 1, 0, 0, [], 0) :: (2, .iconst 2, 1, 0, 0, [], 2) :: (3, .invokestatic 68, 3, 12, 3, [(0, 1), (0, 0), (0, 0), (0, 495)], 0) :: (6, .ifCond .eq 18, 3, 12, 0, [], 0) :: (9, .aload_n 0, 1, 0, 0, [], 0) :: (10, .getfield 10, 3, 11, 0, [(0, 2), (0, 457)], 0) :: (13, .getfield 223, 3, 6, 7, [(0, 2), (0, 289)], 0) :: (16, .getfield 252, 3, 1, 2, [(0, 2), (0, 153)], 0) :: (19, .iload_n 1, 1, 1, 0, [], 0) :: (20, .iaload, 1, 0, 0, [], 0) :: (21, .goto 5, 3, 13, 0, [], 0) :: uX11_why_12
set_option maxRecDepth 100000 in
theorem jX11_why_12 : zj pX11_why 12 = uX11_why_12 := rfl
set_option maxRecDepth 100000 in
theorem jX11_why_13 : zj pX11_why 13 = uX11_why_13 := rfl
set_option maxRecDepth 100000 in
def uX12_why_12 : List zEn := (25, .ireturn, 1, 0, 0, [], 0) :: []
set_option maxRecDepth 100000 in
def uX12_why_11 : List zEn := (23, .ldc 87, 2, 0, 0, [(0, 1372)], (-1000000001)) :: uX12_why_12
set_option maxRecDepth 100000 in
def uX12_why_0 : List zEn := (0, .iload_n 1, 1, 1, 0, [], 0) :: (1, .i2l, 1, 0, 0, [], 0) :: (2, .lconst 0, 1, 0, 0, [], 0) :: (3, .ldc2_w 309, 3, 0, 0, [(0, 1669)], 2) :: (6, .invokestatic 77, 3, 15, 3, [(0, 1), (0, 0), (0, 0), (0, 1368)], 0) :: (9, .ifCond .eq 14, 3, 11, 0, [], 0) :: (12, .aload_n 0, 1, 0, 0, [], 0) :: (13, .iload_n 1, 1, 1, 0, [], 0) :: (14, .invokevirtual 136, 3, 72, 2, [(0, 1), (0, 0), (0, 0), (0, 12), (0, 1468)], 0) :: (17, .invokestatic 155, 3, 70, 1, [(0, 1), (0, 0), (0, 0), (0, 1460)], 0) :: (20, .goto 5, 3, 12, 0, [], 0) :: uX12_why_11
set_option maxRecDepth 100000 in
theorem jX12_why_11 : zj pX12_why 11 = uX12_why_11 := rfl
set_option maxRecDepth 100000 in
theorem jX12_why_12 : zj pX12_why 12 = uX12_why_12 := rfl
set_option maxRecDepth 100000 in
def uX11_weigh_12 : List zEn := (23, .aload_n 0, 1, 0, 0, [], 0) :: (24, .getfield 10, 3, 11, 0, [(0, 2), (0, 457)], 0) :: (27, .getfield 255, 3, 6, 8, [(0, 2), (0, 291)], 0) :: (30, .getfield 259, 3, 0, 0, [(0, 2), (0, 171)], 0) :: (33, .iload_n 1, 1, 1, 0, [], 0) :: (34, .iaload, 1, 0, 0, [], 0) :: (35, .istore_n 3, 1, 3, 0, [], 0) :: (36, .aload_n 0, 1, 0, 0, [], 0) :: (37, .getfield 10, 3, 11, 0, [(0, 2), (0, 457)], 0) :: (40, .getfield 255, 3, 6, 8, [(0, 2), (0, 291)], 0) :: (43, .getfield 259, 3, 0, 0, [(0, 2), (0, 171)], 0) :: (46, .iload_n 1, 1, 1, 0, [], 0) :: (47, .iload_n 2, 1, 2, 0, [], 0) :: (48, .iastore, 1, 0, 0, [], 0) :: (49, .iload_n 3, 1, 3, 0, [], 0) :: (50, .ireturn, 1, 0, 0, [], 0) :: []
set_option maxRecDepth 100000 in
def uX11_weigh_10 : List zEn := (20, .ldc 75, 2, 0, 0, [(0, 498)], (-1000000001)) :: (22, .ireturn, 1, 0, 0, [], 0) :: uX11_weigh_12
set_option maxRecDepth 100000 in
def uX11_weigh_0 : List zEn := (0, .iload_n 1, 1, 1, 0, [], 0) :: (1, .iconst 0, 1, 0, 0, [], 0) :: (2, .bipush 7, 2, 0, 0, [], 7) :: (4, .invokestatic 68, 3, 12, 3, [(0, 1), (0, 0), (0, 0), (0, 495)], 0) :: (7, .ifCond .eq 13, 3, 10, 0, [], 0) :: (10, .iload_n 2, 1, 2, 0, [], 0) :: (11, .iconst 0, 1, 0, 0, [], 0) :: (12, .bipush 99, 2, 0, 0, [], 99) :: (14, .invokestatic 68, 3, 12, 3, [(0, 1), (0, 0), (0, 0), (0, 495)], 0) :: (17, .ifCond .ne 6, 3, 12, 0, [], 0) :: uX11_weigh_10
set_option maxRecDepth 100000 in
theorem jX11_weigh_10 : zj pX11_weigh 10 = uX11_weigh_10 := rfl
set_option maxRecDepth 100000 in
theorem jX11_weigh_12 : zj pX11_weigh 12 = uX11_weigh_12 := rfl
set_option maxRecDepth 100000 in
def uX12_weigh_20 : List zEn := (38, .ireturn, 1, 0, 0, [], 0) :: []
set_option maxRecDepth 100000 in
def uX12_weigh_19 : List zEn := (36, .ldc 87, 2, 0, 0, [(0, 1372)], (-1000000001)) :: uX12_weigh_20
set_option maxRecDepth 100000 in
def uX12_weigh_0 : List zEn := (0, .iload_n 1, 1, 1, 0, [], 0) :: (1, .i2l, 1, 0, 0, [], 0) :: (2, .lconst 0, 1, 0, 0, [], 0) :: (3, .ldc2_w 106, 3, 0, 0, [(0, 1407)], 7) :: (6, .invokestatic 77, 3, 15, 3, [(0, 1), (0, 0), (0, 0), (0, 1368)], 0) :: (9, .ifCond .eq 27, 3, 19, 0, [], 0) :: (12, .iload_n 2, 1, 2, 0, [], 0) :: (13, .i2l, 1, 0, 0, [], 0) :: (14, .lconst 0, 1, 0, 0, [], 0) :: (15, .ldc2_w 112, 3, 0, 0, [(0, 1408)], 99) :: (18, .invokestatic 77, 3, 15, 3, [(0, 1), (0, 0), (0, 0), (0, 1368)], 0) :: (21, .ifCond .eq 15, 3, 19, 0, [], 0) :: (24, .aload_n 0, 1, 0, 0, [], 0) :: (25, .bipush 10, 2, 0, 0, [], 10) :: (27, .iload_n 1, 1, 1, 0, [], 0) :: (28, .iadd, 1, 0, 0, [], 0) :: (29, .iload_n 2, 1, 2, 0, [], 0) :: (30, .invokevirtual 103, 3, 26, 3, [(0, 1), (0, 0), (0, 0), (0, 12), (0, 1395)], 0) :: (33, .goto 5, 3, 20, 0, [], 0) :: uX12_weigh_19
set_option maxRecDepth 100000 in
theorem jX12_weigh_19 : zj pX12_weigh 19 = uX12_weigh_19 := rfl
set_option maxRecDepth 100000 in
theorem jX12_weigh_20 : zj pX12_weigh 20 = uX12_weigh_20 := rfl
set_option maxRecDepth 100000 in
def uX11_check_15 : List zEn := (32, .aload_n 0, 1, 0, 0, [], 0) :: (33, .getfield 10, 3, 11, 0, [(0, 2), (0, 457)], 0) :: (36, .getfield 255, 3, 6, 8, [(0, 2), (0, 291)], 0) :: (39, .getfield 267, 3, 0, 1, [(0, 2), (0, 173)], 0) :: (42, .aload_n 0, 1, 0, 0, [], 0) :: (43, .getfield 10, 3, 11, 0, [(0, 2), (0, 457)], 0) :: (46, .getfield 255, 3, 6, 8, [(0, 2), (0, 291)], 0) :: (49, .getfield 264, 3, 0, 2, [(0, 0), (0, 175)], 0) :: (52, .iload_n 1, 1, 1, 0, [], 0) :: (53, .iastore, 1, 0, 0, [], 0) :: (54, .aload_n 0, 1, 0, 0, [], 0) :: (55, .getfield 10, 3, 11, 0, [(0, 2), (0, 457)], 0) :: (58, .getfield 255, 3, 6, 8, [(0, 2), (0, 291)], 0) :: (61, .dup, 1, 0, 0, [], 0) :: (62, .getfield 264, 3, 0, 2, [(0, 0), (0, 175)], 0) :: (65, .iconst 1, 1, 0, 0, [], 1) :: (66, .iadd, 1, 0, 0, [], 0) :: (67, .putfield 264, 3, 0, 2, [(0, 0), (0, 175)], 0) :: (70, .aload_n 0, 1, 0, 0, [], 0) :: (71, .getfield 10, 3, 11, 0, [(0, 2), (0, 457)], 0) :: (74, .getfield 255, 3, 6, 8, [(0, 2), (0, 291)], 0) :: (77, .getfield 264, 3, 0, 2, [(0, 0), (0, 175)], 0) :: (80, .iconst 1, 1, 0, 0, [], 1) :: (81, .isub, 1, 0, 0, [], 0) :: (82, .ireturn, 1, 0, 0, [], 0) :: []
set_option maxRecDepth 100000 in
def uX11_check_7 : List zEn := (14, .aload_n 0, 1, 0, 0, [], 0) :: (15, .getfield 10, 3, 11, 0, [(0, 2), (0, 457)], 0) :: (18, .getfield 255, 3, 6, 8, [(0, 2), (0, 291)], 0) :: (21, .getfield 264, 3, 0, 2, [(0, 0), (0, 175)], 0) :: (24, .bipush 8, 2, 0, 0, [], 8) :: (26, .if_icmp .lt 6, 3, 15, 0, [], 0) :: (29, .ldc 76, 2, 0, 0, [(0, 499)], (-1000000003)) :: (31, .ireturn, 1, 0, 0, [], 0) :: uX11_check_15
set_option maxRecDepth 100000 in
def uX11_check_0 : List zEn := (0, .iload_n 1, 1, 1, 0, [], 0) :: (1, .iconst 1, 1, 0, 0, [], 1) :: (2, .sipush 254, 3, 0, 0, [], 254) :: (5, .invokestatic 68, 3, 12, 3, [(0, 1), (0, 0), (0, 0), (0, 495)], 0) :: (8, .ifCond .ne 6, 3, 7, 0, [], 0) :: (11, .ldc 75, 2, 0, 0, [(0, 498)], (-1000000001)) :: (13, .ireturn, 1, 0, 0, [], 0) :: uX11_check_7
set_option maxRecDepth 100000 in
theorem jX11_check_7 : zj pX11_check 7 = uX11_check_7 := rfl
set_option maxRecDepth 100000 in
theorem jX11_check_15 : zj pX11_check 15 = uX11_check_15 := rfl
set_option maxRecDepth 100000 in
def uX12_check_16 : List zEn := (29, .aload_n 0, 1, 0, 0, [], 0) :: (30, .getfield 7, 3, 12, 0, [(0, 2), (0, 1250)], 0) :: (33, .bipush 18, 2, 0, 0, [], 18) :: (35, .aload_n 0, 1, 0, 0, [], 0) :: (36, .getfield 7, 3, 12, 0, [(0, 2), (0, 1250)], 0) :: (39, .iconst 3, 1, 0, 0, [], 3) :: (40, .iaload, 1, 0, 0, [], 0) :: (41, .iadd, 1, 0, 0, [], 0) :: (42, .iload_n 1, 1, 1, 0, [], 0) :: (43, .iastore, 1, 0, 0, [], 0) :: (44, .aload_n 0, 1, 0, 0, [], 0) :: (45, .getfield 7, 3, 12, 0, [(0, 2), (0, 1250)], 0) :: (48, .iconst 3, 1, 0, 0, [], 3) :: (49, .dup2, 1, 0, 0, [], 0) :: (50, .iaload, 1, 0, 0, [], 0) :: (51, .iconst 1, 1, 0, 0, [], 1) :: (52, .iadd, 1, 0, 0, [], 0) :: (53, .iastore, 1, 0, 0, [], 0) :: (54, .aload_n 0, 1, 0, 0, [], 0) :: (55, .getfield 7, 3, 12, 0, [(0, 2), (0, 1250)], 0) :: (58, .iconst 3, 1, 0, 0, [], 3) :: (59, .iaload, 1, 0, 0, [], 0) :: (60, .iconst 1, 1, 0, 0, [], 1) :: (61, .isub, 1, 0, 0, [], 0) :: (62, .ireturn, 1, 0, 0, [], 0) :: []
set_option maxRecDepth 100000 in
def uX12_check_8 : List zEn := (15, .aload_n 0, 1, 0, 0, [], 0) :: (16, .getfield 7, 3, 12, 0, [(0, 2), (0, 1250)], 0) :: (19, .iconst 3, 1, 0, 0, [], 3) :: (20, .iaload, 1, 0, 0, [], 0) :: (21, .bipush 8, 2, 0, 0, [], 8) :: (23, .if_icmp .ne 6, 3, 16, 0, [], 0) :: (26, .ldc 88, 2, 0, 0, [(0, 1373)], (-1000000003)) :: (28, .ireturn, 1, 0, 0, [], 0) :: uX12_check_16
set_option maxRecDepth 100000 in
def uX12_check_0 : List zEn := (0, .iload_n 1, 1, 1, 0, [], 0) :: (1, .i2l, 1, 0, 0, [], 0) :: (2, .lconst 1, 1, 0, 0, [], 1) :: (3, .ldc2_w 314, 3, 0, 0, [(0, 1678)], 254) :: (6, .invokestatic 77, 3, 15, 3, [(0, 1), (0, 0), (0, 0), (0, 1368)], 0) :: (9, .ifCond .ne 6, 3, 8, 0, [], 0) :: (12, .ldc 87, 2, 0, 0, [(0, 1372)], (-1000000001)) :: (14, .ireturn, 1, 0, 0, [], 0) :: uX12_check_8
set_option maxRecDepth 100000 in
theorem jX12_check_8 : zj pX12_check 8 = uX12_check_8 := rfl
set_option maxRecDepth 100000 in
theorem jX12_check_16 : zj pX12_check 16 = uX12_check_16 := rfl
set_option maxRecDepth 100000 in
def uX11_says_36 : List zEn := (68, .aload_n 0, 1, 0, 0, [], 0) :: (69, .getfield 10, 3, 11, 0, [(0, 2), (0, 457)], 0) :: (72, .getfield 255, 3, 6, 8, [(0, 2), (0, 291)], 0) :: (75, .iload 4, 2, 4, 0, [], 0) :: (77, .putfield 270, 3, 0, 3, [(0, 0), (0, 177)], 0) :: (80, .iload 4, 2, 4, 0, [], 0) :: (82, .ireturn, 1, 0, 0, [], 0) :: []
set_option maxRecDepth 100000 in
def uX11_says_30 : List zEn := (57, .iand, 1, 0, 0, [], 0) :: (58, .istore 4, 2, 4, 0, [], 0) :: (60, .iload 4, 2, 4, 0, [], 0) :: (62, .ifCond .ne 6, 3, 36, 0, [], 0) :: (65, .ldc 184, 2, 0, 0, [(0, 722)], (-1000000002)) :: (67, .ireturn, 1, 0, 0, [], 0) :: uX11_says_36
set_option maxRecDepth 100000 in
def uX11_says_27 : List zEn := (54, .iload_n 3, 1, 3, 0, [], 0) :: (55, .iconst (-1), 1, 0, 0, [], (-1)) :: (56, .ixor, 1, 0, 0, [], 0) :: uX11_says_30
set_option maxRecDepth 100000 in
def uX11_says_12 : List zEn := (23, .aload_n 0, 1, 0, 0, [], 0) :: (24, .getfield 10, 3, 11, 0, [(0, 2), (0, 457)], 0) :: (27, .getfield 255, 3, 6, 8, [(0, 2), (0, 291)], 0) :: (30, .getfield 267, 3, 0, 1, [(0, 2), (0, 173)], 0) :: (33, .iload_n 1, 1, 1, 0, [], 0) :: (34, .iaload, 1, 0, 0, [], 0) :: (35, .istore_n 3, 1, 3, 0, [], 0) :: (36, .aload_n 0, 1, 0, 0, [], 0) :: (37, .getfield 10, 3, 11, 0, [(0, 2), (0, 457)], 0) :: (40, .getfield 255, 3, 6, 8, [(0, 2), (0, 291)], 0) :: (43, .getfield 270, 3, 0, 3, [(0, 0), (0, 177)], 0) :: (46, .iload_n 2, 1, 2, 0, [], 0) :: (47, .ifCond .eq 7, 3, 27, 0, [], 0) :: (50, .iload_n 3, 1, 3, 0, [], 0) :: (51, .goto 6, 3, 30, 0, [], 0) :: uX11_says_27
set_option maxRecDepth 100000 in
def uX11_says_0 : List zEn := (0, .iload_n 1, 1, 1, 0, [], 0) :: (1, .iconst 0, 1, 0, 0, [], 0) :: (2, .aload_n 0, 1, 0, 0, [], 0) :: (3, .getfield 10, 3, 11, 0, [(0, 2), (0, 457)], 0) :: (6, .getfield 255, 3, 6, 8, [(0, 2), (0, 291)], 0) :: (9, .getfield 264, 3, 0, 2, [(0, 0), (0, 175)], 0) :: (12, .iconst 1, 1, 0, 0, [], 1) :: (13, .isub, 1, 0, 0, [], 0) :: (14, .invokestatic 68, 3, 12, 3, [(0, 1), (0, 0), (0, 0), (0, 495)], 0) :: (17, .ifCond .ne 6, 3, 12, 0, [], 0) :: (20, .ldc 75, 2, 0, 0, [(0, 498)], (-1000000001)) :: (22, .ireturn, 1, 0, 0, [], 0) :: uX11_says_12
set_option maxRecDepth 100000 in
theorem jX11_says_12 : zj pX11_says 12 = uX11_says_12 := rfl
set_option maxRecDepth 100000 in
theorem jX11_says_27 : zj pX11_says 27 = uX11_says_27 := rfl
set_option maxRecDepth 100000 in
theorem jX11_says_30 : zj pX11_says 30 = uX11_says_30 := rfl
set_option maxRecDepth 100000 in
theorem jX11_says_36 : zj pX11_says 36 = uX11_says_36 := rfl
set_option maxRecDepth 100000 in
def uX12_says_41 : List zEn := (64, .aload_n 0, 1, 0, 0, [], 0) :: (65, .getfield 7, 3, 12, 0, [(0, 2), (0, 1250)], 0) :: (68, .bipush 9, 2, 0, 0, [], 9) :: (70, .iload_n 3, 1, 3, 0, [], 0) :: (71, .iastore, 1, 0, 0, [], 0) :: (72, .iload_n 3, 1, 3, 0, [], 0) :: (73, .ireturn, 1, 0, 0, [], 0) :: []
set_option maxRecDepth 100000 in
def uX12_says_35 : List zEn := (55, .iand, 1, 0, 0, [], 0) :: (56, .istore_n 3, 1, 3, 0, [], 0) :: (57, .iload_n 3, 1, 3, 0, [], 0) :: (58, .ifCond .ne 6, 3, 41, 0, [], 0) :: (61, .ldc 180, 2, 0, 0, [(0, 1520)], (-1000000002)) :: (63, .ireturn, 1, 0, 0, [], 0) :: uX12_says_41
set_option maxRecDepth 100000 in
def uX12_says_27 : List zEn := (44, .aload_n 0, 1, 0, 0, [], 0) :: (45, .getfield 7, 3, 12, 0, [(0, 2), (0, 1250)], 0) :: (48, .bipush 18, 2, 0, 0, [], 18) :: (50, .iload_n 1, 1, 1, 0, [], 0) :: (51, .iadd, 1, 0, 0, [], 0) :: (52, .iaload, 1, 0, 0, [], 0) :: (53, .iconst (-1), 1, 0, 0, [], (-1)) :: (54, .ixor, 1, 0, 0, [], 0) :: uX12_says_35
set_option maxRecDepth 100000 in
def uX12_says_14 : List zEn := (21, .aload_n 0, 1, 0, 0, [], 0) :: (22, .getfield 7, 3, 12, 0, [(0, 2), (0, 1250)], 0) :: (25, .bipush 9, 2, 0, 0, [], 9) :: (27, .iaload, 1, 0, 0, [], 0) :: (28, .iload_n 2, 1, 2, 0, [], 0) :: (29, .ifCond .eq 15, 3, 27, 0, [], 0) :: (32, .aload_n 0, 1, 0, 0, [], 0) :: (33, .getfield 7, 3, 12, 0, [(0, 2), (0, 1250)], 0) :: (36, .bipush 18, 2, 0, 0, [], 18) :: (38, .iload_n 1, 1, 1, 0, [], 0) :: (39, .iadd, 1, 0, 0, [], 0) :: (40, .iaload, 1, 0, 0, [], 0) :: (41, .goto 14, 3, 35, 0, [], 0) :: uX12_says_27
set_option maxRecDepth 100000 in
def uX12_says_0 : List zEn := (0, .iload_n 1, 1, 1, 0, [], 0) :: (1, .i2l, 1, 0, 0, [], 0) :: (2, .lconst 0, 1, 0, 0, [], 0) :: (3, .aload_n 0, 1, 0, 0, [], 0) :: (4, .getfield 7, 3, 12, 0, [(0, 2), (0, 1250)], 0) :: (7, .iconst 3, 1, 0, 0, [], 3) :: (8, .iaload, 1, 0, 0, [], 0) :: (9, .iconst 1, 1, 0, 0, [], 1) :: (10, .isub, 1, 0, 0, [], 0) :: (11, .i2l, 1, 0, 0, [], 0) :: (12, .invokestatic 77, 3, 15, 3, [(0, 1), (0, 0), (0, 0), (0, 1368)], 0) :: (15, .ifCond .ne 6, 3, 14, 0, [], 0) :: (18, .ldc 87, 2, 0, 0, [(0, 1372)], (-1000000001)) :: (20, .ireturn, 1, 0, 0, [], 0) :: uX12_says_14
set_option maxRecDepth 100000 in
theorem jX12_says_14 : zj pX12_says 14 = uX12_says_14 := rfl
set_option maxRecDepth 100000 in
theorem jX12_says_27 : zj pX12_says 27 = uX12_says_27 := rfl
set_option maxRecDepth 100000 in
theorem jX12_says_35 : zj pX12_says 35 = uX12_says_35 := rfl
set_option maxRecDepth 100000 in
theorem jX12_says_41 : zj pX12_says 41 = uX12_says_41 := rfl
set_option maxRecDepth 100000 in
def uX11_anew_0 : List zEn := (0, .aload_n 0, 1, 0, 0, [], 0) :: (1, .getfield 10, 3, 11, 0, [(0, 2), (0, 457)], 0) :: (4, .getfield 255, 3, 6, 8, [(0, 2), (0, 291)], 0) :: (7, .getfield 270, 3, 0, 3, [(0, 0), (0, 177)], 0) :: (10, .istore_n 1, 1, 1, 0, [], 0) :: (11, .aload_n 0, 1, 0, 0, [], 0) :: (12, .getfield 10, 3, 11, 0, [(0, 2), (0, 457)], 0) :: (15, .getfield 255, 3, 6, 8, [(0, 2), (0, 291)], 0) :: (18, .sipush 255, 3, 0, 0, [], 255) :: (21, .putfield 270, 3, 0, 3, [(0, 0), (0, 177)], 0) :: (24, .iload_n 1, 1, 1, 0, [], 0) :: (25, .ireturn, 1, 0, 0, [], 0) :: []
set_option maxRecDepth 100000 in
def uX12_anew_0 : List zEn := (0, .aload_n 0, 1, 0, 0, [], 0) :: (1, .bipush 9, 2, 0, 0, [], 9) :: (3, .sipush 255, 3, 0, 0, [], 255) :: (6, .invokevirtual 103, 3, 26, 3, [(0, 1), (0, 0), (0, 0), (0, 12), (0, 1395)], 0) :: (9, .ireturn, 1, 0, 0, [], 0) :: []
set_option maxRecDepth 100000 in
def uX0_weightOf_24 : List zEn := (34, .iload_n 2, 1, 2, 0, [], 0) :: (35, .ireturn, 1, 0, 0, [], 0) :: []
set_option maxRecDepth 100000 in
def uX0_weightOf_22 : List zEn := (28, .iinc 3 1, 3, 3, 0, [], 1) :: (31, .goto (-27), 3, 4, 0, [], 0) :: uX0_weightOf_24
set_option maxRecDepth 100000 in
def uX0_weightOf_5 : List zEn := (4, .iload_n 3, 1, 3, 0, [], 0) :: (5, .bipush 8, 2, 0, 0, [], 8) :: (7, .if_icmp .ge 27, 3, 24, 0, [], 0) :: (10, .iload_n 1, 1, 1, 0, [], 0) :: (11, .iload_n 3, 1, 3, 0, [], 0) :: (12, .ishr, 1, 0, 0, [], 0) :: (13, .iconst 1, 1, 0, 0, [], 1) :: (14, .iand, 1, 0, 0, [], 0) :: (15, .iconst 1, 1, 0, 0, [], 1) :: (16, .if_icmp .ne 12, 3, 22, 0, [], 0) :: (19, .iload_n 2, 1, 2, 0, [], 0) :: (20, .aload_n 0, 1, 0, 0, [], 0) :: (21, .getfield 9, 3, 0, 0, [(0, 2), (0, 170)], 0) :: (24, .iload_n 3, 1, 3, 0, [], 0) :: (25, .iaload, 1, 0, 0, [], 0) :: (26, .iadd, 1, 0, 0, [], 0) :: (27, .istore_n 2, 1, 2, 0, [], 0) :: uX0_weightOf_22
set_option maxRecDepth 100000 in
def tX0_weightOf_5 : List zEn := uX0_weightOf_5
set_option maxRecDepth 100000 in
def uX0_weightOf_4 : List zEn := (4, .nop, 0, 0, 0, [], 0) :: tX0_weightOf_5
set_option maxRecDepth 100000 in
def uX0_weightOf_0 : List zEn := (0, .iconst 0, 1, 0, 0, [], 0) :: (1, .istore_n 2, 1, 2, 0, [], 0) :: (2, .iconst 0, 1, 0, 0, [], 0) :: (3, .istore_n 3, 1, 3, 0, [], 0) :: uX0_weightOf_4
set_option maxRecDepth 100000 in
theorem jX0_weightOf_4 : zj pX0_weightOf 4 = uX0_weightOf_4 := rfl
set_option maxRecDepth 100000 in
theorem jX0_weightOf_22 : zj pX0_weightOf 22 = uX0_weightOf_22 := rfl
set_option maxRecDepth 100000 in
theorem jX0_weightOf_24 : zj pX0_weightOf 24 = uX0_weightOf_24 := rfl
set_option maxRecDepth 100000 in
def uX0_mostTelling_45 : List zEn := (75, .iload_n 1, 1, 1, 0, [], 0) :: (76, .ireturn, 1, 0, 0, [], 0) :: []
set_option maxRecDepth 100000 in
def uX0_mostTelling_43 : List zEn := (69, .iinc 3 1, 3, 3, 0, [], 1) :: (72, .goto (-65), 3, 6, 0, [], 0) :: uX0_mostTelling_45
set_option maxRecDepth 100000 in
def uX0_mostTelling_39 : List zEn := (64, .iload_n 3, 1, 3, 0, [], 0) :: (65, .istore_n 1, 1, 1, 0, [], 0) :: (66, .iload 4, 2, 4, 0, [], 0) :: (68, .istore_n 2, 1, 2, 0, [], 0) :: uX0_mostTelling_43
set_option maxRecDepth 100000 in
def uX0_mostTelling_7 : List zEn := (7, .iload_n 3, 1, 3, 0, [], 0) :: (8, .aload_n 0, 1, 0, 0, [], 0) :: (9, .getfield 18, 3, 0, 2, [(0, 0), (0, 174)], 0) :: (12, .if_icmp .ge 63, 3, 45, 0, [], 0) :: (15, .aload_n 0, 1, 0, 0, [], 0) :: (16, .aload_n 0, 1, 0, 0, [], 0) :: (17, .getfield 22, 3, 0, 3, [(0, 0), (0, 176)], 0) :: (20, .aload_n 0, 1, 0, 0, [], 0) :: (21, .getfield 15, 3, 0, 1, [(0, 2), (0, 172)], 0) :: (24, .iload_n 3, 1, 3, 0, [], 0) :: (25, .iaload, 1, 0, 0, [], 0) :: (26, .iand, 1, 0, 0, [], 0) :: (27, .invokevirtual 32, 3, 203, 2, [(0, 1), (0, 0), (0, 0), (0, 0), (0, 1061)], 0) :: (30, .aload_n 0, 1, 0, 0, [], 0) :: (31, .aload_n 0, 1, 0, 0, [], 0) :: (32, .getfield 22, 3, 0, 3, [(0, 0), (0, 176)], 0) :: (35, .aload_n 0, 1, 0, 0, [], 0) :: (36, .getfield 15, 3, 0, 1, [(0, 2), (0, 172)], 0) :: (39, .iload_n 3, 1, 3, 0, [], 0) :: (40, .iaload, 1, 0, 0, [], 0) :: (41, .iconst (-1), 1, 0, 0, [], (-1)) :: (42, .ixor, 1, 0, 0, [], 0) :: (43, .iand, 1, 0, 0, [], 0) :: (44, .invokevirtual 32, 3, 203, 2, [(0, 1), (0, 0), (0, 0), (0, 0), (0, 1061)], 0) :: (47, .invokestatic 36, 3, 19, 2, [(0, 1), (0, 0), (0, 0), (0, 1065)], 0) :: (50, .istore 4, 2, 4, 0, [], 0) :: (52, .iload_n 1, 1, 1, 0, [], 0) :: (53, .ldc 31, 2, 0, 0, [(0, 1060)], (-1000000005)) :: (55, .if_icmp .eq 9, 3, 39, 0, [], 0) :: (58, .iload 4, 2, 4, 0, [], 0) :: (60, .iload_n 2, 1, 2, 0, [], 0) :: (61, .if_icmp .ge 8, 3, 43, 0, [], 0) :: uX0_mostTelling_39
set_option maxRecDepth 100000 in
def tX0_mostTelling_7 : List zEn := uX0_mostTelling_7
set_option maxRecDepth 100000 in
def uX0_mostTelling_6 : List zEn := (7, .nop, 0, 0, 0, [], 0) :: tX0_mostTelling_7
set_option maxRecDepth 100000 in
def uX0_mostTelling_0 : List zEn := (0, .ldc 31, 2, 0, 0, [(0, 1060)], (-1000000005)) :: (2, .istore_n 1, 1, 1, 0, [], 0) :: (3, .iconst 0, 1, 0, 0, [], 0) :: (4, .istore_n 2, 1, 2, 0, [], 0) :: (5, .iconst 0, 1, 0, 0, [], 0) :: (6, .istore_n 3, 1, 3, 0, [], 0) :: uX0_mostTelling_6
set_option maxRecDepth 100000 in
theorem jX0_mostTelling_6 : zj pX0_mostTelling 6 = uX0_mostTelling_6 := rfl
set_option maxRecDepth 100000 in
theorem jX0_mostTelling_39 : zj pX0_mostTelling 39 = uX0_mostTelling_39 := rfl
set_option maxRecDepth 100000 in
theorem jX0_mostTelling_43 : zj pX0_mostTelling 43 = uX0_mostTelling_43 := rfl
set_option maxRecDepth 100000 in
theorem jX0_mostTelling_45 : zj pX0_mostTelling 45 = uX0_mostTelling_45 := rfl
set_option maxRecDepth 100000 in
def uX11_next_13 : List zEn := (33, .ireturn, 1, 0, 0, [], 0) :: []
set_option maxRecDepth 100000 in
def uX11_next_9 : List zEn := (23, .aload_n 0, 1, 0, 0, [], 0) :: (24, .getfield 10, 3, 11, 0, [(0, 2), (0, 457)], 0) :: (27, .getfield 255, 3, 6, 8, [(0, 2), (0, 291)], 0) :: (30, .invokevirtual 279, 3, 204, 1, [(0, 1), (0, 0), (0, 0), (0, 0), (0, 1056)], 0) :: uX11_next_13
set_option maxRecDepth 100000 in
def uX11_next_0 : List zEn := (0, .aload_n 0, 1, 0, 0, [], 0) :: (1, .getfield 10, 3, 11, 0, [(0, 2), (0, 457)], 0) :: (4, .getfield 255, 3, 6, 8, [(0, 2), (0, 291)], 0) :: (7, .getfield 270, 3, 0, 3, [(0, 0), (0, 177)], 0) :: (10, .invokestatic 273, 3, 46, 1, [(0, 1), (0, 0), (0, 0), (0, 1054)], 0) :: (13, .iconst 2, 1, 0, 0, [], 2) :: (14, .if_icmp .ge 9, 3, 9, 0, [], 0) :: (17, .ldc_w 278, 3, 0, 0, [(0, 1055)], (-1000000005)) :: (20, .goto 13, 3, 13, 0, [], 0) :: uX11_next_9
set_option maxRecDepth 100000 in
theorem jX11_next_9 : zj pX11_next 9 = uX11_next_9 := rfl
set_option maxRecDepth 100000 in
theorem jX11_next_13 : zj pX11_next 13 = uX11_next_13 := rfl
set_option maxRecDepth 100000 in
def uX12_weightOf_25 : List zEn := (34, .iload_n 2, 1, 2, 0, [], 0) :: (35, .ireturn, 1, 0, 0, [], 0) :: []
set_option maxRecDepth 100000 in
def uX12_weightOf_5 : List zEn := (4, .iload_n 3, 1, 3, 0, [], 0) :: (5, .bipush 8, 2, 0, 0, [], 8) :: (7, .if_icmp .ge 27, 3, 25, 0, [], 0) :: (10, .iload_n 2, 1, 2, 0, [], 0) :: (11, .iload_n 1, 1, 1, 0, [], 0) :: (12, .iload_n 3, 1, 3, 0, [], 0) :: (13, .ishr, 1, 0, 0, [], 0) :: (14, .iconst 1, 1, 0, 0, [], 1) :: (15, .iand, 1, 0, 0, [], 0) :: (16, .aload_n 0, 1, 0, 0, [], 0) :: (17, .getfield 7, 3, 12, 0, [(0, 2), (0, 1250)], 0) :: (20, .bipush 10, 2, 0, 0, [], 10) :: (22, .iload_n 3, 1, 3, 0, [], 0) :: (23, .iadd, 1, 0, 0, [], 0) :: (24, .iaload, 1, 0, 0, [], 0) :: (25, .imul, 1, 0, 0, [], 0) :: (26, .iadd, 1, 0, 0, [], 0) :: (27, .istore_n 2, 1, 2, 0, [], 0) :: (28, .iinc 3 1, 3, 3, 0, [], 1) :: (31, .goto (-27), 3, 4, 0, [], 0) :: uX12_weightOf_25
set_option maxRecDepth 100000 in
def tX12_weightOf_5 : List zEn := uX12_weightOf_5
set_option maxRecDepth 100000 in
def uX12_weightOf_4 : List zEn := (4, .nop, 0, 0, 0, [], 0) :: tX12_weightOf_5
set_option maxRecDepth 100000 in
def uX12_weightOf_0 : List zEn := (0, .iconst 0, 1, 0, 0, [], 0) :: (1, .istore_n 2, 1, 2, 0, [], 0) :: (2, .iconst 0, 1, 0, 0, [], 0) :: (3, .istore_n 3, 1, 3, 0, [], 0) :: uX12_weightOf_4
set_option maxRecDepth 100000 in
theorem jX12_weightOf_4 : zj pX12_weightOf 4 = uX12_weightOf_4 := rfl
set_option maxRecDepth 100000 in
theorem jX12_weightOf_25 : zj pX12_weightOf 25 = uX12_weightOf_25 := rfl
set_option maxRecDepth 100000 in
def uX12_next_70 : List zEn := (118, .iload_n 1, 1, 1, 0, [], 0) :: (119, .invokestatic 155, 3, 70, 1, [(0, 1), (0, 0), (0, 0), (0, 1460)], 0) :: (122, .ireturn, 1, 0, 0, [], 0) :: []
set_option maxRecDepth 100000 in
def uX12_next_68 : List zEn := (112, .iinc 3 1, 3, 3, 0, [], 1) :: (115, .goto (-92), 3, 15, 0, [], 0) :: uX12_next_70
set_option maxRecDepth 100000 in
def uX12_next_64 : List zEn := (107, .iload_n 3, 1, 3, 0, [], 0) :: (108, .istore_n 1, 1, 1, 0, [], 0) :: (109, .iload 6, 2, 6, 0, [], 0) :: (111, .istore_n 2, 1, 2, 0, [], 0) :: uX12_next_68
set_option maxRecDepth 100000 in
def uX12_next_58 : List zEn := (95, .istore 6, 2, 6, 0, [], 0) :: (97, .iload_n 1, 1, 1, 0, [], 0) :: (98, .ifCond .lt 9, 3, 64, 0, [], 0) :: (101, .iload 6, 2, 6, 0, [], 0) :: (103, .iload_n 2, 1, 2, 0, [], 0) :: (104, .if_icmp .ge 8, 3, 68, 0, [], 0) :: uX12_next_64
set_option maxRecDepth 100000 in
def uX12_next_57 : List zEn := (93, .iload 5, 2, 5, 0, [], 0) :: uX12_next_58
set_option maxRecDepth 100000 in
def uX12_next_16 : List zEn := (23, .iload_n 3, 1, 3, 0, [], 0) :: (24, .aload_n 0, 1, 0, 0, [], 0) :: (25, .getfield 7, 3, 12, 0, [(0, 2), (0, 1250)], 0) :: (28, .iconst 3, 1, 0, 0, [], 3) :: (29, .iaload, 1, 0, 0, [], 0) :: (30, .if_icmp .ge 88, 3, 70, 0, [], 0) :: (33, .aload_n 0, 1, 0, 0, [], 0) :: (34, .aload_n 0, 1, 0, 0, [], 0) :: (35, .getfield 7, 3, 12, 0, [(0, 2), (0, 1250)], 0) :: (38, .bipush 9, 2, 0, 0, [], 9) :: (40, .iaload, 1, 0, 0, [], 0) :: (41, .aload_n 0, 1, 0, 0, [], 0) :: (42, .getfield 7, 3, 12, 0, [(0, 2), (0, 1250)], 0) :: (45, .bipush 18, 2, 0, 0, [], 18) :: (47, .iload_n 3, 1, 3, 0, [], 0) :: (48, .iadd, 1, 0, 0, [], 0) :: (49, .iaload, 1, 0, 0, [], 0) :: (50, .iand, 1, 0, 0, [], 0) :: (51, .invokevirtual 316, 3, 206, 2, [(0, 1), (0, 0), (0, 0), (0, 12), (0, 1691)], 0) :: (54, .istore 4, 2, 4, 0, [], 0) :: (56, .aload_n 0, 1, 0, 0, [], 0) :: (57, .aload_n 0, 1, 0, 0, [], 0) :: (58, .getfield 7, 3, 12, 0, [(0, 2), (0, 1250)], 0) :: (61, .bipush 9, 2, 0, 0, [], 9) :: (63, .iaload, 1, 0, 0, [], 0) :: (64, .aload_n 0, 1, 0, 0, [], 0) :: (65, .getfield 7, 3, 12, 0, [(0, 2), (0, 1250)], 0) :: (68, .bipush 18, 2, 0, 0, [], 18) :: (70, .iload_n 3, 1, 3, 0, [], 0) :: (71, .iadd, 1, 0, 0, [], 0) :: (72, .iaload, 1, 0, 0, [], 0) :: (73, .iconst (-1), 1, 0, 0, [], (-1)) :: (74, .ixor, 1, 0, 0, [], 0) :: (75, .iand, 1, 0, 0, [], 0) :: (76, .invokevirtual 316, 3, 206, 2, [(0, 1), (0, 0), (0, 0), (0, 12), (0, 1691)], 0) :: (79, .istore 5, 2, 5, 0, [], 0) :: (81, .iload 4, 2, 4, 0, [], 0) :: (83, .iload 5, 2, 5, 0, [], 0) :: (85, .if_icmp .le 8, 3, 57, 0, [], 0) :: (88, .iload 4, 2, 4, 0, [], 0) :: (90, .goto 5, 3, 58, 0, [], 0) :: uX12_next_57
set_option maxRecDepth 100000 in
def tX12_next_16 : List zEn := uX12_next_16
set_option maxRecDepth 100000 in
def uX12_next_15 : List zEn := (23, .nop, 0, 0, 0, [], 0) :: tX12_next_16
set_option maxRecDepth 100000 in
def uX12_next_9 : List zEn := (17, .iconst (-1), 1, 0, 0, [], (-1)) :: (18, .istore_n 1, 1, 1, 0, [], 0) :: (19, .iconst 0, 1, 0, 0, [], 0) :: (20, .istore_n 2, 1, 2, 0, [], 0) :: (21, .iconst 0, 1, 0, 0, [], 0) :: (22, .istore_n 3, 1, 3, 0, [], 0) :: uX12_next_15
set_option maxRecDepth 100000 in
def uX12_next_0 : List zEn := (0, .aload_n 0, 1, 0, 0, [], 0) :: (1, .getfield 7, 3, 12, 0, [(0, 2), (0, 1250)], 0) :: (4, .bipush 9, 2, 0, 0, [], 9) :: (6, .iaload, 1, 0, 0, [], 0) :: (7, .invokestatic 117, 3, 63, 1, [(0, 1), (0, 0), (0, 0), (0, 1442)], 0) :: (10, .iconst 2, 1, 0, 0, [], 2) :: (11, .if_icmp .ge 6, 3, 9, 0, [], 0) :: (14, .ldc 76, 2, 0, 0, [(0, 1463)], (-1000000005)) :: (16, .ireturn, 1, 0, 0, [], 0) :: uX12_next_9
set_option maxRecDepth 100000 in
theorem jX12_next_9 : zj pX12_next 9 = uX12_next_9 := rfl
set_option maxRecDepth 100000 in
theorem jX12_next_15 : zj pX12_next 15 = uX12_next_15 := rfl
set_option maxRecDepth 100000 in
theorem jX12_next_57 : zj pX12_next 57 = uX12_next_57 := rfl
set_option maxRecDepth 100000 in
theorem jX12_next_58 : zj pX12_next 58 = uX12_next_58 := rfl
set_option maxRecDepth 100000 in
theorem jX12_next_64 : zj pX12_next 64 = uX12_next_64 := rfl
set_option maxRecDepth 100000 in
theorem jX12_next_68 : zj pX12_next 68 = uX12_next_68 := rfl
set_option maxRecDepth 100000 in
theorem jX12_next_70 : zj pX12_next 70 = uX12_next_70 := rfl
set_option maxRecDepth 100000 in
def uX0_fewestOf_49 : List zEn := (83, .iload_n 3, 1, 3, 0, [], 0) :: (84, .ireturn, 1, 0, 0, [], 0) :: []
set_option maxRecDepth 100000 in
def uX0_fewestOf_47 : List zEn := (77, .iinc 4 1, 3, 4, 0, [], 1) :: (80, .goto (-64), 3, 10, 0, [], 0) :: uX0_fewestOf_49
set_option maxRecDepth 100000 in
def uX0_fewestOf_11 : List zEn := (16, .iload 4, 2, 4, 0, [], 0) :: (18, .aload_n 0, 1, 0, 0, [], 0) :: (19, .getfield 18, 3, 0, 2, [(0, 0), (0, 174)], 0) :: (22, .if_icmp .ge 61, 3, 49, 0, [], 0) :: (25, .iload_n 1, 1, 1, 0, [], 0) :: (26, .aload_n 0, 1, 0, 0, [], 0) :: (27, .getfield 15, 3, 0, 1, [(0, 2), (0, 172)], 0) :: (30, .iload 4, 2, 4, 0, [], 0) :: (32, .iaload, 1, 0, 0, [], 0) :: (33, .iand, 1, 0, 0, [], 0) :: (34, .istore 5, 2, 5, 0, [], 0) :: (36, .iload_n 1, 1, 1, 0, [], 0) :: (37, .aload_n 0, 1, 0, 0, [], 0) :: (38, .getfield 15, 3, 0, 1, [(0, 2), (0, 172)], 0) :: (41, .iload 4, 2, 4, 0, [], 0) :: (43, .iaload, 1, 0, 0, [], 0) :: (44, .iconst (-1), 1, 0, 0, [], (-1)) :: (45, .ixor, 1, 0, 0, [], 0) :: (46, .iand, 1, 0, 0, [], 0) :: (47, .istore 6, 2, 6, 0, [], 0) :: (49, .iload 5, 2, 5, 0, [], 0) :: (51, .ifCond .eq 26, 3, 47, 0, [], 0) :: (54, .iload 6, 2, 6, 0, [], 0) :: (56, .ifCond .eq 21, 3, 47, 0, [], 0) :: (59, .iload_n 3, 1, 3, 0, [], 0) :: (60, .iconst 1, 1, 0, 0, [], 1) :: (61, .aload_n 2, 1, 2, 0, [], 0) :: (62, .iload 5, 2, 5, 0, [], 0) :: (64, .iaload, 1, 0, 0, [], 0) :: (65, .aload_n 2, 1, 2, 0, [], 0) :: (66, .iload 6, 2, 6, 0, [], 0) :: (68, .iaload, 1, 0, 0, [], 0) :: (69, .invokestatic 36, 3, 19, 2, [(0, 1), (0, 0), (0, 0), (0, 1065)], 0) :: (72, .iadd, 1, 0, 0, [], 0) :: (73, .invokestatic 51, 3, 94, 2, [(0, 1), (0, 0), (0, 0), (0, 1079)], 0) :: (76, .istore_n 3, 1, 3, 0, [], 0) :: uX0_fewestOf_47
set_option maxRecDepth 100000 in
def tX0_fewestOf_11 : List zEn := uX0_fewestOf_11
set_option maxRecDepth 100000 in
def uX0_fewestOf_10 : List zEn := (16, .nop, 0, 0, 0, [], 0) :: tX0_fewestOf_11
set_option maxRecDepth 100000 in
def uX0_fewestOf_6 : List zEn := (10, .bipush 99, 2, 0, 0, [], 99) :: (12, .istore_n 3, 1, 3, 0, [], 0) :: (13, .iconst 0, 1, 0, 0, [], 0) :: (14, .istore 4, 2, 4, 0, [], 0) :: uX0_fewestOf_10
set_option maxRecDepth 100000 in
def uX0_fewestOf_0 : List zEn := (0, .iload_n 1, 1, 1, 0, [], 0) :: (1, .invokestatic 46, 3, 46, 1, [(0, 1), (0, 0), (0, 0), (0, 1078)], 0) :: (4, .iconst 2, 1, 0, 0, [], 2) :: (5, .if_icmp .ge 5, 3, 6, 0, [], 0) :: (8, .iconst 0, 1, 0, 0, [], 0) :: (9, .ireturn, 1, 0, 0, [], 0) :: uX0_fewestOf_6
set_option maxRecDepth 100000 in
theorem jX0_fewestOf_6 : zj pX0_fewestOf 6 = uX0_fewestOf_6 := rfl
set_option maxRecDepth 100000 in
theorem jX0_fewestOf_10 : zj pX0_fewestOf 10 = uX0_fewestOf_10 := rfl
set_option maxRecDepth 100000 in
theorem jX0_fewestOf_47 : zj pX0_fewestOf 47 = uX0_fewestOf_47 := rfl
set_option maxRecDepth 100000 in
theorem jX0_fewestOf_49 : zj pX0_fewestOf 49 = uX0_fewestOf_49 := rfl
set_option maxRecDepth 100000 in
def uX0_fewestChecks_43 : List zEn := (72, .aload_n 1, 1, 1, 0, [], 0) :: (73, .aload_n 0, 1, 0, 0, [], 0) :: (74, .getfield 22, 3, 0, 3, [(0, 0), (0, 176)], 0) :: (77, .iaload, 1, 0, 0, [], 0) :: (78, .ireturn, 1, 0, 0, [], 0) :: []
set_option maxRecDepth 100000 in
def uX0_fewestChecks_41 : List zEn := (69, .ldc 31, 2, 0, 0, [(0, 1060)], (-1000000005)) :: (71, .ireturn, 1, 0, 0, [], 0) :: uX0_fewestChecks_43
set_option maxRecDepth 100000 in
def uX0_fewestChecks_27 : List zEn := (42, .aload_n 0, 1, 0, 0, [], 0) :: (43, .getfield 22, 3, 0, 3, [(0, 0), (0, 176)], 0) :: (46, .ifCond .lt 23, 3, 41, 0, [], 0) :: (49, .aload_n 0, 1, 0, 0, [], 0) :: (50, .getfield 22, 3, 0, 3, [(0, 0), (0, 176)], 0) :: (53, .aload_n 1, 1, 1, 0, [], 0) :: (54, .arraylength, 1, 0, 0, [], 0) :: (55, .if_icmp .ge 14, 3, 41, 0, [], 0) :: (58, .aload_n 1, 1, 1, 0, [], 0) :: (59, .aload_n 0, 1, 0, 0, [], 0) :: (60, .getfield 22, 3, 0, 3, [(0, 0), (0, 176)], 0) :: (63, .iaload, 1, 0, 0, [], 0) :: (64, .bipush 99, 2, 0, 0, [], 99) :: (66, .if_icmp .lt 6, 3, 43, 0, [], 0) :: uX0_fewestChecks_41
set_option maxRecDepth 100000 in
def uX0_fewestChecks_25 : List zEn := (36, .iinc 2 1, 3, 2, 0, [], 1) :: (39, .goto (-37), 3, 2, 0, [], 0) :: uX0_fewestChecks_27
set_option maxRecDepth 100000 in
def uX0_fewestChecks_3 : List zEn := (2, .iload_n 2, 1, 2, 0, [], 0) :: (3, .aload_n 0, 1, 0, 0, [], 0) :: (4, .getfield 22, 3, 0, 3, [(0, 0), (0, 176)], 0) :: (7, .if_icmp .gt 35, 3, 27, 0, [], 0) :: (10, .iload_n 2, 1, 2, 0, [], 0) :: (11, .aload_n 1, 1, 1, 0, [], 0) :: (12, .arraylength, 1, 0, 0, [], 0) :: (13, .if_icmp .ge 29, 3, 27, 0, [], 0) :: (16, .iload_n 2, 1, 2, 0, [], 0) :: (17, .aload_n 0, 1, 0, 0, [], 0) :: (18, .getfield 22, 3, 0, 3, [(0, 0), (0, 176)], 0) :: (21, .iconst (-1), 1, 0, 0, [], (-1)) :: (22, .ixor, 1, 0, 0, [], 0) :: (23, .iand, 1, 0, 0, [], 0) :: (24, .ifCond .ne 12, 3, 25, 0, [], 0) :: (27, .aload_n 1, 1, 1, 0, [], 0) :: (28, .iload_n 2, 1, 2, 0, [], 0) :: (29, .aload_n 0, 1, 0, 0, [], 0) :: (30, .iload_n 2, 1, 2, 0, [], 0) :: (31, .aload_n 1, 1, 1, 0, [], 0) :: (32, .invokevirtual 42, 3, 208, 3, [(0, 1), (0, 0), (0, 0), (0, 0), (0, 1074)], 0) :: (35, .iastore, 1, 0, 0, [], 0) :: uX0_fewestChecks_25
set_option maxRecDepth 100000 in
def tX0_fewestChecks_3 : List zEn := uX0_fewestChecks_3
set_option maxRecDepth 100000 in
def uX0_fewestChecks_2 : List zEn := (2, .nop, 0, 0, 0, [], 0) :: tX0_fewestChecks_3
set_option maxRecDepth 100000 in
def uX0_fewestChecks_0 : List zEn := (0, .iconst 0, 1, 0, 0, [], 0) :: (1, .istore_n 2, 1, 2, 0, [], 0) :: uX0_fewestChecks_2
set_option maxRecDepth 100000 in
theorem jX0_fewestChecks_2 : zj pX0_fewestChecks 2 = uX0_fewestChecks_2 := rfl
set_option maxRecDepth 100000 in
theorem jX0_fewestChecks_25 : zj pX0_fewestChecks 25 = uX0_fewestChecks_25 := rfl
set_option maxRecDepth 100000 in
theorem jX0_fewestChecks_27 : zj pX0_fewestChecks 27 = uX0_fewestChecks_27 := rfl
set_option maxRecDepth 100000 in
theorem jX0_fewestChecks_41 : zj pX0_fewestChecks 41 = uX0_fewestChecks_41 := rfl
set_option maxRecDepth 100000 in
theorem jX0_fewestChecks_43 : zj pX0_fewestChecks 43 = uX0_fewestChecks_43 := rfl
set_option maxRecDepth 100000 in
def uX11_deep_0 : List zEn := (0, .aload_n 0, 1, 0, 0, [], 0) :: (1, .getfield 10, 3, 11, 0, [(0, 2), (0, 457)], 0) :: (4, .getfield 255, 3, 6, 8, [(0, 2), (0, 291)], 0) :: (7, .aload_n 0, 1, 0, 0, [], 0) :: (8, .getfield 33, 3, 11, 5, [(0, 2), (0, 462)], 0) :: (11, .invokevirtual 282, 3, 209, 2, [(0, 1), (0, 0), (0, 0), (0, 0), (0, 1070)], 0) :: (14, .ireturn, 1, 0, 0, [], 0) :: []
set_option maxRecDepth 100000 in
def uX12_deep_108 : List zEn := (185, .ireturn, 1, 0, 0, [], 0) :: []
set_option maxRecDepth 100000 in
def uX12_deep_107 : List zEn := (183, .ldc 76, 2, 0, 0, [(0, 1463)], (-1000000005)) :: uX12_deep_108
set_option maxRecDepth 100000 in
def uX12_deep_90 : List zEn := (151, .aload_n 0, 1, 0, 0, [], 0) :: (152, .getfield 64, 3, 12, 32, [(0, 2), (0, 1282)], 0) :: (155, .aload_n 0, 1, 0, 0, [], 0) :: (156, .getfield 7, 3, 12, 0, [(0, 2), (0, 1250)], 0) :: (159, .bipush 9, 2, 0, 0, [], 9) :: (161, .iaload, 1, 0, 0, [], 0) :: (162, .iaload, 1, 0, 0, [], 0) :: (163, .bipush 99, 2, 0, 0, [], 99) :: (165, .if_icmp .ge 18, 3, 107, 0, [], 0) :: (168, .aload_n 0, 1, 0, 0, [], 0) :: (169, .getfield 64, 3, 12, 32, [(0, 2), (0, 1282)], 0) :: (172, .aload_n 0, 1, 0, 0, [], 0) :: (173, .getfield 7, 3, 12, 0, [(0, 2), (0, 1250)], 0) :: (176, .bipush 9, 2, 0, 0, [], 9) :: (178, .iaload, 1, 0, 0, [], 0) :: (179, .iaload, 1, 0, 0, [], 0) :: (180, .goto 5, 3, 108, 0, [], 0) :: uX12_deep_107
set_option maxRecDepth 100000 in
def uX12_deep_88 : List zEn := (145, .iinc 1 1, 3, 1, 0, [], 1) :: (148, .goto (-146), 3, 2, 0, [], 0) :: uX12_deep_90
set_option maxRecDepth 100000 in
def uX12_deep_86 : List zEn := (139, .iinc 2 1, 3, 2, 0, [], 1) :: (142, .goto (-111), 3, 19, 0, [], 0) :: uX12_deep_88
set_option maxRecDepth 100000 in
def uX12_deep_85 : List zEn := (138, .iastore, 1, 0, 0, [], 0) :: uX12_deep_86
set_option maxRecDepth 100000 in
def uX12_deep_81 : List zEn := (132, .aload_n 0, 1, 0, 0, [], 0) :: (133, .getfield 64, 3, 12, 32, [(0, 2), (0, 1282)], 0) :: (136, .iload_n 1, 1, 1, 0, [], 0) :: (137, .iaload, 1, 0, 0, [], 0) :: uX12_deep_85
set_option maxRecDepth 100000 in
def uX12_deep_68 : List zEn := (108, .iadd, 1, 0, 0, [], 0) :: (109, .istore 4, 2, 4, 0, [], 0) :: (111, .aload_n 0, 1, 0, 0, [], 0) :: (112, .getfield 64, 3, 12, 32, [(0, 2), (0, 1282)], 0) :: (115, .iload_n 1, 1, 1, 0, [], 0) :: (116, .iload 4, 2, 4, 0, [], 0) :: (118, .aload_n 0, 1, 0, 0, [], 0) :: (119, .getfield 64, 3, 12, 32, [(0, 2), (0, 1282)], 0) :: (122, .iload_n 1, 1, 1, 0, [], 0) :: (123, .iaload, 1, 0, 0, [], 0) :: (124, .if_icmp .ge 8, 3, 81, 0, [], 0) :: (127, .iload 4, 2, 4, 0, [], 0) :: (129, .goto 9, 3, 85, 0, [], 0) :: uX12_deep_81
set_option maxRecDepth 100000 in
def uX12_deep_62 : List zEn := (100, .aload_n 0, 1, 0, 0, [], 0) :: (101, .getfield 64, 3, 12, 32, [(0, 2), (0, 1282)], 0) :: (104, .iload_n 1, 1, 1, 0, [], 0) :: (105, .iload_n 3, 1, 3, 0, [], 0) :: (106, .isub, 1, 0, 0, [], 0) :: (107, .iaload, 1, 0, 0, [], 0) :: uX12_deep_68
set_option maxRecDepth 100000 in
def uX12_deep_45 : List zEn := (73, .iconst 1, 1, 0, 0, [], 1) :: (74, .aload_n 0, 1, 0, 0, [], 0) :: (75, .getfield 64, 3, 12, 32, [(0, 2), (0, 1282)], 0) :: (78, .iload_n 3, 1, 3, 0, [], 0) :: (79, .iaload, 1, 0, 0, [], 0) :: (80, .aload_n 0, 1, 0, 0, [], 0) :: (81, .getfield 64, 3, 12, 32, [(0, 2), (0, 1282)], 0) :: (84, .iload_n 1, 1, 1, 0, [], 0) :: (85, .iload_n 3, 1, 3, 0, [], 0) :: (86, .isub, 1, 0, 0, [], 0) :: (87, .iaload, 1, 0, 0, [], 0) :: (88, .if_icmp .le 12, 3, 62, 0, [], 0) :: (91, .aload_n 0, 1, 0, 0, [], 0) :: (92, .getfield 64, 3, 12, 32, [(0, 2), (0, 1282)], 0) :: (95, .iload_n 3, 1, 3, 0, [], 0) :: (96, .iaload, 1, 0, 0, [], 0) :: (97, .goto 11, 3, 68, 0, [], 0) :: uX12_deep_62
set_option maxRecDepth 100000 in
def uX12_deep_20 : List zEn := (31, .iload_n 2, 1, 2, 0, [], 0) :: (32, .aload_n 0, 1, 0, 0, [], 0) :: (33, .getfield 7, 3, 12, 0, [(0, 2), (0, 1250)], 0) :: (36, .iconst 3, 1, 0, 0, [], 3) :: (37, .iaload, 1, 0, 0, [], 0) :: (38, .if_icmp .ge 107, 3, 88, 0, [], 0) :: (41, .iload_n 1, 1, 1, 0, [], 0) :: (42, .invokestatic 117, 3, 63, 1, [(0, 1), (0, 0), (0, 0), (0, 1442)], 0) :: (45, .iconst 1, 1, 0, 0, [], 1) :: (46, .if_icmp .le 99, 3, 88, 0, [], 0) :: (49, .iload_n 1, 1, 1, 0, [], 0) :: (50, .aload_n 0, 1, 0, 0, [], 0) :: (51, .getfield 7, 3, 12, 0, [(0, 2), (0, 1250)], 0) :: (54, .bipush 18, 2, 0, 0, [], 18) :: (56, .iload_n 2, 1, 2, 0, [], 0) :: (57, .iadd, 1, 0, 0, [], 0) :: (58, .iaload, 1, 0, 0, [], 0) :: (59, .iand, 1, 0, 0, [], 0) :: (60, .istore_n 3, 1, 3, 0, [], 0) :: (61, .iload_n 3, 1, 3, 0, [], 0) :: (62, .ifCond .eq 77, 3, 86, 0, [], 0) :: (65, .iload_n 3, 1, 3, 0, [], 0) :: (66, .iload_n 1, 1, 1, 0, [], 0) :: (67, .if_icmp .ne 6, 3, 45, 0, [], 0) :: (70, .goto 69, 3, 86, 0, [], 0) :: uX12_deep_45
set_option maxRecDepth 100000 in
def tX12_deep_20 : List zEn := uX12_deep_20
set_option maxRecDepth 100000 in
def uX12_deep_19 : List zEn := (31, .nop, 0, 0, 0, [], 0) :: tX12_deep_20
set_option maxRecDepth 100000 in
def uX12_deep_16 : List zEn := (28, .iastore, 1, 0, 0, [], 0) :: (29, .iconst 0, 1, 0, 0, [], 0) :: (30, .istore_n 2, 1, 2, 0, [], 0) :: uX12_deep_19
set_option maxRecDepth 100000 in
def uX12_deep_15 : List zEn := (26, .bipush 99, 2, 0, 0, [], 99) :: uX12_deep_16
set_option maxRecDepth 100000 in
def uX12_deep_3 : List zEn := (2, .iload_n 1, 1, 1, 0, [], 0) :: (3, .sipush 255, 3, 0, 0, [], 255) :: (6, .if_icmp .gt 145, 3, 90, 0, [], 0) :: (9, .aload_n 0, 1, 0, 0, [], 0) :: (10, .getfield 64, 3, 12, 32, [(0, 2), (0, 1282)], 0) :: (13, .iload_n 1, 1, 1, 0, [], 0) :: (14, .iload_n 1, 1, 1, 0, [], 0) :: (15, .invokestatic 117, 3, 63, 1, [(0, 1), (0, 0), (0, 0), (0, 1442)], 0) :: (18, .iconst 2, 1, 0, 0, [], 2) :: (19, .if_icmp .ge 7, 3, 15, 0, [], 0) :: (22, .iconst 0, 1, 0, 0, [], 0) :: (23, .goto 5, 3, 16, 0, [], 0) :: uX12_deep_15
set_option maxRecDepth 100000 in
def tX12_deep_3 : List zEn := uX12_deep_3
set_option maxRecDepth 100000 in
def uX12_deep_2 : List zEn := (2, .nop, 0, 0, 0, [], 0) :: tX12_deep_3
set_option maxRecDepth 100000 in
def uX12_deep_0 : List zEn := (0, .iconst 0, 1, 0, 0, [], 0) :: (1, .istore_n 1, 1, 1, 0, [], 0) :: uX12_deep_2
set_option maxRecDepth 100000 in
theorem jX12_deep_2 : zj pX12_deep 2 = uX12_deep_2 := rfl
set_option maxRecDepth 100000 in
theorem jX12_deep_15 : zj pX12_deep 15 = uX12_deep_15 := rfl
set_option maxRecDepth 100000 in
theorem jX12_deep_16 : zj pX12_deep 16 = uX12_deep_16 := rfl
set_option maxRecDepth 100000 in
theorem jX12_deep_19 : zj pX12_deep 19 = uX12_deep_19 := rfl
set_option maxRecDepth 100000 in
theorem jX12_deep_45 : zj pX12_deep 45 = uX12_deep_45 := rfl
set_option maxRecDepth 100000 in
theorem jX12_deep_62 : zj pX12_deep 62 = uX12_deep_62 := rfl
set_option maxRecDepth 100000 in
theorem jX12_deep_68 : zj pX12_deep 68 = uX12_deep_68 := rfl
set_option maxRecDepth 100000 in
theorem jX12_deep_81 : zj pX12_deep 81 = uX12_deep_81 := rfl
set_option maxRecDepth 100000 in
theorem jX12_deep_85 : zj pX12_deep 85 = uX12_deep_85 := rfl
set_option maxRecDepth 100000 in
theorem jX12_deep_86 : zj pX12_deep 86 = uX12_deep_86 := rfl
set_option maxRecDepth 100000 in
theorem jX12_deep_88 : zj pX12_deep 88 = uX12_deep_88 := rfl
set_option maxRecDepth 100000 in
theorem jX12_deep_90 : zj pX12_deep 90 = uX12_deep_90 := rfl
set_option maxRecDepth 100000 in
theorem jX12_deep_107 : zj pX12_deep 107 = uX12_deep_107 := rfl
set_option maxRecDepth 100000 in
theorem jX12_deep_108 : zj pX12_deep 108 = uX12_deep_108 := rfl
set_option maxRecDepth 100000 in
def uX6_drawn_0 : List zEn := (0, .aload_n 0, 1, 0, 0, [], 0) :: (1, .aload_n 0, 1, 0, 0, [], 0) :: (2, .getfield 64, 3, 6, 11, [(0, 0), (0, 296)], 0) :: (5, .ldc 194, 2, 0, 0, [(0, 1092)], 1103515245) :: (7, .imul, 1, 0, 0, [], 0) :: (8, .sipush 12345, 3, 0, 0, [], 12345) :: (11, .iadd, 1, 0, 0, [], 0) :: (12, .putfield 64, 3, 6, 11, [(0, 0), (0, 296)], 0) :: (15, .aload_n 0, 1, 0, 0, [], 0) :: (16, .getfield 64, 3, 6, 11, [(0, 0), (0, 296)], 0) :: (19, .bipush 8, 2, 0, 0, [], 8) :: (21, .iushr, 1, 0, 0, [], 0) :: (22, .ireturn, 1, 0, 0, [], 0) :: []
set_option maxRecDepth 100000 in
def uX6_passDay_48 : List zEn := (88, .iload_n 1, 1, 1, 0, [], 0) :: (89, .ireturn, 1, 0, 0, [], 0) :: []
set_option maxRecDepth 100000 in
def uX6_passDay_46 : List zEn := (82, .iinc 2 1, 3, 2, 0, [], 1) :: (85, .goto (-71), 3, 10, 0, [], 0) :: uX6_passDay_48
set_option maxRecDepth 100000 in
def uX6_passDay_38 : List zEn := (66, .aload_n 3, 1, 3, 0, [], 0) :: (67, .invokevirtual 122, 3, 49, 1, [(0, 1), (0, 0), (0, 0), (0, 3), (0, 606)], 0) :: (70, .isub, 1, 0, 0, [], 0) :: (71, .if_icmp .ge 11, 3, 46, 0, [], 0) :: (74, .aload_n 3, 1, 3, 0, [], 0) :: (75, .iconst 1, 1, 0, 0, [], 1) :: (76, .putfield 184, 3, 3, 10, [(0, 1), (0, 246)], 0) :: (79, .iinc 1 1, 3, 1, 0, [], 1) :: uX6_passDay_46
set_option maxRecDepth 100000 in
def uX6_passDay_37 : List zEn := (64, .bipush 30, 2, 0, 0, [], 30) :: uX6_passDay_38
set_option maxRecDepth 100000 in
def uX6_passDay_11 : List zEn := (14, .iload_n 2, 1, 2, 0, [], 0) :: (15, .aload_n 0, 1, 0, 0, [], 0) :: (16, .getfield 34, 3, 6, 4, [(0, 0), (0, 280)], 0) :: (19, .if_icmp .ge 69, 3, 48, 0, [], 0) :: (22, .aload_n 0, 1, 0, 0, [], 0) :: (23, .getfield 30, 3, 6, 3, [(0, 2), (0, 277)], 0) :: (26, .iload_n 2, 1, 2, 0, [], 0) :: (27, .aaload, 1, 0, 0, [], 0) :: (28, .astore_n 3, 1, 3, 0, [], 0) :: (29, .aload_n 3, 1, 3, 0, [], 0) :: (30, .getfield 150, 3, 3, 5, [(0, 0), (0, 231)], 0) :: (33, .iconst 3, 1, 0, 0, [], 3) :: (34, .if_icmp .ne 48, 3, 46, 0, [], 0) :: (37, .aload_n 3, 1, 3, 0, [], 0) :: (38, .getfield 184, 3, 3, 10, [(0, 1), (0, 246)], 0) :: (41, .ifCond .ne 41, 3, 46, 0, [], 0) :: (44, .aload_n 0, 1, 0, 0, [], 0) :: (45, .invokevirtual 187, 3, 212, 1, [(0, 1), (0, 0), (0, 0), (0, 6), (0, 1088)], 0) :: (48, .bipush 100, 2, 0, 0, [], 100) :: (50, .irem, 1, 0, 0, [], 0) :: (51, .aload_n 0, 1, 0, 0, [], 0) :: (52, .aload_n 3, 1, 3, 0, [], 0) :: (53, .invokevirtual 190, 3, 59, 2, [(0, 1), (0, 0), (0, 0), (0, 6), (0, 1093)], 0) :: (56, .ifCond .eq 8, 3, 37, 0, [], 0) :: (59, .bipush 60, 2, 0, 0, [], 60) :: (61, .goto 5, 3, 38, 0, [], 0) :: uX6_passDay_37
set_option maxRecDepth 100000 in
def tX6_passDay_11 : List zEn := uX6_passDay_11
set_option maxRecDepth 100000 in
def uX6_passDay_10 : List zEn := (14, .nop, 0, 0, 0, [], 0) :: tX6_passDay_11
set_option maxRecDepth 100000 in
def uX6_passDay_0 : List zEn := (0, .aload_n 0, 1, 0, 0, [], 0) :: (1, .dup, 1, 0, 0, [], 0) :: (2, .getfield 58, 3, 6, 9, [(0, 0), (0, 292)], 0) :: (5, .iconst 1, 1, 0, 0, [], 1) :: (6, .iadd, 1, 0, 0, [], 0) :: (7, .putfield 58, 3, 6, 9, [(0, 0), (0, 292)], 0) :: (10, .iconst 0, 1, 0, 0, [], 0) :: (11, .istore_n 1, 1, 1, 0, [], 0) :: (12, .iconst 0, 1, 0, 0, [], 0) :: (13, .istore_n 2, 1, 2, 0, [], 0) :: uX6_passDay_10
set_option maxRecDepth 100000 in
theorem jX6_passDay_10 : zj pX6_passDay 10 = uX6_passDay_10 := rfl
set_option maxRecDepth 100000 in
theorem jX6_passDay_37 : zj pX6_passDay 37 = uX6_passDay_37 := rfl
set_option maxRecDepth 100000 in
theorem jX6_passDay_38 : zj pX6_passDay 38 = uX6_passDay_38 := rfl
set_option maxRecDepth 100000 in
theorem jX6_passDay_46 : zj pX6_passDay 46 = uX6_passDay_46 := rfl
set_option maxRecDepth 100000 in
theorem jX6_passDay_48 : zj pX6_passDay 48 = uX6_passDay_48 := rfl
set_option maxRecDepth 100000 in
def uX11_run_32 : List zEn := (56, .iload_n 2, 1, 2, 0, [], 0) :: (57, .ireturn, 1, 0, 0, [], 0) :: []
set_option maxRecDepth 100000 in
def uX11_run_21 : List zEn := (35, .iload_n 3, 1, 3, 0, [], 0) :: (36, .iload_n 1, 1, 1, 0, [], 0) :: (37, .if_icmp .ge 19, 3, 32, 0, [], 0) :: (40, .iload_n 2, 1, 2, 0, [], 0) :: (41, .aload_n 0, 1, 0, 0, [], 0) :: (42, .getfield 10, 3, 11, 0, [(0, 2), (0, 457)], 0) :: (45, .invokevirtual 289, 3, 213, 1, [(0, 1), (0, 0), (0, 0), (0, 6), (0, 1084)], 0) :: (48, .iadd, 1, 0, 0, [], 0) :: (49, .istore_n 2, 1, 2, 0, [], 0) :: (50, .iinc 3 1, 3, 3, 0, [], 1) :: (53, .goto (-18), 3, 20, 0, [], 0) :: uX11_run_32
set_option maxRecDepth 100000 in
def tX11_run_21 : List zEn := uX11_run_21
set_option maxRecDepth 100000 in
def uX11_run_20 : List zEn := (35, .nop, 0, 0, 0, [], 0) :: tX11_run_21
set_option maxRecDepth 100000 in
def uX11_run_16 : List zEn := (31, .iconst 0, 1, 0, 0, [], 0) :: (32, .istore_n 2, 1, 2, 0, [], 0) :: (33, .iconst 0, 1, 0, 0, [], 0) :: (34, .istore_n 3, 1, 3, 0, [], 0) :: uX11_run_20
set_option maxRecDepth 100000 in
def uX11_run_7 : List zEn := (13, .aload_n 0, 1, 0, 0, [], 0) :: (14, .getfield 10, 3, 11, 0, [(0, 2), (0, 457)], 0) :: (17, .getfield 286, 3, 6, 9, [(0, 0), (0, 293)], 0) :: (20, .iload_n 1, 1, 1, 0, [], 0) :: (21, .iadd, 1, 0, 0, [], 0) :: (22, .sipush 999, 3, 0, 0, [], 999) :: (25, .if_icmp .le 6, 3, 16, 0, [], 0) :: (28, .ldc 76, 2, 0, 0, [(0, 499)], (-1000000003)) :: (30, .ireturn, 1, 0, 0, [], 0) :: uX11_run_16
set_option maxRecDepth 100000 in
def uX11_run_0 : List zEn := (0, .iload_n 1, 1, 1, 0, [], 0) :: (1, .iconst 1, 1, 0, 0, [], 1) :: (2, .bipush 60, 2, 0, 0, [], 60) :: (4, .invokestatic 68, 3, 12, 3, [(0, 1), (0, 0), (0, 0), (0, 495)], 0) :: (7, .ifCond .ne 6, 3, 7, 0, [], 0) :: (10, .ldc 75, 2, 0, 0, [(0, 498)], (-1000000001)) :: (12, .ireturn, 1, 0, 0, [], 0) :: uX11_run_7
set_option maxRecDepth 100000 in
theorem jX11_run_7 : zj pX11_run 7 = uX11_run_7 := rfl
set_option maxRecDepth 100000 in
theorem jX11_run_16 : zj pX11_run 16 = uX11_run_16 := rfl
set_option maxRecDepth 100000 in
theorem jX11_run_20 : zj pX11_run 20 = uX11_run_20 := rfl
set_option maxRecDepth 100000 in
theorem jX11_run_32 : zj pX11_run 32 = uX11_run_32 := rfl
set_option maxRecDepth 100000 in
def uX12_drawn_0 : List zEn := (0, .aload_n 0, 1, 0, 0, [], 0) :: (1, .getfield 7, 3, 12, 0, [(0, 2), (0, 1250)], 0) :: (4, .bipush 8, 2, 0, 0, [], 8) :: (6, .aload_n 0, 1, 0, 0, [], 0) :: (7, .getfield 7, 3, 12, 0, [(0, 2), (0, 1250)], 0) :: (10, .bipush 8, 2, 0, 0, [], 8) :: (12, .iaload, 1, 0, 0, [], 0) :: (13, .ldc_w 319, 3, 0, 0, [(0, 1712)], 1103515245) :: (16, .imul, 1, 0, 0, [], 0) :: (17, .sipush 12345, 3, 0, 0, [], 12345) :: (20, .iadd, 1, 0, 0, [], 0) :: (21, .iastore, 1, 0, 0, [], 0) :: (22, .aload_n 0, 1, 0, 0, [], 0) :: (23, .getfield 7, 3, 12, 0, [(0, 2), (0, 1250)], 0) :: (26, .bipush 8, 2, 0, 0, [], 8) :: (28, .iaload, 1, 0, 0, [], 0) :: (29, .bipush 8, 2, 0, 0, [], 8) :: (31, .iushr, 1, 0, 0, [], 0) :: (32, .ireturn, 1, 0, 0, [], 0) :: []
set_option maxRecDepth 100000 in
def uX12_oneDay_63 : List zEn := (108, .iload_n 1, 1, 1, 0, [], 0) :: (109, .ireturn, 1, 0, 0, [], 0) :: []
set_option maxRecDepth 100000 in
def uX12_oneDay_61 : List zEn := (102, .iinc 2 1, 3, 2, 0, [], 1) :: (105, .goto (-90), 3, 12, 0, [], 0) :: uX12_oneDay_63
set_option maxRecDepth 100000 in
def uX12_oneDay_46 : List zEn := (76, .aload_n 0, 1, 0, 0, [], 0) :: (77, .iload_n 2, 1, 2, 0, [], 0) :: (78, .invokevirtual 130, 3, 66, 2, [(0, 1), (0, 0), (0, 0), (0, 12), (0, 1445)], 0) :: (81, .isub, 1, 0, 0, [], 0) :: (82, .if_icmp .ge 20, 3, 61, 0, [], 0) :: (85, .aload_n 0, 1, 0, 0, [], 0) :: (86, .getfield 7, 3, 12, 0, [(0, 2), (0, 1250)], 0) :: (89, .aload_n 0, 1, 0, 0, [], 0) :: (90, .iload_n 2, 1, 2, 0, [], 0) :: (91, .invokevirtual 120, 3, 42, 2, [(0, 1), (0, 0), (0, 0), (0, 12), (0, 1422)], 0) :: (94, .bipush 10, 2, 0, 0, [], 10) :: (96, .iadd, 1, 0, 0, [], 0) :: (97, .iconst 1, 1, 0, 0, [], 1) :: (98, .iastore, 1, 0, 0, [], 0) :: (99, .iinc 1 1, 3, 1, 0, [], 1) :: uX12_oneDay_61
set_option maxRecDepth 100000 in
def uX12_oneDay_45 : List zEn := (74, .bipush 30, 2, 0, 0, [], 30) :: uX12_oneDay_46
set_option maxRecDepth 100000 in
def uX12_oneDay_35 : List zEn := (54, .aload_n 0, 1, 0, 0, [], 0) :: (55, .invokevirtual 320, 3, 215, 1, [(0, 1), (0, 0), (0, 0), (0, 12), (0, 1708)], 0) :: (58, .bipush 100, 2, 0, 0, [], 100) :: (60, .irem, 1, 0, 0, [], 0) :: (61, .aload_n 0, 1, 0, 0, [], 0) :: (62, .iload_n 2, 1, 2, 0, [], 0) :: (63, .invokevirtual 158, 3, 75, 2, [(0, 1), (0, 0), (0, 0), (0, 12), (0, 1464)], 0) :: (66, .ifCond .eq 8, 3, 45, 0, [], 0) :: (69, .bipush 60, 2, 0, 0, [], 60) :: (71, .goto 5, 3, 46, 0, [], 0) :: uX12_oneDay_45
set_option maxRecDepth 100000 in
def uX12_oneDay_13 : List zEn := (15, .iload_n 2, 1, 2, 0, [], 0) :: (16, .aload_n 0, 1, 0, 0, [], 0) :: (17, .getfield 7, 3, 12, 0, [(0, 2), (0, 1250)], 0) :: (20, .iconst 1, 1, 0, 0, [], 1) :: (21, .iaload, 1, 0, 0, [], 0) :: (22, .if_icmp .ge 86, 3, 63, 0, [], 0) :: (25, .aload_n 0, 1, 0, 0, [], 0) :: (26, .iload_n 2, 1, 2, 0, [], 0) :: (27, .iconst 3, 1, 0, 0, [], 3) :: (28, .invokevirtual 174, 3, 91, 3, [(0, 1), (0, 0), (0, 0), (0, 12), (0, 1512)], 0) :: (31, .ifCond .eq 71, 3, 61, 0, [], 0) :: (34, .aload_n 0, 1, 0, 0, [], 0) :: (35, .getfield 7, 3, 12, 0, [(0, 2), (0, 1250)], 0) :: (38, .aload_n 0, 1, 0, 0, [], 0) :: (39, .iload_n 2, 1, 2, 0, [], 0) :: (40, .invokevirtual 120, 3, 42, 2, [(0, 1), (0, 0), (0, 0), (0, 12), (0, 1422)], 0) :: (43, .bipush 10, 2, 0, 0, [], 10) :: (45, .iadd, 1, 0, 0, [], 0) :: (46, .iaload, 1, 0, 0, [], 0) :: (47, .iconst 1, 1, 0, 0, [], 1) :: (48, .if_icmp .ne 6, 3, 35, 0, [], 0) :: (51, .goto 51, 3, 61, 0, [], 0) :: uX12_oneDay_35
set_option maxRecDepth 100000 in
def tX12_oneDay_13 : List zEn := uX12_oneDay_13
set_option maxRecDepth 100000 in
def uX12_oneDay_12 : List zEn := (15, .nop, 0, 0, 0, [], 0) :: tX12_oneDay_13
set_option maxRecDepth 100000 in
def uX12_oneDay_0 : List zEn := (0, .iconst 0, 1, 0, 0, [], 0) :: (1, .istore_n 1, 1, 1, 0, [], 0) :: (2, .aload_n 0, 1, 0, 0, [], 0) :: (3, .getfield 7, 3, 12, 0, [(0, 2), (0, 1250)], 0) :: (6, .bipush 7, 2, 0, 0, [], 7) :: (8, .dup2, 1, 0, 0, [], 0) :: (9, .iaload, 1, 0, 0, [], 0) :: (10, .iconst 1, 1, 0, 0, [], 1) :: (11, .iadd, 1, 0, 0, [], 0) :: (12, .iastore, 1, 0, 0, [], 0) :: (13, .iconst 0, 1, 0, 0, [], 0) :: (14, .istore_n 2, 1, 2, 0, [], 0) :: uX12_oneDay_12
set_option maxRecDepth 100000 in
theorem jX12_oneDay_12 : zj pX12_oneDay 12 = uX12_oneDay_12 := rfl
set_option maxRecDepth 100000 in
theorem jX12_oneDay_35 : zj pX12_oneDay 35 = uX12_oneDay_35 := rfl
set_option maxRecDepth 100000 in
theorem jX12_oneDay_45 : zj pX12_oneDay 45 = uX12_oneDay_45 := rfl
set_option maxRecDepth 100000 in
theorem jX12_oneDay_46 : zj pX12_oneDay 46 = uX12_oneDay_46 := rfl
set_option maxRecDepth 100000 in
theorem jX12_oneDay_61 : zj pX12_oneDay 61 = uX12_oneDay_61 := rfl
set_option maxRecDepth 100000 in
theorem jX12_oneDay_63 : zj pX12_oneDay 63 = uX12_oneDay_63 := rfl
set_option maxRecDepth 100000 in
def uX12_run_33 : List zEn := (55, .iload_n 2, 1, 2, 0, [], 0) :: (56, .ireturn, 1, 0, 0, [], 0) :: []
set_option maxRecDepth 100000 in
def uX12_run_23 : List zEn := (37, .iload_n 3, 1, 3, 0, [], 0) :: (38, .iload_n 1, 1, 1, 0, [], 0) :: (39, .if_icmp .ge 16, 3, 33, 0, [], 0) :: (42, .iload_n 2, 1, 2, 0, [], 0) :: (43, .aload_n 0, 1, 0, 0, [], 0) :: (44, .invokevirtual 325, 3, 216, 1, [(0, 1), (0, 0), (0, 0), (0, 12), (0, 1704)], 0) :: (47, .iadd, 1, 0, 0, [], 0) :: (48, .istore_n 2, 1, 2, 0, [], 0) :: (49, .iinc 3 1, 3, 3, 0, [], 1) :: (52, .goto (-15), 3, 22, 0, [], 0) :: uX12_run_33
set_option maxRecDepth 100000 in
def tX12_run_23 : List zEn := uX12_run_23
set_option maxRecDepth 100000 in
def uX12_run_22 : List zEn := (37, .nop, 0, 0, 0, [], 0) :: tX12_run_23
set_option maxRecDepth 100000 in
def uX12_run_18 : List zEn := (33, .iconst 0, 1, 0, 0, [], 0) :: (34, .istore_n 2, 1, 2, 0, [], 0) :: (35, .iconst 0, 1, 0, 0, [], 0) :: (36, .istore_n 3, 1, 3, 0, [], 0) :: uX12_run_22
set_option maxRecDepth 100000 in
def uX12_run_8 : List zEn := (15, .aload_n 0, 1, 0, 0, [], 0) :: (16, .getfield 7, 3, 12, 0, [(0, 2), (0, 1250)], 0) :: (19, .bipush 7, 2, 0, 0, [], 7) :: (21, .iaload, 1, 0, 0, [], 0) :: (22, .iload_n 1, 1, 1, 0, [], 0) :: (23, .iadd, 1, 0, 0, [], 0) :: (24, .sipush 999, 3, 0, 0, [], 999) :: (27, .if_icmp .le 6, 3, 18, 0, [], 0) :: (30, .ldc 88, 2, 0, 0, [(0, 1373)], (-1000000003)) :: (32, .ireturn, 1, 0, 0, [], 0) :: uX12_run_18
set_option maxRecDepth 100000 in
def uX12_run_0 : List zEn := (0, .iload_n 1, 1, 1, 0, [], 0) :: (1, .i2l, 1, 0, 0, [], 0) :: (2, .lconst 1, 1, 0, 0, [], 1) :: (3, .ldc2_w 323, 3, 0, 0, [(0, 1703)], 60) :: (6, .invokestatic 77, 3, 15, 3, [(0, 1), (0, 0), (0, 0), (0, 1368)], 0) :: (9, .ifCond .ne 6, 3, 8, 0, [], 0) :: (12, .ldc 87, 2, 0, 0, [(0, 1372)], (-1000000001)) :: (14, .ireturn, 1, 0, 0, [], 0) :: uX12_run_8
set_option maxRecDepth 100000 in
theorem jX12_run_8 : zj pX12_run 8 = uX12_run_8 := rfl
set_option maxRecDepth 100000 in
theorem jX12_run_18 : zj pX12_run 18 = uX12_run_18 := rfl
set_option maxRecDepth 100000 in
theorem jX12_run_22 : zj pX12_run 22 = uX12_run_22 := rfl
set_option maxRecDepth 100000 in
theorem jX12_run_33 : zj pX12_run 33 = uX12_run_33 := rfl
set_option maxRecDepth 100000 in
def uX6_returnedOf_28 : List zEn := (52, .iload_n 2, 1, 2, 0, [], 0) :: (53, .ireturn, 1, 0, 0, [], 0) :: []
set_option maxRecDepth 100000 in
def uX6_returnedOf_26 : List zEn := (46, .iinc 3 1, 3, 3, 0, [], 1) :: (49, .goto (-45), 3, 4, 0, [], 0) :: uX6_returnedOf_28
set_option maxRecDepth 100000 in
def uX6_returnedOf_25 : List zEn := (43, .iinc 2 1, 3, 2, 0, [], 1) :: uX6_returnedOf_26
set_option maxRecDepth 100000 in
def uX6_returnedOf_5 : List zEn := (4, .iload_n 3, 1, 3, 0, [], 0) :: (5, .aload_n 0, 1, 0, 0, [], 0) :: (6, .getfield 34, 3, 6, 4, [(0, 0), (0, 280)], 0) :: (9, .if_icmp .ge 43, 3, 28, 0, [], 0) :: (12, .aload_n 0, 1, 0, 0, [], 0) :: (13, .getfield 30, 3, 6, 3, [(0, 2), (0, 277)], 0) :: (16, .iload_n 3, 1, 3, 0, [], 0) :: (17, .aaload, 1, 0, 0, [], 0) :: (18, .getfield 184, 3, 3, 10, [(0, 1), (0, 246)], 0) :: (21, .ifCond .eq 25, 3, 26, 0, [], 0) :: (24, .iload_n 1, 1, 1, 0, [], 0) :: (25, .ldc 146, 2, 0, 0, [(0, 613)], (-1000000005)) :: (27, .if_icmp .eq 16, 3, 25, 0, [], 0) :: (30, .aload_n 0, 1, 0, 0, [], 0) :: (31, .getfield 30, 3, 6, 3, [(0, 2), (0, 277)], 0) :: (34, .iload_n 3, 1, 3, 0, [], 0) :: (35, .aaload, 1, 0, 0, [], 0) :: (36, .getfield 143, 3, 3, 9, [(0, 0), (0, 244)], 0) :: (39, .iload_n 1, 1, 1, 0, [], 0) :: (40, .if_icmp .ne 6, 3, 26, 0, [], 0) :: uX6_returnedOf_25
set_option maxRecDepth 100000 in
def tX6_returnedOf_5 : List zEn := uX6_returnedOf_5
set_option maxRecDepth 100000 in
def uX6_returnedOf_4 : List zEn := (4, .nop, 0, 0, 0, [], 0) :: tX6_returnedOf_5
set_option maxRecDepth 100000 in
def uX6_returnedOf_0 : List zEn := (0, .iconst 0, 1, 0, 0, [], 0) :: (1, .istore_n 2, 1, 2, 0, [], 0) :: (2, .iconst 0, 1, 0, 0, [], 0) :: (3, .istore_n 3, 1, 3, 0, [], 0) :: uX6_returnedOf_4
set_option maxRecDepth 100000 in
theorem jX6_returnedOf_4 : zj pX6_returnedOf 4 = uX6_returnedOf_4 := rfl
set_option maxRecDepth 100000 in
theorem jX6_returnedOf_25 : zj pX6_returnedOf 25 = uX6_returnedOf_25 := rfl
set_option maxRecDepth 100000 in
theorem jX6_returnedOf_26 : zj pX6_returnedOf 26 = uX6_returnedOf_26 := rfl
set_option maxRecDepth 100000 in
theorem jX6_returnedOf_28 : zj pX6_returnedOf 28 = uX6_returnedOf_28 := rfl
set_option maxRecDepth 100000 in
def uX6_rateOf_37 : List zEn := (66, .ireturn, 1, 0, 0, [], 0) :: []
set_option maxRecDepth 100000 in
def uX6_rateOf_30 : List zEn := (56, .bipush 100, 2, 0, 0, [], 100) :: (58, .aload_n 0, 1, 0, 0, [], 0) :: (59, .iload_n 1, 1, 1, 0, [], 0) :: (60, .invokevirtual 195, 3, 218, 2, [(0, 1), (0, 0), (0, 0), (0, 6), (0, 1102)], 0) :: (63, .imul, 1, 0, 0, [], 0) :: (64, .iload_n 2, 1, 2, 0, [], 0) :: (65, .idiv, 1, 0, 0, [], 0) :: uX6_rateOf_37
set_option maxRecDepth 100000 in
def uX6_rateOf_26 : List zEn := (47, .iload_n 2, 1, 2, 0, [], 0) :: (48, .ifCond .ne 8, 3, 30, 0, [], 0) :: (51, .ldc 146, 2, 0, 0, [(0, 613)], (-1000000005)) :: (53, .goto 13, 3, 37, 0, [], 0) :: uX6_rateOf_30
set_option maxRecDepth 100000 in
def uX6_rateOf_24 : List zEn := (41, .iinc 3 1, 3, 3, 0, [], 1) :: (44, .goto (-40), 3, 4, 0, [], 0) :: uX6_rateOf_26
set_option maxRecDepth 100000 in
def uX6_rateOf_5 : List zEn := (4, .iload_n 3, 1, 3, 0, [], 0) :: (5, .aload_n 0, 1, 0, 0, [], 0) :: (6, .getfield 34, 3, 6, 4, [(0, 0), (0, 280)], 0) :: (9, .if_icmp .ge 38, 3, 26, 0, [], 0) :: (12, .aload_n 0, 1, 0, 0, [], 0) :: (13, .getfield 30, 3, 6, 3, [(0, 2), (0, 277)], 0) :: (16, .iload_n 3, 1, 3, 0, [], 0) :: (17, .aaload, 1, 0, 0, [], 0) :: (18, .getfield 150, 3, 3, 5, [(0, 0), (0, 231)], 0) :: (21, .iconst 3, 1, 0, 0, [], 3) :: (22, .if_icmp .ne 19, 3, 24, 0, [], 0) :: (25, .aload_n 0, 1, 0, 0, [], 0) :: (26, .getfield 30, 3, 6, 3, [(0, 2), (0, 277)], 0) :: (29, .iload_n 3, 1, 3, 0, [], 0) :: (30, .aaload, 1, 0, 0, [], 0) :: (31, .getfield 143, 3, 3, 9, [(0, 0), (0, 244)], 0) :: (34, .iload_n 1, 1, 1, 0, [], 0) :: (35, .if_icmp .ne 6, 3, 24, 0, [], 0) :: (38, .iinc 2 1, 3, 2, 0, [], 1) :: uX6_rateOf_24
set_option maxRecDepth 100000 in
def tX6_rateOf_5 : List zEn := uX6_rateOf_5
set_option maxRecDepth 100000 in
def uX6_rateOf_4 : List zEn := (4, .nop, 0, 0, 0, [], 0) :: tX6_rateOf_5
set_option maxRecDepth 100000 in
def uX6_rateOf_0 : List zEn := (0, .iconst 0, 1, 0, 0, [], 0) :: (1, .istore_n 2, 1, 2, 0, [], 0) :: (2, .iconst 0, 1, 0, 0, [], 0) :: (3, .istore_n 3, 1, 3, 0, [], 0) :: uX6_rateOf_4
set_option maxRecDepth 100000 in
theorem jX6_rateOf_4 : zj pX6_rateOf 4 = uX6_rateOf_4 := rfl
set_option maxRecDepth 100000 in
theorem jX6_rateOf_24 : zj pX6_rateOf 24 = uX6_rateOf_24 := rfl
set_option maxRecDepth 100000 in
theorem jX6_rateOf_26 : zj pX6_rateOf 26 = uX6_rateOf_26 := rfl
set_option maxRecDepth 100000 in
theorem jX6_rateOf_30 : zj pX6_rateOf 30 = uX6_rateOf_30 := rfl
set_option maxRecDepth 100000 in
theorem jX6_rateOf_37 : zj pX6_rateOf 37 = uX6_rateOf_37 := rfl
set_option maxRecDepth 100000 in
def uX11_rate_11 : List zEn := (22, .ireturn, 1, 0, 0, [], 0) :: []
set_option maxRecDepth 100000 in
def uX11_rate_10 : List zEn := (20, .ldc 75, 2, 0, 0, [(0, 498)], (-1000000001)) :: uX11_rate_11
set_option maxRecDepth 100000 in
def uX11_rate_0 : List zEn := (0, .iload_n 1, 1, 1, 0, [], 0) :: (1, .iconst 0, 1, 0, 0, [], 0) :: (2, .iconst 3, 1, 0, 0, [], 3) :: (3, .invokestatic 68, 3, 12, 3, [(0, 1), (0, 0), (0, 0), (0, 495)], 0) :: (6, .ifCond .eq 14, 3, 10, 0, [], 0) :: (9, .aload_n 0, 1, 0, 0, [], 0) :: (10, .getfield 10, 3, 11, 0, [(0, 2), (0, 457)], 0) :: (13, .iload_n 1, 1, 1, 0, [], 0) :: (14, .invokevirtual 292, 3, 219, 2, [(0, 1), (0, 0), (0, 0), (0, 6), (0, 1098)], 0) :: (17, .goto 5, 3, 11, 0, [], 0) :: uX11_rate_10
set_option maxRecDepth 100000 in
theorem jX11_rate_10 : zj pX11_rate 10 = uX11_rate_10 := rfl
set_option maxRecDepth 100000 in
theorem jX11_rate_11 : zj pX11_rate 11 = uX11_rate_11 := rfl
set_option maxRecDepth 100000 in
def uX12_rateOf_66 : List zEn := (112, .ireturn, 1, 0, 0, [], 0) :: []
set_option maxRecDepth 100000 in
def uX12_rateOf_61 : List zEn := (106, .bipush 100, 2, 0, 0, [], 100) :: (108, .iload_n 3, 1, 3, 0, [], 0) :: (109, .imul, 1, 0, 0, [], 0) :: (110, .iload_n 2, 1, 2, 0, [], 0) :: (111, .idiv, 1, 0, 0, [], 0) :: uX12_rateOf_66
set_option maxRecDepth 100000 in
def uX12_rateOf_57 : List zEn := (98, .iload_n 2, 1, 2, 0, [], 0) :: (99, .ifCond .ne 7, 3, 61, 0, [], 0) :: (102, .iconst (-1), 1, 0, 0, [], (-1)) :: (103, .goto 9, 3, 66, 0, [], 0) :: uX12_rateOf_61
set_option maxRecDepth 100000 in
def uX12_rateOf_53 : List zEn := (90, .iadd, 1, 0, 0, [], 0) :: (91, .istore_n 3, 1, 3, 0, [], 0) :: (92, .iinc 4 1, 3, 4, 0, [], 1) :: (95, .goto (-88), 3, 6, 0, [], 0) :: uX12_rateOf_57
set_option maxRecDepth 100000 in
def uX12_rateOf_52 : List zEn := (89, .iconst 0, 1, 0, 0, [], 0) :: uX12_rateOf_53
set_option maxRecDepth 100000 in
def uX12_rateOf_38 : List zEn := (64, .iadd, 1, 0, 0, [], 0) :: (65, .istore_n 2, 1, 2, 0, [], 0) :: (66, .iload_n 3, 1, 3, 0, [], 0) :: (67, .iload 5, 2, 5, 0, [], 0) :: (69, .ifCond .eq 20, 3, 52, 0, [], 0) :: (72, .aload_n 0, 1, 0, 0, [], 0) :: (73, .getfield 7, 3, 12, 0, [(0, 2), (0, 1250)], 0) :: (76, .aload_n 0, 1, 0, 0, [], 0) :: (77, .iload 4, 2, 4, 0, [], 0) :: (79, .invokevirtual 120, 3, 42, 2, [(0, 1), (0, 0), (0, 0), (0, 12), (0, 1422)], 0) :: (82, .bipush 10, 2, 0, 0, [], 10) :: (84, .iadd, 1, 0, 0, [], 0) :: (85, .iaload, 1, 0, 0, [], 0) :: (86, .goto 4, 3, 53, 0, [], 0) :: uX12_rateOf_52
set_option maxRecDepth 100000 in
def uX12_rateOf_37 : List zEn := (63, .iconst 0, 1, 0, 0, [], 0) :: uX12_rateOf_38
set_option maxRecDepth 100000 in
def uX12_rateOf_31 : List zEn := (51, .istore 5, 2, 5, 0, [], 0) :: (53, .iload_n 2, 1, 2, 0, [], 0) :: (54, .iload 5, 2, 5, 0, [], 0) :: (56, .ifCond .eq 7, 3, 37, 0, [], 0) :: (59, .iconst 1, 1, 0, 0, [], 1) :: (60, .goto 4, 3, 38, 0, [], 0) :: uX12_rateOf_37
set_option maxRecDepth 100000 in
def uX12_rateOf_30 : List zEn := (50, .iconst 0, 1, 0, 0, [], 0) :: uX12_rateOf_31
set_option maxRecDepth 100000 in
def uX12_rateOf_7 : List zEn := (7, .iload 4, 2, 4, 0, [], 0) :: (9, .aload_n 0, 1, 0, 0, [], 0) :: (10, .getfield 7, 3, 12, 0, [(0, 2), (0, 1250)], 0) :: (13, .iconst 1, 1, 0, 0, [], 1) :: (14, .iaload, 1, 0, 0, [], 0) :: (15, .if_icmp .ge 83, 3, 57, 0, [], 0) :: (18, .aload_n 0, 1, 0, 0, [], 0) :: (19, .iload 4, 2, 4, 0, [], 0) :: (21, .iconst 3, 1, 0, 0, [], 3) :: (22, .invokevirtual 174, 3, 91, 3, [(0, 1), (0, 0), (0, 0), (0, 12), (0, 1512)], 0) :: (25, .ifCond .eq 25, 3, 30, 0, [], 0) :: (28, .aload_n 0, 1, 0, 0, [], 0) :: (29, .getfield 7, 3, 12, 0, [(0, 2), (0, 1250)], 0) :: (32, .aload_n 0, 1, 0, 0, [], 0) :: (33, .iload 4, 2, 4, 0, [], 0) :: (35, .invokevirtual 120, 3, 42, 2, [(0, 1), (0, 0), (0, 0), (0, 12), (0, 1422)], 0) :: (38, .bipush 9, 2, 0, 0, [], 9) :: (40, .iadd, 1, 0, 0, [], 0) :: (41, .iaload, 1, 0, 0, [], 0) :: (42, .iload_n 1, 1, 1, 0, [], 0) :: (43, .if_icmp .ne 7, 3, 30, 0, [], 0) :: (46, .iconst 1, 1, 0, 0, [], 1) :: (47, .goto 4, 3, 31, 0, [], 0) :: uX12_rateOf_30
set_option maxRecDepth 100000 in
def tX12_rateOf_7 : List zEn := uX12_rateOf_7
set_option maxRecDepth 100000 in
def uX12_rateOf_6 : List zEn := (7, .nop, 0, 0, 0, [], 0) :: tX12_rateOf_7
set_option maxRecDepth 100000 in
def uX12_rateOf_0 : List zEn := (0, .iconst 0, 1, 0, 0, [], 0) :: (1, .istore_n 2, 1, 2, 0, [], 0) :: (2, .iconst 0, 1, 0, 0, [], 0) :: (3, .istore_n 3, 1, 3, 0, [], 0) :: (4, .iconst 0, 1, 0, 0, [], 0) :: (5, .istore 4, 2, 4, 0, [], 0) :: uX12_rateOf_6
set_option maxRecDepth 100000 in
theorem jX12_rateOf_6 : zj pX12_rateOf 6 = uX12_rateOf_6 := rfl
set_option maxRecDepth 100000 in
theorem jX12_rateOf_30 : zj pX12_rateOf 30 = uX12_rateOf_30 := rfl
set_option maxRecDepth 100000 in
theorem jX12_rateOf_31 : zj pX12_rateOf 31 = uX12_rateOf_31 := rfl
set_option maxRecDepth 100000 in
theorem jX12_rateOf_37 : zj pX12_rateOf 37 = uX12_rateOf_37 := rfl
set_option maxRecDepth 100000 in
theorem jX12_rateOf_38 : zj pX12_rateOf 38 = uX12_rateOf_38 := rfl
set_option maxRecDepth 100000 in
theorem jX12_rateOf_52 : zj pX12_rateOf 52 = uX12_rateOf_52 := rfl
set_option maxRecDepth 100000 in
theorem jX12_rateOf_53 : zj pX12_rateOf 53 = uX12_rateOf_53 := rfl
set_option maxRecDepth 100000 in
theorem jX12_rateOf_57 : zj pX12_rateOf 57 = uX12_rateOf_57 := rfl
set_option maxRecDepth 100000 in
theorem jX12_rateOf_61 : zj pX12_rateOf 61 = uX12_rateOf_61 := rfl
set_option maxRecDepth 100000 in
theorem jX12_rateOf_66 : zj pX12_rateOf 66 = uX12_rateOf_66 := rfl
set_option maxRecDepth 100000 in
def uX12_rate_12 : List zEn := (25, .ireturn, 1, 0, 0, [], 0) :: []
set_option maxRecDepth 100000 in
def uX12_rate_11 : List zEn := (23, .ldc 87, 2, 0, 0, [(0, 1372)], (-1000000001)) :: uX12_rate_12
set_option maxRecDepth 100000 in
def uX12_rate_0 : List zEn := (0, .iload_n 1, 1, 1, 0, [], 0) :: (1, .i2l, 1, 0, 0, [], 0) :: (2, .lconst 0, 1, 0, 0, [], 0) :: (3, .ldc2_w 168, 3, 0, 0, [(0, 1507)], 3) :: (6, .invokestatic 77, 3, 15, 3, [(0, 1), (0, 0), (0, 0), (0, 1368)], 0) :: (9, .ifCond .eq 14, 3, 11, 0, [], 0) :: (12, .aload_n 0, 1, 0, 0, [], 0) :: (13, .iload_n 1, 1, 1, 0, [], 0) :: (14, .invokevirtual 328, 3, 221, 2, [(0, 1), (0, 0), (0, 0), (0, 12), (0, 1717)], 0) :: (17, .invokestatic 155, 3, 70, 1, [(0, 1), (0, 0), (0, 0), (0, 1460)], 0) :: (20, .goto 5, 3, 12, 0, [], 0) :: uX12_rate_11
set_option maxRecDepth 100000 in
theorem jX12_rate_11 : zj pX12_rate 11 = uX12_rate_11 := rfl
set_option maxRecDepth 100000 in
theorem jX12_rate_12 : zj pX12_rate 12 = uX12_rate_12 := rfl
set_option maxRecDepth 100000 in
def uX11_blamed_24 : List zEn := (40, .iload_n 1, 1, 1, 0, [], 0) :: (41, .ireturn, 1, 0, 0, [], 0) :: []
set_option maxRecDepth 100000 in
def uX11_blamed_22 : List zEn := (34, .iinc 3 1, 3, 3, 0, [], 1) :: (37, .goto (-29), 3, 6, 0, [], 0) :: uX11_blamed_24
set_option maxRecDepth 100000 in
def uX11_blamed_7 : List zEn := (8, .iload_n 3, 1, 3, 0, [], 0) :: (9, .iconst 4, 1, 0, 0, [], 4) :: (10, .if_icmp .ge 30, 3, 24, 0, [], 0) :: (13, .aload_n 0, 1, 0, 0, [], 0) :: (14, .getfield 10, 3, 11, 0, [(0, 2), (0, 457)], 0) :: (17, .iload_n 3, 1, 3, 0, [], 0) :: (18, .invokevirtual 292, 3, 219, 2, [(0, 1), (0, 0), (0, 0), (0, 6), (0, 1098)], 0) :: (21, .istore 4, 2, 4, 0, [], 0) :: (23, .iload 4, 2, 4, 0, [], 0) :: (25, .iload_n 2, 1, 2, 0, [], 0) :: (26, .if_icmp .le 8, 3, 22, 0, [], 0) :: (29, .iload_n 3, 1, 3, 0, [], 0) :: (30, .istore_n 1, 1, 1, 0, [], 0) :: (31, .iload 4, 2, 4, 0, [], 0) :: (33, .istore_n 2, 1, 2, 0, [], 0) :: uX11_blamed_22
set_option maxRecDepth 100000 in
def tX11_blamed_7 : List zEn := uX11_blamed_7
set_option maxRecDepth 100000 in
def uX11_blamed_6 : List zEn := (8, .nop, 0, 0, 0, [], 0) :: tX11_blamed_7
set_option maxRecDepth 100000 in
def uX11_blamed_0 : List zEn := (0, .ldc_w 278, 3, 0, 0, [(0, 1055)], (-1000000005)) :: (3, .istore_n 1, 1, 1, 0, [], 0) :: (4, .iconst (-1), 1, 0, 0, [], (-1)) :: (5, .istore_n 2, 1, 2, 0, [], 0) :: (6, .iconst 0, 1, 0, 0, [], 0) :: (7, .istore_n 3, 1, 3, 0, [], 0) :: uX11_blamed_6
set_option maxRecDepth 100000 in
theorem jX11_blamed_6 : zj pX11_blamed 6 = uX11_blamed_6 := rfl
set_option maxRecDepth 100000 in
theorem jX11_blamed_22 : zj pX11_blamed 22 = uX11_blamed_22 := rfl
set_option maxRecDepth 100000 in
theorem jX11_blamed_24 : zj pX11_blamed 24 = uX11_blamed_24 := rfl
set_option maxRecDepth 100000 in
def uX12_blamed_32 : List zEn := (51, .iload_n 2, 1, 2, 0, [], 0) :: (52, .invokestatic 155, 3, 70, 1, [(0, 1), (0, 0), (0, 0), (0, 1460)], 0) :: (55, .ireturn, 1, 0, 0, [], 0) :: []
set_option maxRecDepth 100000 in
def uX12_blamed_29 : List zEn := (44, .istore_n 1, 1, 1, 0, [], 0) :: (45, .iinc 3 1, 3, 3, 0, [], 1) :: (48, .goto (-42), 3, 6, 0, [], 0) :: uX12_blamed_32
set_option maxRecDepth 100000 in
def uX12_blamed_28 : List zEn := (43, .iload_n 1, 1, 1, 0, [], 0) :: uX12_blamed_29
set_option maxRecDepth 100000 in
def uX12_blamed_18 : List zEn := (25, .istore_n 2, 1, 2, 0, [], 0) :: (26, .aload_n 0, 1, 0, 0, [], 0) :: (27, .iload_n 3, 1, 3, 0, [], 0) :: (28, .invokevirtual 328, 3, 221, 2, [(0, 1), (0, 0), (0, 0), (0, 12), (0, 1717)], 0) :: (31, .iload_n 1, 1, 1, 0, [], 0) :: (32, .if_icmp .le 11, 3, 28, 0, [], 0) :: (35, .aload_n 0, 1, 0, 0, [], 0) :: (36, .iload_n 3, 1, 3, 0, [], 0) :: (37, .invokevirtual 328, 3, 221, 2, [(0, 1), (0, 0), (0, 0), (0, 12), (0, 1717)], 0) :: (40, .goto 4, 3, 29, 0, [], 0) :: uX12_blamed_28
set_option maxRecDepth 100000 in
def uX12_blamed_17 : List zEn := (24, .iload_n 2, 1, 2, 0, [], 0) :: uX12_blamed_18
set_option maxRecDepth 100000 in
def uX12_blamed_7 : List zEn := (6, .iload_n 3, 1, 3, 0, [], 0) :: (7, .iconst 4, 1, 0, 0, [], 4) :: (8, .if_icmp .ge 43, 3, 32, 0, [], 0) :: (11, .aload_n 0, 1, 0, 0, [], 0) :: (12, .iload_n 3, 1, 3, 0, [], 0) :: (13, .invokevirtual 328, 3, 221, 2, [(0, 1), (0, 0), (0, 0), (0, 12), (0, 1717)], 0) :: (16, .iload_n 1, 1, 1, 0, [], 0) :: (17, .if_icmp .le 7, 3, 17, 0, [], 0) :: (20, .iload_n 3, 1, 3, 0, [], 0) :: (21, .goto 4, 3, 18, 0, [], 0) :: uX12_blamed_17
set_option maxRecDepth 100000 in
def tX12_blamed_7 : List zEn := uX12_blamed_7
set_option maxRecDepth 100000 in
def uX12_blamed_6 : List zEn := (6, .nop, 0, 0, 0, [], 0) :: tX12_blamed_7
set_option maxRecDepth 100000 in
def uX12_blamed_0 : List zEn := (0, .iconst (-1), 1, 0, 0, [], (-1)) :: (1, .istore_n 1, 1, 1, 0, [], 0) :: (2, .iconst (-1), 1, 0, 0, [], (-1)) :: (3, .istore_n 2, 1, 2, 0, [], 0) :: (4, .iconst 0, 1, 0, 0, [], 0) :: (5, .istore_n 3, 1, 3, 0, [], 0) :: uX12_blamed_6
set_option maxRecDepth 100000 in
theorem jX12_blamed_6 : zj pX12_blamed 6 = uX12_blamed_6 := rfl
set_option maxRecDepth 100000 in
theorem jX12_blamed_17 : zj pX12_blamed 17 = uX12_blamed_17 := rfl
set_option maxRecDepth 100000 in
theorem jX12_blamed_18 : zj pX12_blamed 18 = uX12_blamed_18 := rfl
set_option maxRecDepth 100000 in
theorem jX12_blamed_28 : zj pX12_blamed 28 = uX12_blamed_28 := rfl
set_option maxRecDepth 100000 in
theorem jX12_blamed_29 : zj pX12_blamed 29 = uX12_blamed_29 := rfl
set_option maxRecDepth 100000 in
theorem jX12_blamed_32 : zj pX12_blamed 32 = uX12_blamed_32 := rfl
set_option maxRecDepth 100000 in
def uX11_seed_0 : List zEn := (0, .aload_n 0, 1, 0, 0, [], 0) :: (1, .getfield 10, 3, 11, 0, [(0, 2), (0, 457)], 0) :: (4, .getfield 295, 3, 6, 11, [(0, 0), (0, 297)], 0) :: (7, .istore_n 2, 1, 2, 0, [], 0) :: (8, .aload_n 0, 1, 0, 0, [], 0) :: (9, .getfield 10, 3, 11, 0, [(0, 2), (0, 457)], 0) :: (12, .iload_n 1, 1, 1, 0, [], 0) :: (13, .putfield 295, 3, 6, 11, [(0, 0), (0, 297)], 0) :: (16, .iload_n 2, 1, 2, 0, [], 0) :: (17, .ireturn, 1, 0, 0, [], 0) :: []
set_option maxRecDepth 100000 in
def uX12_seed_0 : List zEn := (0, .aload_n 0, 1, 0, 0, [], 0) :: (1, .bipush 8, 2, 0, 0, [], 8) :: (3, .iload_n 1, 1, 1, 0, [], 0) :: (4, .invokevirtual 103, 3, 26, 3, [(0, 1), (0, 0), (0, 0), (0, 12), (0, 1395)], 0) :: (7, .ireturn, 1, 0, 0, [], 0) :: []
set_option maxRecDepth 100000 in
def uX11_isSheet_0 : List zEn := (0, .iload_n 0, 1, 0, 0, [], 0) :: (1, .iconst 0, 1, 0, 0, [], 0) :: (2, .iconst 3, 1, 0, 0, [], 3) :: (3, .invokestatic 68, 3, 12, 3, [(0, 1), (0, 0), (0, 0), (0, 495)], 0) :: (6, .ireturn, 1, 1, 0, [], 0) :: []
set_option maxRecDepth 100000 in
def uX5_layOut_19 : List zEn := (31, .return_, 1, 0, 0, [], 0) :: []
set_option maxRecDepth 100000 in
def uX5_layOut_9 : List zEn := (12, .iload_n 3, 1, 3, 0, [], 0) :: (13, .bipush 24, 2, 0, 0, [], 24) :: (15, .if_icmp .ge 16, 3, 19, 0, [], 0) :: (18, .aload_n 0, 1, 0, 0, [], 0) :: (19, .getfield 18, 3, 5, 2, [(0, 2), (0, 422)], 0) :: (22, .iload_n 3, 1, 3, 0, [], 0) :: (23, .iconst 0, 1, 0, 0, [], 0) :: (24, .iastore, 1, 0, 0, [], 0) :: (25, .iinc 3 1, 3, 3, 0, [], 1) :: (28, .goto (-16), 3, 8, 0, [], 0) :: uX5_layOut_19
set_option maxRecDepth 100000 in
def tX5_layOut_9 : List zEn := uX5_layOut_9
set_option maxRecDepth 100000 in
def uX5_layOut_8 : List zEn := (12, .nop, 0, 0, 0, [], 0) :: tX5_layOut_9
set_option maxRecDepth 100000 in
def uX5_layOut_0 : List zEn := (0, .aload_n 0, 1, 0, 0, [], 0) :: (1, .iload_n 1, 1, 1, 0, [], 0) :: (2, .putfield 9, 3, 5, 0, [(0, 0), (0, 418)], 0) :: (5, .aload_n 0, 1, 0, 0, [], 0) :: (6, .iload_n 2, 1, 2, 0, [], 0) :: (7, .putfield 15, 3, 5, 1, [(0, 0), (0, 420)], 0) :: (10, .iconst 0, 1, 0, 0, [], 0) :: (11, .istore_n 3, 1, 3, 0, [], 0) :: uX5_layOut_8
set_option maxRecDepth 100000 in
theorem jX5_layOut_8 : zj pX5_layOut 8 = uX5_layOut_8 := rfl
set_option maxRecDepth 100000 in
theorem jX5_layOut_19 : zj pX5_layOut 19 = uX5_layOut_19 := rfl
set_option maxRecDepth 100000 in
def uX11_sheet_31 : List zEn := (54, .aload_n 0, 1, 0, 0, [], 0) :: (55, .getfield 46, 3, 11, 7, [(0, 2), (0, 464)], 0) :: (58, .iload_n 1, 1, 1, 0, [], 0) :: (59, .aaload, 1, 0, 0, [], 0) :: (60, .iload_n 2, 1, 2, 0, [], 0) :: (61, .iload_n 3, 1, 3, 0, [], 0) :: (62, .invokevirtual 301, 3, 228, 3, [(0, 0), (0, 0), (0, 0), (0, 5), (0, 1121)], 0) :: (65, .iload_n 3, 1, 3, 0, [], 0) :: (66, .ireturn, 1, 0, 0, [], 0) :: []
set_option maxRecDepth 100000 in
def uX11_sheet_27 : List zEn := (46, .iload_n 3, 1, 3, 0, [], 0) :: (47, .ifCond .ge 7, 3, 31, 0, [], 0) :: (50, .ldc_w 305, 3, 0, 0, [(0, 1125)], (-1000000014)) :: (53, .ireturn, 1, 0, 0, [], 0) :: uX11_sheet_31
set_option maxRecDepth 100000 in
def uX11_sheet_22 : List zEn := (37, .iload_n 3, 1, 3, 0, [], 0) :: (38, .bipush 24, 2, 0, 0, [], 24) :: (40, .if_icmp .le 6, 3, 27, 0, [], 0) :: (43, .ldc 75, 2, 0, 0, [(0, 498)], (-1000000001)) :: (45, .ireturn, 1, 0, 0, [], 0) :: uX11_sheet_27
set_option maxRecDepth 100000 in
def uX11_sheet_10 : List zEn := (19, .iload_n 2, 1, 2, 0, [], 0) :: (20, .iconst (-1), 1, 0, 0, [], (-1)) :: (21, .if_icmp .ne 16, 3, 22, 0, [], 0) :: (24, .aload_n 0, 1, 0, 0, [], 0) :: (25, .getfield 46, 3, 11, 7, [(0, 2), (0, 464)], 0) :: (28, .iload_n 1, 1, 1, 0, [], 0) :: (29, .aaload, 1, 0, 0, [], 0) :: (30, .iconst (-1), 1, 0, 0, [], (-1)) :: (31, .iconst 0, 1, 0, 0, [], 0) :: (32, .invokevirtual 301, 3, 228, 3, [(0, 0), (0, 0), (0, 0), (0, 5), (0, 1121)], 0) :: (35, .iconst 0, 1, 0, 0, [], 0) :: (36, .ireturn, 1, 0, 0, [], 0) :: uX11_sheet_22
set_option maxRecDepth 100000 in
def uX11_sheet_8 : List zEn := (16, .ldc 75, 2, 0, 0, [(0, 498)], (-1000000001)) :: (18, .ireturn, 1, 0, 0, [], 0) :: uX11_sheet_10
set_option maxRecDepth 100000 in
def uX11_sheet_0 : List zEn := (0, .iload_n 1, 1, 1, 0, [], 0) :: (1, .invokestatic 298, 3, 227, 1, [(0, 1), (0, 0), (0, 0), (0, 1118)], 0) :: (4, .ifCond .eq 12, 3, 8, 0, [], 0) :: (7, .iload_n 2, 1, 2, 0, [], 0) :: (8, .iconst (-1), 1, 0, 0, [], (-1)) :: (9, .iconst 1, 1, 0, 0, [], 1) :: (10, .invokestatic 68, 3, 12, 3, [(0, 1), (0, 0), (0, 0), (0, 495)], 0) :: (13, .ifCond .ne 6, 3, 10, 0, [], 0) :: uX11_sheet_8
set_option maxRecDepth 100000 in
theorem jX11_sheet_8 : zj pX11_sheet 8 = uX11_sheet_8 := rfl
set_option maxRecDepth 100000 in
theorem jX11_sheet_10 : zj pX11_sheet 10 = uX11_sheet_10 := rfl
set_option maxRecDepth 100000 in
theorem jX11_sheet_22 : zj pX11_sheet 22 = uX11_sheet_22 := rfl
set_option maxRecDepth 100000 in
theorem jX11_sheet_27 : zj pX11_sheet 27 = uX11_sheet_27 := rfl
set_option maxRecDepth 100000 in
theorem jX11_sheet_31 : zj pX11_sheet 31 = uX11_sheet_31 := rfl
set_option maxRecDepth 100000 in
def uX12_isSheet_0 : List zEn := (0, .iload_n 0, 1, 0, 0, [], 0) :: (1, .i2l, 1, 0, 0, [], 0) :: (2, .lconst 0, 1, 0, 0, [], 0) :: (3, .ldc2_w 168, 3, 0, 0, [(0, 1507)], 3) :: (6, .invokestatic 77, 3, 15, 3, [(0, 1), (0, 0), (0, 0), (0, 1368)], 0) :: (9, .ireturn, 1, 1, 0, [], 0) :: []
set_option maxRecDepth 100000 in
def uX12_sheet_53 : List zEn := (95, .aload_n 0, 1, 0, 0, [], 0) :: (96, .getfield 22, 3, 12, 5, [(0, 2), (0, 1255)], 0) :: (99, .iload_n 1, 1, 1, 0, [], 0) :: (100, .iaload, 1, 0, 0, [], 0) :: (101, .ireturn, 1, 0, 0, [], 0) :: []
set_option maxRecDepth 100000 in
def uX12_sheet_39 : List zEn := (69, .iload 4, 2, 4, 0, [], 0) :: (71, .bipush 24, 2, 0, 0, [], 24) :: (73, .if_icmp .ge 22, 3, 53, 0, [], 0) :: (76, .aload_n 0, 1, 0, 0, [], 0) :: (77, .getfield 25, 3, 12, 6, [(0, 2), (0, 1256)], 0) :: (80, .bipush 24, 2, 0, 0, [], 24) :: (82, .iload_n 1, 1, 1, 0, [], 0) :: (83, .imul, 1, 0, 0, [], 0) :: (84, .iload 4, 2, 4, 0, [], 0) :: (86, .iadd, 1, 0, 0, [], 0) :: (87, .iconst 0, 1, 0, 0, [], 0) :: (88, .iastore, 1, 0, 0, [], 0) :: (89, .iinc 4 1, 3, 4, 0, [], 1) :: (92, .goto (-23), 3, 38, 0, [], 0) :: uX12_sheet_53
set_option maxRecDepth 100000 in
def tX12_sheet_39 : List zEn := uX12_sheet_39
set_option maxRecDepth 100000 in
def uX12_sheet_38 : List zEn := (69, .nop, 0, 0, 0, [], 0) :: tX12_sheet_39
set_option maxRecDepth 100000 in
def uX12_sheet_35 : List zEn := (65, .iastore, 1, 0, 0, [], 0) :: (66, .iconst 0, 1, 0, 0, [], 0) :: (67, .istore 4, 2, 4, 0, [], 0) :: uX12_sheet_38
set_option maxRecDepth 100000 in
def uX12_sheet_34 : List zEn := (64, .iload_n 3, 1, 3, 0, [], 0) :: uX12_sheet_35
set_option maxRecDepth 100000 in
def uX12_sheet_22 : List zEn := (44, .aload_n 0, 1, 0, 0, [], 0) :: (45, .getfield 19, 3, 12, 4, [(0, 2), (0, 1254)], 0) :: (48, .iload_n 1, 1, 1, 0, [], 0) :: (49, .iload_n 2, 1, 2, 0, [], 0) :: (50, .iastore, 1, 0, 0, [], 0) :: (51, .aload_n 0, 1, 0, 0, [], 0) :: (52, .getfield 22, 3, 12, 5, [(0, 2), (0, 1255)], 0) :: (55, .iload_n 1, 1, 1, 0, [], 0) :: (56, .iload_n 2, 1, 2, 0, [], 0) :: (57, .ifCond .ge 7, 3, 34, 0, [], 0) :: (60, .iconst 0, 1, 0, 0, [], 0) :: (61, .goto 4, 3, 35, 0, [], 0) :: uX12_sheet_34
set_option maxRecDepth 100000 in
def uX12_sheet_16 : List zEn := (32, .iload_n 2, 1, 2, 0, [], 0) :: (33, .ifCond .lt 11, 3, 22, 0, [], 0) :: (36, .iload_n 3, 1, 3, 0, [], 0) :: (37, .ifCond .ge 7, 3, 22, 0, [], 0) :: (40, .ldc_w 334, 3, 0, 0, [(0, 1736)], (-1000000014)) :: (43, .ireturn, 1, 0, 0, [], 0) :: uX12_sheet_22
set_option maxRecDepth 100000 in
def uX12_sheet_14 : List zEn := (29, .ldc 87, 2, 0, 0, [(0, 1372)], (-1000000001)) :: (31, .ireturn, 1, 0, 0, [], 0) :: uX12_sheet_16
set_option maxRecDepth 100000 in
def uX12_sheet_0 : List zEn := (0, .iload_n 1, 1, 1, 0, [], 0) :: (1, .invokestatic 331, 3, 230, 1, [(0, 1), (0, 0), (0, 0), (0, 1733)], 0) :: (4, .ifCond .eq 25, 3, 14, 0, [], 0) :: (7, .iload_n 2, 1, 2, 0, [], 0) :: (8, .i2l, 1, 0, 0, [], 0) :: (9, .ldc2_w 198, 3, 0, 0, [(0, 1561)], (-1)) :: (12, .lconst 1, 1, 0, 0, [], 1) :: (13, .invokestatic 77, 3, 15, 3, [(0, 1), (0, 0), (0, 0), (0, 1368)], 0) :: (16, .ifCond .eq 13, 3, 14, 0, [], 0) :: (19, .iload_n 2, 1, 2, 0, [], 0) :: (20, .ifCond .lt 12, 3, 16, 0, [], 0) :: (23, .iload_n 3, 1, 3, 0, [], 0) :: (24, .bipush 24, 2, 0, 0, [], 24) :: (26, .if_icmp .le 6, 3, 16, 0, [], 0) :: uX12_sheet_14
set_option maxRecDepth 100000 in
theorem jX12_sheet_14 : zj pX12_sheet 14 = uX12_sheet_14 := rfl
set_option maxRecDepth 100000 in
theorem jX12_sheet_16 : zj pX12_sheet 16 = uX12_sheet_16 := rfl
set_option maxRecDepth 100000 in
theorem jX12_sheet_22 : zj pX12_sheet 22 = uX12_sheet_22 := rfl
set_option maxRecDepth 100000 in
theorem jX12_sheet_34 : zj pX12_sheet 34 = uX12_sheet_34 := rfl
set_option maxRecDepth 100000 in
theorem jX12_sheet_35 : zj pX12_sheet 35 = uX12_sheet_35 := rfl
set_option maxRecDepth 100000 in
theorem jX12_sheet_38 : zj pX12_sheet 38 = uX12_sheet_38 := rfl
set_option maxRecDepth 100000 in
theorem jX12_sheet_53 : zj pX12_sheet 53 = uX12_sheet_53 := rfl
set_option maxRecDepth 100000 in
def uX11_mark_58 : List zEn := (120, .iastore, 1, 0, 0, [], 0) :: (121, .iconst 1, 1, 0, 0, [], 1) :: (122, .ireturn, 1, 0, 0, [], 0) :: []
set_option maxRecDepth 100000 in
def uX11_mark_57 : List zEn := (119, .iload_n 3, 1, 3, 0, [], 0) :: uX11_mark_58
set_option maxRecDepth 100000 in
def uX11_mark_48 : List zEn := (100, .aload 4, 2, 4, 0, [], 0) :: (102, .getfield 316, 3, 5, 2, [(0, 2), (0, 423)], 0) :: (105, .iload_n 2, 1, 2, 0, [], 0) :: (106, .aload 4, 2, 4, 0, [], 0) :: (108, .getfield 306, 3, 5, 0, [(0, 0), (0, 419)], 0) :: (111, .ifCond .ne 8, 3, 57, 0, [], 0) :: (114, .iload_n 3, 1, 3, 0, [], 0) :: (115, .i2s, 1, 0, 0, [], 0) :: (116, .goto 4, 3, 58, 0, [], 0) :: uX11_mark_57
set_option maxRecDepth 100000 in
def uX11_mark_34 : List zEn := (68, .aload 4, 2, 4, 0, [], 0) :: (70, .getfield 306, 3, 5, 0, [(0, 0), (0, 419)], 0) :: (73, .iconst 1, 1, 0, 0, [], 1) :: (74, .if_icmp .ne 26, 3, 48, 0, [], 0) :: (77, .iload_n 3, 1, 3, 0, [], 0) :: (78, .ldc_w 278, 3, 0, 0, [(0, 1055)], (-1000000005)) :: (81, .if_icmp .eq 19, 3, 48, 0, [], 0) :: (84, .iload_n 3, 1, 3, 0, [], 0) :: (85, .ldc_w 314, 3, 0, 0, [(0, 1132)], (-99999)) :: (88, .ldc_w 315, 3, 0, 0, [(0, 1133)], 99999) :: (91, .invokestatic 68, 3, 12, 3, [(0, 1), (0, 0), (0, 0), (0, 495)], 0) :: (94, .ifCond .ne 6, 3, 48, 0, [], 0) :: (97, .ldc 75, 2, 0, 0, [(0, 498)], (-1000000001)) :: (99, .ireturn, 1, 0, 0, [], 0) :: uX11_mark_48
set_option maxRecDepth 100000 in
def uX11_mark_26 : List zEn := (50, .aload 4, 2, 4, 0, [], 0) :: (52, .getfield 306, 3, 5, 0, [(0, 0), (0, 419)], 0) :: (55, .ifCond .ne 13, 3, 34, 0, [], 0) :: (58, .iload_n 3, 1, 3, 0, [], 0) :: (59, .ldc_w 278, 3, 0, 0, [(0, 1055)], (-1000000005)) :: (62, .if_icmp .ne 6, 3, 34, 0, [], 0) :: (65, .ldc 157, 2, 0, 0, [(0, 651)], (-1000000012)) :: (67, .ireturn, 1, 0, 0, [], 0) :: uX11_mark_34
set_option maxRecDepth 100000 in
def uX11_mark_16 : List zEn := (31, .iload_n 2, 1, 2, 0, [], 0) :: (32, .iconst 0, 1, 0, 0, [], 0) :: (33, .aload 4, 2, 4, 0, [], 0) :: (35, .getfield 310, 3, 5, 1, [(0, 0), (0, 421)], 0) :: (38, .iconst 1, 1, 0, 0, [], 1) :: (39, .isub, 1, 0, 0, [], 0) :: (40, .invokestatic 68, 3, 12, 3, [(0, 1), (0, 0), (0, 0), (0, 495)], 0) :: (43, .ifCond .ne 7, 3, 26, 0, [], 0) :: (46, .ldc_w 313, 3, 0, 0, [(0, 1131)], (-1000000013)) :: (49, .ireturn, 1, 0, 0, [], 0) :: uX11_mark_26
set_option maxRecDepth 100000 in
def uX11_mark_5 : List zEn := (10, .aload_n 0, 1, 0, 0, [], 0) :: (11, .getfield 46, 3, 11, 7, [(0, 2), (0, 464)], 0) :: (14, .iload_n 1, 1, 1, 0, [], 0) :: (15, .aaload, 1, 0, 0, [], 0) :: (16, .astore 4, 2, 4, 0, [], 0) :: (18, .aload 4, 2, 4, 0, [], 0) :: (20, .getfield 306, 3, 5, 0, [(0, 0), (0, 419)], 0) :: (23, .iconst (-1), 1, 0, 0, [], (-1)) :: (24, .if_icmp .ne 7, 3, 16, 0, [], 0) :: (27, .ldc_w 309, 3, 0, 0, [(0, 1130)], (-1000000011)) :: (30, .ireturn, 1, 0, 0, [], 0) :: uX11_mark_16
set_option maxRecDepth 100000 in
def uX11_mark_0 : List zEn := (0, .iload_n 1, 1, 1, 0, [], 0) :: (1, .invokestatic 298, 3, 227, 1, [(0, 1), (0, 0), (0, 0), (0, 1118)], 0) :: (4, .ifCond .ne 6, 3, 5, 0, [], 0) :: (7, .ldc 75, 2, 0, 0, [(0, 498)], (-1000000001)) :: (9, .ireturn, 1, 0, 0, [], 0) :: uX11_mark_5
set_option maxRecDepth 100000 in
theorem jX11_mark_5 : zj pX11_mark 5 = uX11_mark_5 := rfl
set_option maxRecDepth 100000 in
theorem jX11_mark_16 : zj pX11_mark 16 = uX11_mark_16 := rfl
set_option maxRecDepth 100000 in
theorem jX11_mark_26 : zj pX11_mark 26 = uX11_mark_26 := rfl
set_option maxRecDepth 100000 in
theorem jX11_mark_34 : zj pX11_mark 34 = uX11_mark_34 := rfl
set_option maxRecDepth 100000 in
theorem jX11_mark_48 : zj pX11_mark 48 = uX11_mark_48 := rfl
set_option maxRecDepth 100000 in
theorem jX11_mark_57 : zj pX11_mark 57 = uX11_mark_57 := rfl
set_option maxRecDepth 100000 in
theorem jX11_mark_58 : zj pX11_mark 58 = uX11_mark_58 := rfl
set_option maxRecDepth 100000 in
def uX12_mark_72 : List zEn := (126, .iastore, 1, 0, 0, [], 0) :: (127, .iconst 1, 1, 0, 0, [], 1) :: (128, .ireturn, 1, 0, 0, [], 0) :: []
set_option maxRecDepth 100000 in
def uX12_mark_71 : List zEn := (125, .iload_n 3, 1, 3, 0, [], 0) :: uX12_mark_72
set_option maxRecDepth 100000 in
def uX12_mark_53 : List zEn := (96, .aload_n 0, 1, 0, 0, [], 0) :: (97, .getfield 25, 3, 12, 6, [(0, 2), (0, 1256)], 0) :: (100, .bipush 24, 2, 0, 0, [], 24) :: (102, .iload_n 1, 1, 1, 0, [], 0) :: (103, .imul, 1, 0, 0, [], 0) :: (104, .iload_n 2, 1, 2, 0, [], 0) :: (105, .iadd, 1, 0, 0, [], 0) :: (106, .aload_n 0, 1, 0, 0, [], 0) :: (107, .getfield 19, 3, 12, 4, [(0, 2), (0, 1254)], 0) :: (110, .iload_n 1, 1, 1, 0, [], 0) :: (111, .iaload, 1, 0, 0, [], 0) :: (112, .ifCond .ne 13, 3, 71, 0, [], 0) :: (115, .iload_n 3, 1, 3, 0, [], 0) :: (116, .bipush 16, 2, 0, 0, [], 16) :: (118, .ishl, 1, 0, 0, [], 0) :: (119, .bipush 16, 2, 0, 0, [], 16) :: (121, .ishr, 1, 0, 0, [], 0) :: (122, .goto 4, 3, 72, 0, [], 0) :: uX12_mark_71
set_option maxRecDepth 100000 in
def uX12_mark_36 : List zEn := (63, .aload_n 0, 1, 0, 0, [], 0) :: (64, .getfield 19, 3, 12, 4, [(0, 2), (0, 1254)], 0) :: (67, .iload_n 1, 1, 1, 0, [], 0) :: (68, .iaload, 1, 0, 0, [], 0) :: (69, .iconst 1, 1, 0, 0, [], 1) :: (70, .if_icmp .ne 26, 3, 53, 0, [], 0) :: (73, .iload_n 3, 1, 3, 0, [], 0) :: (74, .ldc 76, 2, 0, 0, [(0, 1463)], (-1000000005)) :: (76, .if_icmp .eq 20, 3, 53, 0, [], 0) :: (79, .iload_n 3, 1, 3, 0, [], 0) :: (80, .i2l, 1, 0, 0, [], 0) :: (81, .ldc2_w 337, 3, 0, 0, [(0, 1743)], (-99999)) :: (84, .ldc2_w 339, 3, 0, 0, [(0, 1744)], 99999) :: (87, .invokestatic 77, 3, 15, 3, [(0, 1), (0, 0), (0, 0), (0, 1368)], 0) :: (90, .ifCond .ne 6, 3, 53, 0, [], 0) :: (93, .ldc 87, 2, 0, 0, [(0, 1372)], (-1000000001)) :: (95, .ireturn, 1, 0, 0, [], 0) :: uX12_mark_53
set_option maxRecDepth 100000 in
def uX12_mark_26 : List zEn := (45, .aload_n 0, 1, 0, 0, [], 0) :: (46, .getfield 19, 3, 12, 4, [(0, 2), (0, 1254)], 0) :: (49, .iload_n 1, 1, 1, 0, [], 0) :: (50, .iaload, 1, 0, 0, [], 0) :: (51, .ifCond .ne 12, 3, 36, 0, [], 0) :: (54, .iload_n 3, 1, 3, 0, [], 0) :: (55, .ldc 76, 2, 0, 0, [(0, 1463)], (-1000000005)) :: (57, .if_icmp .ne 6, 3, 36, 0, [], 0) :: (60, .ldc 164, 2, 0, 0, [(0, 1490)], (-1000000012)) :: (62, .ireturn, 1, 0, 0, [], 0) :: uX12_mark_36
set_option maxRecDepth 100000 in
def uX12_mark_12 : List zEn := (23, .iload_n 2, 1, 2, 0, [], 0) :: (24, .i2l, 1, 0, 0, [], 0) :: (25, .lconst 0, 1, 0, 0, [], 0) :: (26, .aload_n 0, 1, 0, 0, [], 0) :: (27, .getfield 22, 3, 12, 5, [(0, 2), (0, 1255)], 0) :: (30, .iload_n 1, 1, 1, 0, [], 0) :: (31, .iaload, 1, 0, 0, [], 0) :: (32, .iconst 1, 1, 0, 0, [], 1) :: (33, .isub, 1, 0, 0, [], 0) :: (34, .i2l, 1, 0, 0, [], 0) :: (35, .invokestatic 77, 3, 15, 3, [(0, 1), (0, 0), (0, 0), (0, 1368)], 0) :: (38, .ifCond .ne 7, 3, 26, 0, [], 0) :: (41, .ldc_w 336, 3, 0, 0, [(0, 1742)], (-1000000013)) :: (44, .ireturn, 1, 0, 0, [], 0) :: uX12_mark_26
set_option maxRecDepth 100000 in
def uX12_mark_5 : List zEn := (10, .aload_n 0, 1, 0, 0, [], 0) :: (11, .getfield 19, 3, 12, 4, [(0, 2), (0, 1254)], 0) :: (14, .iload_n 1, 1, 1, 0, [], 0) :: (15, .iaload, 1, 0, 0, [], 0) :: (16, .ifCond .ge 7, 3, 12, 0, [], 0) :: (19, .ldc_w 335, 3, 0, 0, [(0, 1741)], (-1000000011)) :: (22, .ireturn, 1, 0, 0, [], 0) :: uX12_mark_12
set_option maxRecDepth 100000 in
def uX12_mark_0 : List zEn := (0, .iload_n 1, 1, 1, 0, [], 0) :: (1, .invokestatic 331, 3, 230, 1, [(0, 1), (0, 0), (0, 0), (0, 1733)], 0) :: (4, .ifCond .ne 6, 3, 5, 0, [], 0) :: (7, .ldc 87, 2, 0, 0, [(0, 1372)], (-1000000001)) :: (9, .ireturn, 1, 0, 0, [], 0) :: uX12_mark_5
set_option maxRecDepth 100000 in
theorem jX12_mark_5 : zj pX12_mark 5 = uX12_mark_5 := rfl
set_option maxRecDepth 100000 in
theorem jX12_mark_12 : zj pX12_mark 12 = uX12_mark_12 := rfl
set_option maxRecDepth 100000 in
theorem jX12_mark_26 : zj pX12_mark 26 = uX12_mark_26 := rfl
set_option maxRecDepth 100000 in
theorem jX12_mark_36 : zj pX12_mark 36 = uX12_mark_36 := rfl
set_option maxRecDepth 100000 in
theorem jX12_mark_53 : zj pX12_mark 53 = uX12_mark_53 := rfl
set_option maxRecDepth 100000 in
theorem jX12_mark_71 : zj pX12_mark 71 = uX12_mark_71 := rfl
set_option maxRecDepth 100000 in
theorem jX12_mark_72 : zj pX12_mark 72 = uX12_mark_72 := rfl
set_option maxRecDepth 100000 in
def uX11_path_53 : List zEn := (103, .ldc_w 278, 3, 0, 0, [(0, 1055)], (-1000000005)) :: (106, .ireturn, 1, 0, 0, [], 0) :: []
set_option maxRecDepth 100000 in
def uX11_path_51 : List zEn := (97, .iinc 4 1, 3, 4, 0, [], 1) :: (100, .goto (-60), 3, 22, 0, [], 0) :: uX11_path_53
set_option maxRecDepth 100000 in
def uX11_path_23 : List zEn := (40, .iload 4, 2, 4, 0, [], 0) :: (42, .aload_n 3, 1, 3, 0, [], 0) :: (43, .getfield 310, 3, 5, 1, [(0, 0), (0, 421)], 0) :: (46, .if_icmp .ge 57, 3, 53, 0, [], 0) :: (49, .aload_n 3, 1, 3, 0, [], 0) :: (50, .getfield 316, 3, 5, 2, [(0, 2), (0, 423)], 0) :: (53, .iload 4, 2, 4, 0, [], 0) :: (55, .iaload, 1, 0, 0, [], 0) :: (56, .ldc_w 278, 3, 0, 0, [(0, 1055)], (-1000000005)) :: (59, .if_icmp .eq 38, 3, 51, 0, [], 0) :: (62, .aload_n 3, 1, 3, 0, [], 0) :: (63, .getfield 316, 3, 5, 2, [(0, 2), (0, 423)], 0) :: (66, .iload 4, 2, 4, 0, [], 0) :: (68, .iaload, 1, 0, 0, [], 0) :: (69, .aload_n 0, 1, 0, 0, [], 0) :: (70, .getfield 10, 3, 11, 0, [(0, 2), (0, 457)], 0) :: (73, .getfield 85, 3, 6, 0, [(0, 2), (0, 271)], 0) :: (76, .iload_n 2, 1, 2, 0, [], 0) :: (77, .aaload, 1, 0, 0, [], 0) :: (78, .aload_n 0, 1, 0, 0, [], 0) :: (79, .getfield 10, 3, 11, 0, [(0, 2), (0, 457)], 0) :: (82, .getfield 286, 3, 6, 9, [(0, 0), (0, 293)], 0) :: (85, .iload 4, 2, 4, 0, [], 0) :: (87, .iadd, 1, 0, 0, [], 0) :: (88, .invokevirtual 89, 3, 20, 2, [(0, 1), (0, 0), (0, 0), (0, 2), (0, 512)], 0) :: (91, .if_icmp .eq 6, 3, 51, 0, [], 0) :: (94, .iload 4, 2, 4, 0, [], 0) :: (96, .ireturn, 1, 0, 0, [], 0) :: uX11_path_51
set_option maxRecDepth 100000 in
def tX11_path_23 : List zEn := uX11_path_23
set_option maxRecDepth 100000 in
def uX11_path_22 : List zEn := (40, .nop, 0, 0, 0, [], 0) :: tX11_path_23
set_option maxRecDepth 100000 in
def uX11_path_20 : List zEn := (37, .iconst 0, 1, 0, 0, [], 0) :: (38, .istore 4, 2, 4, 0, [], 0) :: uX11_path_22
set_option maxRecDepth 100000 in
def uX11_path_9 : List zEn := (18, .aload_n 0, 1, 0, 0, [], 0) :: (19, .getfield 46, 3, 11, 7, [(0, 2), (0, 464)], 0) :: (22, .iload_n 1, 1, 1, 0, [], 0) :: (23, .aaload, 1, 0, 0, [], 0) :: (24, .astore_n 3, 1, 3, 0, [], 0) :: (25, .aload_n 3, 1, 3, 0, [], 0) :: (26, .getfield 306, 3, 5, 0, [(0, 0), (0, 419)], 0) :: (29, .iconst (-1), 1, 0, 0, [], (-1)) :: (30, .if_icmp .ne 7, 3, 20, 0, [], 0) :: (33, .ldc_w 309, 3, 0, 0, [(0, 1130)], (-1000000011)) :: (36, .ireturn, 1, 0, 0, [], 0) :: uX11_path_20
set_option maxRecDepth 100000 in
def uX11_path_7 : List zEn := (15, .ldc 75, 2, 0, 0, [(0, 498)], (-1000000001)) :: (17, .ireturn, 1, 0, 0, [], 0) :: uX11_path_9
set_option maxRecDepth 100000 in
def uX11_path_0 : List zEn := (0, .iload_n 1, 1, 1, 0, [], 0) :: (1, .invokestatic 298, 3, 227, 1, [(0, 1), (0, 0), (0, 0), (0, 1118)], 0) :: (4, .ifCond .eq 11, 3, 7, 0, [], 0) :: (7, .aload_n 0, 1, 0, 0, [], 0) :: (8, .iload_n 2, 1, 2, 0, [], 0) :: (9, .invokevirtual 81, 3, 18, 2, [(0, 1), (0, 0), (0, 0), (0, 11), (0, 508)], 0) :: (12, .ifCond .ne 6, 3, 9, 0, [], 0) :: uX11_path_7
set_option maxRecDepth 100000 in
theorem jX11_path_7 : zj pX11_path 7 = uX11_path_7 := rfl
set_option maxRecDepth 100000 in
theorem jX11_path_9 : zj pX11_path 9 = uX11_path_9 := rfl
set_option maxRecDepth 100000 in
theorem jX11_path_20 : zj pX11_path 20 = uX11_path_20 := rfl
set_option maxRecDepth 100000 in
theorem jX11_path_22 : zj pX11_path 22 = uX11_path_22 := rfl
set_option maxRecDepth 100000 in
theorem jX11_path_51 : zj pX11_path 51 = uX11_path_51 := rfl
set_option maxRecDepth 100000 in
theorem jX11_path_53 : zj pX11_path 53 = uX11_path_53 := rfl
set_option maxRecDepth 100000 in
def uX12_path_52 : List zEn := (90, .ldc 76, 2, 0, 0, [(0, 1463)], (-1000000005)) :: (92, .ireturn, 1, 0, 0, [], 0) :: []
set_option maxRecDepth 100000 in
def uX12_path_50 : List zEn := (84, .iinc 3 1, 3, 3, 0, [], 1) :: (87, .goto (-54), 3, 18, 0, [], 0) :: uX12_path_52
set_option maxRecDepth 100000 in
def uX12_path_19 : List zEn := (33, .iload_n 3, 1, 3, 0, [], 0) :: (34, .aload_n 0, 1, 0, 0, [], 0) :: (35, .getfield 22, 3, 12, 5, [(0, 2), (0, 1255)], 0) :: (38, .iload_n 1, 1, 1, 0, [], 0) :: (39, .iaload, 1, 0, 0, [], 0) :: (40, .if_icmp .ge 50, 3, 52, 0, [], 0) :: (43, .aload_n 0, 1, 0, 0, [], 0) :: (44, .getfield 25, 3, 12, 6, [(0, 2), (0, 1256)], 0) :: (47, .bipush 24, 2, 0, 0, [], 24) :: (49, .iload_n 1, 1, 1, 0, [], 0) :: (50, .imul, 1, 0, 0, [], 0) :: (51, .iload_n 3, 1, 3, 0, [], 0) :: (52, .iadd, 1, 0, 0, [], 0) :: (53, .iaload, 1, 0, 0, [], 0) :: (54, .istore 4, 2, 4, 0, [], 0) :: (56, .iload 4, 2, 4, 0, [], 0) :: (58, .ldc 76, 2, 0, 0, [(0, 1463)], (-1000000005)) :: (60, .if_icmp .eq 24, 3, 50, 0, [], 0) :: (63, .iload 4, 2, 4, 0, [], 0) :: (65, .aload_n 0, 1, 0, 0, [], 0) :: (66, .iload_n 2, 1, 2, 0, [], 0) :: (67, .aload_n 0, 1, 0, 0, [], 0) :: (68, .getfield 7, 3, 12, 0, [(0, 2), (0, 1250)], 0) :: (71, .bipush 7, 2, 0, 0, [], 7) :: (73, .iaload, 1, 0, 0, [], 0) :: (74, .iload_n 3, 1, 3, 0, [], 0) :: (75, .iadd, 1, 0, 0, [], 0) :: (76, .invokevirtual 99, 3, 23, 3, [(0, 1), (0, 0), (0, 0), (0, 12), (0, 1387)], 0) :: (79, .if_icmp .eq 5, 3, 50, 0, [], 0) :: (82, .iload_n 3, 1, 3, 0, [], 0) :: (83, .ireturn, 1, 0, 0, [], 0) :: uX12_path_50
set_option maxRecDepth 100000 in
def tX12_path_19 : List zEn := uX12_path_19
set_option maxRecDepth 100000 in
def uX12_path_18 : List zEn := (33, .nop, 0, 0, 0, [], 0) :: tX12_path_19
set_option maxRecDepth 100000 in
def uX12_path_16 : List zEn := (31, .iconst 0, 1, 0, 0, [], 0) :: (32, .istore_n 3, 1, 3, 0, [], 0) :: uX12_path_18
set_option maxRecDepth 100000 in
def uX12_path_9 : List zEn := (18, .aload_n 0, 1, 0, 0, [], 0) :: (19, .getfield 19, 3, 12, 4, [(0, 2), (0, 1254)], 0) :: (22, .iload_n 1, 1, 1, 0, [], 0) :: (23, .iaload, 1, 0, 0, [], 0) :: (24, .ifCond .ge 7, 3, 16, 0, [], 0) :: (27, .ldc_w 335, 3, 0, 0, [(0, 1741)], (-1000000011)) :: (30, .ireturn, 1, 0, 0, [], 0) :: uX12_path_16
set_option maxRecDepth 100000 in
def uX12_path_7 : List zEn := (15, .ldc 87, 2, 0, 0, [(0, 1372)], (-1000000001)) :: (17, .ireturn, 1, 0, 0, [], 0) :: uX12_path_9
set_option maxRecDepth 100000 in
def uX12_path_0 : List zEn := (0, .iload_n 1, 1, 1, 0, [], 0) :: (1, .invokestatic 331, 3, 230, 1, [(0, 1), (0, 0), (0, 0), (0, 1733)], 0) :: (4, .ifCond .eq 11, 3, 7, 0, [], 0) :: (7, .aload_n 0, 1, 0, 0, [], 0) :: (8, .iload_n 2, 1, 2, 0, [], 0) :: (9, .invokevirtual 93, 3, 22, 2, [(0, 1), (0, 0), (0, 0), (0, 12), (0, 1382)], 0) :: (12, .ifCond .ne 6, 3, 9, 0, [], 0) :: uX12_path_7
set_option maxRecDepth 100000 in
theorem jX12_path_7 : zj pX12_path 7 = uX12_path_7 := rfl
set_option maxRecDepth 100000 in
theorem jX12_path_9 : zj pX12_path 9 = uX12_path_9 := rfl
set_option maxRecDepth 100000 in
theorem jX12_path_16 : zj pX12_path 16 = uX12_path_16 := rfl
set_option maxRecDepth 100000 in
theorem jX12_path_18 : zj pX12_path 18 = uX12_path_18 := rfl
set_option maxRecDepth 100000 in
theorem jX12_path_50 : zj pX12_path 50 = uX12_path_50 := rfl
set_option maxRecDepth 100000 in
theorem jX12_path_52 : zj pX12_path 52 = uX12_path_52 := rfl
set_option maxRecDepth 100000 in
def uX11_fill_49 : List zEn := (94, .iload 4, 2, 4, 0, [], 0) :: (96, .ireturn, 1, 0, 0, [], 0) :: []
set_option maxRecDepth 100000 in
def uX11_fill_25 : List zEn := (43, .iload 5, 2, 5, 0, [], 0) :: (45, .bipush 8, 2, 0, 0, [], 8) :: (47, .if_icmp .ge 47, 3, 49, 0, [], 0) :: (50, .iload 5, 2, 5, 0, [], 0) :: (52, .aload_n 3, 1, 3, 0, [], 0) :: (53, .getfield 310, 3, 5, 1, [(0, 0), (0, 421)], 0) :: (56, .if_icmp .ge 38, 3, 49, 0, [], 0) :: (59, .iload 4, 2, 4, 0, [], 0) :: (61, .aload_n 0, 1, 0, 0, [], 0) :: (62, .getfield 10, 3, 11, 0, [(0, 2), (0, 457)], 0) :: (65, .getfield 95, 3, 6, 2, [(0, 2), (0, 276)], 0) :: (68, .iload_n 2, 1, 2, 0, [], 0) :: (69, .iload 5, 2, 5, 0, [], 0) :: (71, .iconst 0, 1, 0, 0, [], 0) :: (72, .aload_n 3, 1, 3, 0, [], 0) :: (73, .getfield 316, 3, 5, 2, [(0, 2), (0, 423)], 0) :: (76, .iload 5, 2, 5, 0, [], 0) :: (78, .iaload, 1, 0, 0, [], 0) :: (79, .invokestatic 319, 3, 19, 2, [(0, 1), (0, 0), (0, 0), (0, 1142)], 0) :: (82, .invokevirtual 324, 3, 96, 4, [(0, 1), (0, 0), (0, 0), (0, 8), (0, 1143)], 0) :: (85, .iadd, 1, 0, 0, [], 0) :: (86, .istore 4, 2, 4, 0, [], 0) :: (88, .iinc 5 1, 3, 5, 0, [], 1) :: (91, .goto (-48), 3, 24, 0, [], 0) :: uX11_fill_49
set_option maxRecDepth 100000 in
def tX11_fill_25 : List zEn := uX11_fill_25
set_option maxRecDepth 100000 in
def uX11_fill_24 : List zEn := (43, .nop, 0, 0, 0, [], 0) :: tX11_fill_25
set_option maxRecDepth 100000 in
def uX11_fill_20 : List zEn := (37, .iconst 0, 1, 0, 0, [], 0) :: (38, .istore 4, 2, 4, 0, [], 0) :: (40, .iconst 0, 1, 0, 0, [], 0) :: (41, .istore 5, 2, 5, 0, [], 0) :: uX11_fill_24
set_option maxRecDepth 100000 in
def uX11_fill_9 : List zEn := (18, .aload_n 0, 1, 0, 0, [], 0) :: (19, .getfield 46, 3, 11, 7, [(0, 2), (0, 464)], 0) :: (22, .iload_n 1, 1, 1, 0, [], 0) :: (23, .aaload, 1, 0, 0, [], 0) :: (24, .astore_n 3, 1, 3, 0, [], 0) :: (25, .aload_n 3, 1, 3, 0, [], 0) :: (26, .getfield 306, 3, 5, 0, [(0, 0), (0, 419)], 0) :: (29, .iconst (-1), 1, 0, 0, [], (-1)) :: (30, .if_icmp .ne 7, 3, 20, 0, [], 0) :: (33, .ldc_w 309, 3, 0, 0, [(0, 1130)], (-1000000011)) :: (36, .ireturn, 1, 0, 0, [], 0) :: uX11_fill_20
set_option maxRecDepth 100000 in
def uX11_fill_7 : List zEn := (15, .ldc 75, 2, 0, 0, [(0, 498)], (-1000000001)) :: (17, .ireturn, 1, 0, 0, [], 0) :: uX11_fill_9
set_option maxRecDepth 100000 in
def uX11_fill_0 : List zEn := (0, .iload_n 1, 1, 1, 0, [], 0) :: (1, .invokestatic 298, 3, 227, 1, [(0, 1), (0, 0), (0, 0), (0, 1118)], 0) :: (4, .ifCond .eq 11, 3, 7, 0, [], 0) :: (7, .aload_n 0, 1, 0, 0, [], 0) :: (8, .iload_n 2, 1, 2, 0, [], 0) :: (9, .invokevirtual 81, 3, 18, 2, [(0, 1), (0, 0), (0, 0), (0, 11), (0, 508)], 0) :: (12, .ifCond .ne 6, 3, 9, 0, [], 0) :: uX11_fill_7
set_option maxRecDepth 100000 in
theorem jX11_fill_7 : zj pX11_fill 7 = uX11_fill_7 := rfl
set_option maxRecDepth 100000 in
theorem jX11_fill_9 : zj pX11_fill 9 = uX11_fill_9 := rfl
set_option maxRecDepth 100000 in
theorem jX11_fill_20 : zj pX11_fill 20 = uX11_fill_20 := rfl
set_option maxRecDepth 100000 in
theorem jX11_fill_24 : zj pX11_fill 24 = uX11_fill_24 := rfl
set_option maxRecDepth 100000 in
theorem jX11_fill_49 : zj pX11_fill 49 = uX11_fill_49 := rfl
set_option maxRecDepth 100000 in
def uX12_fill_58 : List zEn := (104, .aload_n 0, 1, 0, 0, [], 0) :: (105, .iconst 1, 1, 0, 0, [], 1) :: (106, .invokevirtual 170, 3, 90, 2, [(0, 0), (0, 0), (0, 0), (0, 12), (0, 1508)], 0) :: (109, .iload_n 3, 1, 3, 0, [], 0) :: (110, .ireturn, 1, 0, 0, [], 0) :: []
set_option maxRecDepth 100000 in
def uX12_fill_54 : List zEn := (96, .iadd, 1, 0, 0, [], 0) :: (97, .istore_n 3, 1, 3, 0, [], 0) :: (98, .iinc 4 1, 3, 4, 0, [], 1) :: (101, .goto (-60), 3, 23, 0, [], 0) :: uX12_fill_58
set_option maxRecDepth 100000 in
def uX12_fill_47 : List zEn := (83, .aload_n 0, 1, 0, 0, [], 0) :: (84, .aload_n 0, 1, 0, 0, [], 0) :: (85, .iload_n 2, 1, 2, 0, [], 0) :: (86, .iload 4, 2, 4, 0, [], 0) :: (88, .invokevirtual 114, 3, 33, 3, [(0, 1), (0, 0), (0, 0), (0, 12), (0, 1409)], 0) :: (91, .iload 5, 2, 5, 0, [], 0) :: (93, .invokevirtual 165, 3, 100, 3, [(0, 1), (0, 0), (0, 0), (0, 12), (0, 1529)], 0) :: uX12_fill_54
set_option maxRecDepth 100000 in
def uX12_fill_24 : List zEn := (41, .iload 4, 2, 4, 0, [], 0) :: (43, .aload_n 0, 1, 0, 0, [], 0) :: (44, .getfield 22, 3, 12, 5, [(0, 2), (0, 1255)], 0) :: (47, .iload_n 1, 1, 1, 0, [], 0) :: (48, .iaload, 1, 0, 0, [], 0) :: (49, .if_icmp .ge 55, 3, 58, 0, [], 0) :: (52, .iload 4, 2, 4, 0, [], 0) :: (54, .bipush 8, 2, 0, 0, [], 8) :: (56, .if_icmp .ge 48, 3, 58, 0, [], 0) :: (59, .aload_n 0, 1, 0, 0, [], 0) :: (60, .getfield 25, 3, 12, 6, [(0, 2), (0, 1256)], 0) :: (63, .bipush 24, 2, 0, 0, [], 24) :: (65, .iload_n 1, 1, 1, 0, [], 0) :: (66, .imul, 1, 0, 0, [], 0) :: (67, .iload 4, 2, 4, 0, [], 0) :: (69, .iadd, 1, 0, 0, [], 0) :: (70, .iaload, 1, 0, 0, [], 0) :: (71, .istore 5, 2, 5, 0, [], 0) :: (73, .iload_n 3, 1, 3, 0, [], 0) :: (74, .iload 5, 2, 5, 0, [], 0) :: (76, .ifCond .ge 7, 3, 47, 0, [], 0) :: (79, .iconst 0, 1, 0, 0, [], 0) :: (80, .goto 16, 3, 54, 0, [], 0) :: uX12_fill_47
set_option maxRecDepth 100000 in
def tX12_fill_24 : List zEn := uX12_fill_24
set_option maxRecDepth 100000 in
def uX12_fill_23 : List zEn := (41, .nop, 0, 0, 0, [], 0) :: tX12_fill_24
set_option maxRecDepth 100000 in
def uX12_fill_16 : List zEn := (31, .aload_n 0, 1, 0, 0, [], 0) :: (32, .iconst 0, 1, 0, 0, [], 0) :: (33, .invokevirtual 170, 3, 90, 2, [(0, 0), (0, 0), (0, 0), (0, 12), (0, 1508)], 0) :: (36, .iconst 0, 1, 0, 0, [], 0) :: (37, .istore_n 3, 1, 3, 0, [], 0) :: (38, .iconst 0, 1, 0, 0, [], 0) :: (39, .istore 4, 2, 4, 0, [], 0) :: uX12_fill_23
set_option maxRecDepth 100000 in
def uX12_fill_9 : List zEn := (18, .aload_n 0, 1, 0, 0, [], 0) :: (19, .getfield 19, 3, 12, 4, [(0, 2), (0, 1254)], 0) :: (22, .iload_n 1, 1, 1, 0, [], 0) :: (23, .iaload, 1, 0, 0, [], 0) :: (24, .ifCond .ge 7, 3, 16, 0, [], 0) :: (27, .ldc_w 335, 3, 0, 0, [(0, 1741)], (-1000000011)) :: (30, .ireturn, 1, 0, 0, [], 0) :: uX12_fill_16
set_option maxRecDepth 100000 in
def uX12_fill_7 : List zEn := (15, .ldc 87, 2, 0, 0, [(0, 1372)], (-1000000001)) :: (17, .ireturn, 1, 0, 0, [], 0) :: uX12_fill_9
set_option maxRecDepth 100000 in
def uX12_fill_0 : List zEn := (0, .iload_n 1, 1, 1, 0, [], 0) :: (1, .invokestatic 331, 3, 230, 1, [(0, 1), (0, 0), (0, 0), (0, 1733)], 0) :: (4, .ifCond .eq 11, 3, 7, 0, [], 0) :: (7, .aload_n 0, 1, 0, 0, [], 0) :: (8, .iload_n 2, 1, 2, 0, [], 0) :: (9, .invokevirtual 93, 3, 22, 2, [(0, 1), (0, 0), (0, 0), (0, 12), (0, 1382)], 0) :: (12, .ifCond .ne 6, 3, 9, 0, [], 0) :: uX12_fill_7
set_option maxRecDepth 100000 in
theorem jX12_fill_7 : zj pX12_fill 7 = uX12_fill_7 := rfl
set_option maxRecDepth 100000 in
theorem jX12_fill_9 : zj pX12_fill 9 = uX12_fill_9 := rfl
set_option maxRecDepth 100000 in
theorem jX12_fill_16 : zj pX12_fill 16 = uX12_fill_16 := rfl
set_option maxRecDepth 100000 in
theorem jX12_fill_23 : zj pX12_fill 23 = uX12_fill_23 := rfl
set_option maxRecDepth 100000 in
theorem jX12_fill_47 : zj pX12_fill 47 = uX12_fill_47 := rfl
set_option maxRecDepth 100000 in
theorem jX12_fill_54 : zj pX12_fill 54 = uX12_fill_54 := rfl
set_option maxRecDepth 100000 in
theorem jX12_fill_58 : zj pX12_fill 58 = uX12_fill_58 := rfl
set_option maxRecDepth 100000 in
def uX5_hasRange_17 : List zEn := (31, .ireturn, 1, 1, 0, [], 0) :: []
set_option maxRecDepth 100000 in
def uX5_hasRange_16 : List zEn := (30, .iconst 0, 1, 0, 0, [], 0) :: uX5_hasRange_17
set_option maxRecDepth 100000 in
def uX5_hasRange_0 : List zEn := (0, .iload_n 2, 1, 2, 0, [], 0) :: (1, .ifCond .lt 29, 3, 16, 0, [], 0) :: (4, .iload_n 1, 1, 1, 0, [], 0) :: (5, .ifCond .lt 25, 3, 16, 0, [], 0) :: (8, .iload_n 1, 1, 1, 0, [], 0) :: (9, .aload_n 0, 1, 0, 0, [], 0) :: (10, .getfield 15, 3, 5, 1, [(0, 0), (0, 420)], 0) :: (13, .if_icmp .gt 17, 3, 16, 0, [], 0) :: (16, .iload_n 2, 1, 2, 0, [], 0) :: (17, .aload_n 0, 1, 0, 0, [], 0) :: (18, .getfield 15, 3, 5, 1, [(0, 0), (0, 420)], 0) :: (21, .iload_n 1, 1, 1, 0, [], 0) :: (22, .isub, 1, 0, 0, [], 0) :: (23, .if_icmp .gt 7, 3, 16, 0, [], 0) :: (26, .iconst 1, 1, 0, 0, [], 1) :: (27, .goto 4, 3, 17, 0, [], 0) :: uX5_hasRange_16
set_option maxRecDepth 100000 in
theorem jX5_hasRange_16 : zj pX5_hasRange 16 = uX5_hasRange_16 := rfl
set_option maxRecDepth 100000 in
theorem jX5_hasRange_17 : zj pX5_hasRange 17 = uX5_hasRange_17 := rfl
set_option maxRecDepth 100000 in
def uX11_copy_47 : List zEn := (98, .aload 6, 2, 6, 0, [], 0) :: (100, .getfield 316, 3, 5, 2, [(0, 2), (0, 423)], 0) :: (103, .iload_n 2, 1, 2, 0, [], 0) :: (104, .aload 7, 2, 7, 0, [], 0) :: (106, .getfield 316, 3, 5, 2, [(0, 2), (0, 423)], 0) :: (109, .iload 4, 2, 4, 0, [], 0) :: (111, .iload 5, 2, 5, 0, [], 0) :: (113, .invokestatic 331, 3, 1152, 0, [], 0) :: (116, .iload 5, 2, 5, 0, [], 0) :: (118, .ireturn, 1, 0, 0, [], 0) :: []
set_option maxRecDepth 100000 in
def uX11_copy_45 : List zEn := (94, .ldc_w 313, 3, 0, 0, [(0, 1131)], (-1000000013)) :: (97, .ireturn, 1, 0, 0, [], 0) :: uX11_copy_47
set_option maxRecDepth 100000 in
def uX11_copy_35 : List zEn := (71, .aload 6, 2, 6, 0, [], 0) :: (73, .iload_n 2, 1, 2, 0, [], 0) :: (74, .iload 5, 2, 5, 0, [], 0) :: (76, .invokevirtual 327, 3, 238, 3, [(0, 1), (0, 0), (0, 0), (0, 5), (0, 1148)], 0) :: (79, .ifCond .eq 15, 3, 45, 0, [], 0) :: (82, .aload 7, 2, 7, 0, [], 0) :: (84, .iload 4, 2, 4, 0, [], 0) :: (86, .iload 5, 2, 5, 0, [], 0) :: (88, .invokevirtual 327, 3, 238, 3, [(0, 1), (0, 0), (0, 0), (0, 5), (0, 1148)], 0) :: (91, .ifCond .ne 7, 3, 47, 0, [], 0) :: uX11_copy_45
set_option maxRecDepth 100000 in
def uX11_copy_28 : List zEn := (55, .aload 6, 2, 6, 0, [], 0) :: (57, .getfield 306, 3, 5, 0, [(0, 0), (0, 419)], 0) :: (60, .aload 7, 2, 7, 0, [], 0) :: (62, .getfield 306, 3, 5, 0, [(0, 0), (0, 419)], 0) :: (65, .if_icmp .eq 6, 3, 35, 0, [], 0) :: (68, .ldc 157, 2, 0, 0, [(0, 651)], (-1000000012)) :: (70, .ireturn, 1, 0, 0, [], 0) :: uX11_copy_35
set_option maxRecDepth 100000 in
def uX11_copy_26 : List zEn := (51, .ldc_w 309, 3, 0, 0, [(0, 1130)], (-1000000011)) :: (54, .ireturn, 1, 0, 0, [], 0) :: uX11_copy_28
set_option maxRecDepth 100000 in
def uX11_copy_8 : List zEn := (17, .aload_n 0, 1, 0, 0, [], 0) :: (18, .getfield 46, 3, 11, 7, [(0, 2), (0, 464)], 0) :: (21, .iload_n 1, 1, 1, 0, [], 0) :: (22, .aaload, 1, 0, 0, [], 0) :: (23, .astore 6, 2, 6, 0, [], 0) :: (25, .aload_n 0, 1, 0, 0, [], 0) :: (26, .getfield 46, 3, 11, 7, [(0, 2), (0, 464)], 0) :: (29, .iload_n 3, 1, 3, 0, [], 0) :: (30, .aaload, 1, 0, 0, [], 0) :: (31, .astore 7, 2, 7, 0, [], 0) :: (33, .aload 6, 2, 6, 0, [], 0) :: (35, .getfield 306, 3, 5, 0, [(0, 0), (0, 419)], 0) :: (38, .iconst (-1), 1, 0, 0, [], (-1)) :: (39, .if_icmp .eq 12, 3, 26, 0, [], 0) :: (42, .aload 7, 2, 7, 0, [], 0) :: (44, .getfield 306, 3, 5, 0, [(0, 0), (0, 419)], 0) :: (47, .iconst (-1), 1, 0, 0, [], (-1)) :: (48, .if_icmp .ne 7, 3, 28, 0, [], 0) :: uX11_copy_26
set_option maxRecDepth 100000 in
def uX11_copy_6 : List zEn := (14, .ldc 75, 2, 0, 0, [(0, 498)], (-1000000001)) :: (16, .ireturn, 1, 0, 0, [], 0) :: uX11_copy_8
set_option maxRecDepth 100000 in
def uX11_copy_0 : List zEn := (0, .iload_n 1, 1, 1, 0, [], 0) :: (1, .invokestatic 298, 3, 227, 1, [(0, 1), (0, 0), (0, 0), (0, 1118)], 0) :: (4, .ifCond .eq 10, 3, 6, 0, [], 0) :: (7, .iload_n 3, 1, 3, 0, [], 0) :: (8, .invokestatic 298, 3, 227, 1, [(0, 1), (0, 0), (0, 0), (0, 1118)], 0) :: (11, .ifCond .ne 6, 3, 8, 0, [], 0) :: uX11_copy_6
set_option maxRecDepth 100000 in
theorem jX11_copy_6 : zj pX11_copy 6 = uX11_copy_6 := rfl
set_option maxRecDepth 100000 in
theorem jX11_copy_8 : zj pX11_copy 8 = uX11_copy_8 := rfl
set_option maxRecDepth 100000 in
theorem jX11_copy_26 : zj pX11_copy 26 = uX11_copy_26 := rfl
set_option maxRecDepth 100000 in
theorem jX11_copy_28 : zj pX11_copy 28 = uX11_copy_28 := rfl
set_option maxRecDepth 100000 in
theorem jX11_copy_35 : zj pX11_copy 35 = uX11_copy_35 := rfl
set_option maxRecDepth 100000 in
theorem jX11_copy_45 : zj pX11_copy 45 = uX11_copy_45 := rfl
set_option maxRecDepth 100000 in
theorem jX11_copy_47 : zj pX11_copy 47 = uX11_copy_47 := rfl
set_option maxRecDepth 100000 in
def uX12_copy_107 : List zEn := (185, .iload 5, 2, 5, 0, [], 0) :: (187, .ireturn, 1, 0, 0, [], 0) :: []
set_option maxRecDepth 100000 in
def uX12_copy_88 : List zEn := (150, .iload 6, 2, 6, 0, [], 0) :: (152, .iload 5, 2, 5, 0, [], 0) :: (154, .if_icmp .ge 31, 3, 107, 0, [], 0) :: (157, .aload_n 0, 1, 0, 0, [], 0) :: (158, .getfield 25, 3, 12, 6, [(0, 2), (0, 1256)], 0) :: (161, .bipush 24, 2, 0, 0, [], 24) :: (163, .iload_n 3, 1, 3, 0, [], 0) :: (164, .imul, 1, 0, 0, [], 0) :: (165, .iload 4, 2, 4, 0, [], 0) :: (167, .iadd, 1, 0, 0, [], 0) :: (168, .iload 6, 2, 6, 0, [], 0) :: (170, .iadd, 1, 0, 0, [], 0) :: (171, .aload_n 0, 1, 0, 0, [], 0) :: (172, .getfield 67, 3, 12, 33, [(0, 2), (0, 1283)], 0) :: (175, .iload 6, 2, 6, 0, [], 0) :: (177, .iaload, 1, 0, 0, [], 0) :: (178, .iastore, 1, 0, 0, [], 0) :: (179, .iinc 6 1, 3, 6, 0, [], 1) :: (182, .goto (-32), 3, 87, 0, [], 0) :: uX12_copy_107
set_option maxRecDepth 100000 in
def tX12_copy_88 : List zEn := uX12_copy_88
set_option maxRecDepth 100000 in
def uX12_copy_87 : List zEn := (150, .nop, 0, 0, 0, [], 0) :: tX12_copy_88
set_option maxRecDepth 100000 in
def uX12_copy_85 : List zEn := (147, .iconst 0, 1, 0, 0, [], 0) :: (148, .istore 6, 2, 6, 0, [], 0) :: uX12_copy_87
set_option maxRecDepth 100000 in
def uX12_copy_66 : List zEn := (113, .iload 6, 2, 6, 0, [], 0) :: (115, .iload 5, 2, 5, 0, [], 0) :: (117, .if_icmp .ge 30, 3, 85, 0, [], 0) :: (120, .aload_n 0, 1, 0, 0, [], 0) :: (121, .getfield 67, 3, 12, 33, [(0, 2), (0, 1283)], 0) :: (124, .iload 6, 2, 6, 0, [], 0) :: (126, .aload_n 0, 1, 0, 0, [], 0) :: (127, .getfield 25, 3, 12, 6, [(0, 2), (0, 1256)], 0) :: (130, .bipush 24, 2, 0, 0, [], 24) :: (132, .iload_n 1, 1, 1, 0, [], 0) :: (133, .imul, 1, 0, 0, [], 0) :: (134, .iload_n 2, 1, 2, 0, [], 0) :: (135, .iadd, 1, 0, 0, [], 0) :: (136, .iload 6, 2, 6, 0, [], 0) :: (138, .iadd, 1, 0, 0, [], 0) :: (139, .iaload, 1, 0, 0, [], 0) :: (140, .iastore, 1, 0, 0, [], 0) :: (141, .iinc 6 1, 3, 6, 0, [], 1) :: (144, .goto (-31), 3, 65, 0, [], 0) :: uX12_copy_85
set_option maxRecDepth 100000 in
def tX12_copy_66 : List zEn := uX12_copy_66
set_option maxRecDepth 100000 in
def uX12_copy_65 : List zEn := (113, .nop, 0, 0, 0, [], 0) :: tX12_copy_66
set_option maxRecDepth 100000 in
def uX12_copy_63 : List zEn := (110, .iconst 0, 1, 0, 0, [], 0) :: (111, .istore 6, 2, 6, 0, [], 0) :: uX12_copy_65
set_option maxRecDepth 100000 in
def uX12_copy_61 : List zEn := (106, .ldc_w 336, 3, 0, 0, [(0, 1742)], (-1000000013)) :: (109, .ireturn, 1, 0, 0, [], 0) :: uX12_copy_63
set_option maxRecDepth 100000 in
def uX12_copy_31 : List zEn := (57, .iload_n 2, 1, 2, 0, [], 0) :: (58, .ifCond .lt 48, 3, 61, 0, [], 0) :: (61, .iload 4, 2, 4, 0, [], 0) :: (63, .ifCond .lt 43, 3, 61, 0, [], 0) :: (66, .iload 5, 2, 5, 0, [], 0) :: (68, .ifCond .lt 38, 3, 61, 0, [], 0) :: (71, .iload_n 2, 1, 2, 0, [], 0) :: (72, .i2l, 1, 0, 0, [], 0) :: (73, .iload 5, 2, 5, 0, [], 0) :: (75, .i2l, 1, 0, 0, [], 0) :: (76, .ladd, 1, 0, 0, [], 0) :: (77, .aload_n 0, 1, 0, 0, [], 0) :: (78, .getfield 22, 3, 12, 5, [(0, 2), (0, 1255)], 0) :: (81, .iload_n 1, 1, 1, 0, [], 0) :: (82, .iaload, 1, 0, 0, [], 0) :: (83, .i2l, 1, 0, 0, [], 0) :: (84, .lcmp, 1, 0, 0, [], 0) :: (85, .ifCond .gt 21, 3, 61, 0, [], 0) :: (88, .iload 4, 2, 4, 0, [], 0) :: (90, .i2l, 1, 0, 0, [], 0) :: (91, .iload 5, 2, 5, 0, [], 0) :: (93, .i2l, 1, 0, 0, [], 0) :: (94, .ladd, 1, 0, 0, [], 0) :: (95, .aload_n 0, 1, 0, 0, [], 0) :: (96, .getfield 22, 3, 12, 5, [(0, 2), (0, 1255)], 0) :: (99, .iload_n 3, 1, 3, 0, [], 0) :: (100, .iaload, 1, 0, 0, [], 0) :: (101, .i2l, 1, 0, 0, [], 0) :: (102, .lcmp, 1, 0, 0, [], 0) :: (103, .ifCond .le 7, 3, 63, 0, [], 0) :: uX12_copy_61
set_option maxRecDepth 100000 in
def uX12_copy_20 : List zEn := (39, .aload_n 0, 1, 0, 0, [], 0) :: (40, .getfield 19, 3, 12, 4, [(0, 2), (0, 1254)], 0) :: (43, .iload_n 1, 1, 1, 0, [], 0) :: (44, .iaload, 1, 0, 0, [], 0) :: (45, .aload_n 0, 1, 0, 0, [], 0) :: (46, .getfield 19, 3, 12, 4, [(0, 2), (0, 1254)], 0) :: (49, .iload_n 3, 1, 3, 0, [], 0) :: (50, .iaload, 1, 0, 0, [], 0) :: (51, .if_icmp .eq 6, 3, 31, 0, [], 0) :: (54, .ldc 164, 2, 0, 0, [(0, 1490)], (-1000000012)) :: (56, .ireturn, 1, 0, 0, [], 0) :: uX12_copy_31
set_option maxRecDepth 100000 in
def uX12_copy_18 : List zEn := (35, .ldc_w 335, 3, 0, 0, [(0, 1741)], (-1000000011)) :: (38, .ireturn, 1, 0, 0, [], 0) :: uX12_copy_20
set_option maxRecDepth 100000 in
def uX12_copy_8 : List zEn := (17, .aload_n 0, 1, 0, 0, [], 0) :: (18, .getfield 19, 3, 12, 4, [(0, 2), (0, 1254)], 0) :: (21, .iload_n 1, 1, 1, 0, [], 0) :: (22, .iaload, 1, 0, 0, [], 0) :: (23, .ifCond .lt 12, 3, 18, 0, [], 0) :: (26, .aload_n 0, 1, 0, 0, [], 0) :: (27, .getfield 19, 3, 12, 4, [(0, 2), (0, 1254)], 0) :: (30, .iload_n 3, 1, 3, 0, [], 0) :: (31, .iaload, 1, 0, 0, [], 0) :: (32, .ifCond .ge 7, 3, 20, 0, [], 0) :: uX12_copy_18
set_option maxRecDepth 100000 in
def uX12_copy_6 : List zEn := (14, .ldc 87, 2, 0, 0, [(0, 1372)], (-1000000001)) :: (16, .ireturn, 1, 0, 0, [], 0) :: uX12_copy_8
set_option maxRecDepth 100000 in
def uX12_copy_0 : List zEn := (0, .iload_n 1, 1, 1, 0, [], 0) :: (1, .invokestatic 331, 3, 230, 1, [(0, 1), (0, 0), (0, 0), (0, 1733)], 0) :: (4, .ifCond .eq 10, 3, 6, 0, [], 0) :: (7, .iload_n 3, 1, 3, 0, [], 0) :: (8, .invokestatic 331, 3, 230, 1, [(0, 1), (0, 0), (0, 0), (0, 1733)], 0) :: (11, .ifCond .ne 6, 3, 8, 0, [], 0) :: uX12_copy_6
set_option maxRecDepth 100000 in
theorem jX12_copy_6 : zj pX12_copy 6 = uX12_copy_6 := rfl
set_option maxRecDepth 100000 in
theorem jX12_copy_8 : zj pX12_copy 8 = uX12_copy_8 := rfl
set_option maxRecDepth 100000 in
theorem jX12_copy_18 : zj pX12_copy 18 = uX12_copy_18 := rfl
set_option maxRecDepth 100000 in
theorem jX12_copy_20 : zj pX12_copy 20 = uX12_copy_20 := rfl
set_option maxRecDepth 100000 in
theorem jX12_copy_31 : zj pX12_copy 31 = uX12_copy_31 := rfl
set_option maxRecDepth 100000 in
theorem jX12_copy_61 : zj pX12_copy 61 = uX12_copy_61 := rfl
set_option maxRecDepth 100000 in
theorem jX12_copy_63 : zj pX12_copy 63 = uX12_copy_63 := rfl
set_option maxRecDepth 100000 in
theorem jX12_copy_65 : zj pX12_copy 65 = uX12_copy_65 := rfl
set_option maxRecDepth 100000 in
theorem jX12_copy_85 : zj pX12_copy 85 = uX12_copy_85 := rfl
set_option maxRecDepth 100000 in
theorem jX12_copy_87 : zj pX12_copy 87 = uX12_copy_87 := rfl
set_option maxRecDepth 100000 in
theorem jX12_copy_107 : zj pX12_copy 107 = uX12_copy_107 := rfl
set_option maxRecDepth 100000 in
def uX11_isSlot_0 : List zEn := (0, .iload_n 0, 1, 0, 0, [], 0) :: (1, .iconst 0, 1, 0, 0, [], 0) :: (2, .iconst 4, 1, 0, 0, [], 4) :: (3, .invokestatic 68, 3, 12, 3, [(0, 1), (0, 0), (0, 0), (0, 495)], 0) :: (6, .ireturn, 1, 1, 0, [], 0) :: []
set_option maxRecDepth 100000 in
def uX11_isThing_17 : List zEn := (53, .ireturn, 1, 1, 0, [], 0) :: []
set_option maxRecDepth 100000 in
def uX11_isThing_16 : List zEn := (52, .iconst 0, 1, 0, 0, [], 0) :: uX11_isThing_17
set_option maxRecDepth 100000 in
def uX11_isThing_14 : List zEn := (48, .iconst 1, 1, 0, 0, [], 1) :: (49, .goto 4, 3, 17, 0, [], 0) :: uX11_isThing_16
set_option maxRecDepth 100000 in
def uX11_isThing_9 : List zEn := (39, .iload_n 1, 1, 1, 0, [], 0) :: (40, .ifCond .eq 8, 3, 14, 0, [], 0) :: (43, .iload_n 1, 1, 1, 0, [], 0) :: (44, .iconst 3, 1, 0, 0, [], 3) :: (45, .if_icmp .ne 7, 3, 16, 0, [], 0) :: uX11_isThing_14
set_option maxRecDepth 100000 in
def uX11_isThing_6 : List zEn := (34, .iload_n 2, 1, 2, 0, [], 0) :: (35, .invokestatic 298, 3, 227, 1, [(0, 1), (0, 0), (0, 0), (0, 1118)], 0) :: (38, .ireturn, 1, 1, 0, [], 0) :: uX11_isThing_9
set_option maxRecDepth 100000 in
def uX11_isThing_2 : List zEn := (28, .aload_n 0, 1, 0, 0, [], 0) :: (29, .iload_n 2, 1, 2, 0, [], 0) :: (30, .invokevirtual 121, 3, 44, 2, [(0, 1), (0, 0), (0, 0), (0, 11), (0, 565)], 0) :: (33, .ireturn, 1, 1, 0, [], 0) :: uX11_isThing_6
set_option maxRecDepth 100000 in
def uX11_isThing_0 : List zEn := (0, .iload_n 1, 1, 1, 0, [], 0) :: (1, .lookupswitch 38 #[(1, 27), (2, 33)], 27, 9, 0, [(1, 2), (2, 6)], 0) :: uX11_isThing_2
set_option maxRecDepth 100000 in
theorem jX11_isThing_2 : zj pX11_isThing 2 = uX11_isThing_2 := rfl
set_option maxRecDepth 100000 in
theorem jX11_isThing_6 : zj pX11_isThing 6 = uX11_isThing_6 := rfl
set_option maxRecDepth 100000 in
theorem jX11_isThing_9 : zj pX11_isThing 9 = uX11_isThing_9 := rfl
set_option maxRecDepth 100000 in
theorem jX11_isThing_14 : zj pX11_isThing 14 = uX11_isThing_14 := rfl
set_option maxRecDepth 100000 in
theorem jX11_isThing_16 : zj pX11_isThing 16 = uX11_isThing_16 := rfl
set_option maxRecDepth 100000 in
theorem jX11_isThing_17 : zj pX11_isThing 17 = uX11_isThing_17 := rfl
set_option maxRecDepth 100000 in
def uX3_become_0 : List zEn := (0, .aload_n 0, 1, 0, 0, [], 0) :: (1, .aload_n 1, 1, 1, 0, [], 0) :: (2, .getfield 9, 3, 3, 0, [(0, 0), (0, 211)], 0) :: (5, .putfield 9, 3, 3, 0, [(0, 0), (0, 211)], 0) :: (8, .aload_n 0, 1, 0, 0, [], 0) :: (9, .aload_n 1, 1, 1, 0, [], 0) :: (10, .getfield 15, 3, 3, 1, [(0, 0), (0, 216)], 0) :: (13, .putfield 15, 3, 3, 1, [(0, 0), (0, 216)], 0) :: (16, .aload_n 0, 1, 0, 0, [], 0) :: (17, .aload_n 1, 1, 1, 0, [], 0) :: (18, .getfield 18, 3, 3, 2, [(0, 0), (0, 219)], 0) :: (21, .putfield 18, 3, 3, 2, [(0, 0), (0, 219)], 0) :: (24, .aload_n 0, 1, 0, 0, [], 0) :: (25, .aload_n 1, 1, 1, 0, [], 0) :: (26, .getfield 21, 3, 3, 3, [(0, 0), (0, 221)], 0) :: (29, .putfield 21, 3, 3, 3, [(0, 0), (0, 221)], 0) :: (32, .aload_n 0, 1, 0, 0, [], 0) :: (33, .aload_n 1, 1, 1, 0, [], 0) :: (34, .getfield 24, 3, 3, 4, [(0, 0), (0, 225)], 0) :: (37, .putfield 24, 3, 3, 4, [(0, 0), (0, 225)], 0) :: (40, .aload_n 0, 1, 0, 0, [], 0) :: (41, .aload_n 1, 1, 1, 0, [], 0) :: (42, .getfield 27, 3, 3, 5, [(0, 0), (0, 229)], 0) :: (45, .putfield 27, 3, 3, 5, [(0, 0), (0, 229)], 0) :: (48, .aload_n 0, 1, 0, 0, [], 0) :: (49, .aload_n 1, 1, 1, 0, [], 0) :: (50, .getfield 30, 3, 3, 6, [(0, 1), (0, 233)], 0) :: (53, .putfield 30, 3, 3, 6, [(0, 1), (0, 233)], 0) :: (56, .aload_n 0, 1, 0, 0, [], 0) :: (57, .aload_n 1, 1, 1, 0, [], 0) :: (58, .getfield 34, 3, 3, 7, [(0, 1), (0, 236)], 0) :: (61, .putfield 34, 3, 3, 7, [(0, 1), (0, 236)], 0) :: (64, .aload_n 0, 1, 0, 0, [], 0) :: (65, .aload_n 1, 1, 1, 0, [], 0) :: (66, .getfield 37, 3, 3, 8, [(0, 0), (0, 239)], 0) :: (69, .putfield 37, 3, 3, 8, [(0, 0), (0, 239)], 0) :: (72, .aload_n 0, 1, 0, 0, [], 0) :: (73, .aload_n 1, 1, 1, 0, [], 0) :: (74, .getfield 41, 3, 3, 9, [(0, 0), (0, 242)], 0) :: (77, .putfield 41, 3, 3, 9, [(0, 0), (0, 242)], 0) :: (80, .aload_n 0, 1, 0, 0, [], 0) :: (81, .aload_n 1, 1, 1, 0, [], 0) :: (82, .getfield 44, 3, 3, 10, [(0, 1), (0, 245)], 0) :: (85, .putfield 44, 3, 3, 10, [(0, 1), (0, 245)], 0) :: (88, .return_, 1, 0, 0, [], 0) :: []
set_option maxRecDepth 100000 in
def uX5_become_0 : List zEn := (0, .aload_n 0, 1, 0, 0, [], 0) :: (1, .aload_n 1, 1, 1, 0, [], 0) :: (2, .getfield 9, 3, 5, 0, [(0, 0), (0, 418)], 0) :: (5, .putfield 9, 3, 5, 0, [(0, 0), (0, 418)], 0) :: (8, .aload_n 0, 1, 0, 0, [], 0) :: (9, .aload_n 1, 1, 1, 0, [], 0) :: (10, .getfield 15, 3, 5, 1, [(0, 0), (0, 420)], 0) :: (13, .putfield 15, 3, 5, 1, [(0, 0), (0, 420)], 0) :: (16, .aload_n 1, 1, 1, 0, [], 0) :: (17, .getfield 18, 3, 5, 2, [(0, 2), (0, 422)], 0) :: (20, .iconst 0, 1, 0, 0, [], 0) :: (21, .aload_n 0, 1, 0, 0, [], 0) :: (22, .getfield 18, 3, 5, 2, [(0, 2), (0, 422)], 0) :: (25, .iconst 0, 1, 0, 0, [], 0) :: (26, .bipush 24, 2, 0, 0, [], 24) :: (28, .invokestatic 22, 3, 1172, 0, [], 0) :: (31, .return_, 1, 0, 0, [], 0) :: []
set_option maxRecDepth 100000 in
def uX11_lay_56 : List zEn := (134, .iload 5, 2, 5, 0, [], 0) :: (136, .ireturn, 1, 0, 0, [], 0) :: []
set_option maxRecDepth 100000 in
def uX11_lay_52 : List zEn := (125, .aload 4, 2, 4, 0, [], 0) :: (127, .iload_n 3, 1, 3, 0, [], 0) :: (128, .putfield 361, 3, 7, 1, [(0, 0), (0, 443)], 0) :: (131, .goto 3, 3, 56, 0, [], 0) :: uX11_lay_56
set_option maxRecDepth 100000 in
def uX11_lay_44 : List zEn := (108, .aload 4, 2, 4, 0, [], 0) :: (110, .getfield 354, 3, 7, 3, [(0, 2), (0, 447)], 0) :: (113, .aload_n 0, 1, 0, 0, [], 0) :: (114, .getfield 46, 3, 11, 7, [(0, 2), (0, 464)], 0) :: (117, .iload_n 3, 1, 3, 0, [], 0) :: (118, .aaload, 1, 0, 0, [], 0) :: (119, .invokevirtual 358, 3, 244, 2, [(0, 0), (0, 0), (0, 0), (0, 5), (0, 1168)], 0) :: (122, .goto 12, 3, 56, 0, [], 0) :: uX11_lay_52
set_option maxRecDepth 100000 in
def uX11_lay_35 : List zEn := (88, .aload 4, 2, 4, 0, [], 0) :: (90, .getfield 346, 3, 7, 2, [(0, 2), (0, 445)], 0) :: (93, .aload_n 0, 1, 0, 0, [], 0) :: (94, .getfield 10, 3, 11, 0, [(0, 2), (0, 457)], 0) :: (97, .getfield 124, 3, 6, 3, [(0, 2), (0, 279)], 0) :: (100, .iload_n 3, 1, 3, 0, [], 0) :: (101, .aaload, 1, 0, 0, [], 0) :: (102, .invokevirtual 350, 3, 243, 2, [(0, 0), (0, 0), (0, 0), (0, 3), (0, 1164)], 0) :: (105, .goto 29, 3, 56, 0, [], 0) :: uX11_lay_44
set_option maxRecDepth 100000 in
def uX11_lay_22 : List zEn := (41, .aload_n 0, 1, 0, 0, [], 0) :: (42, .getfield 52, 3, 11, 8, [(0, 2), (0, 465)], 0) :: (45, .iload_n 1, 1, 1, 0, [], 0) :: (46, .aaload, 1, 0, 0, [], 0) :: (47, .astore 4, 2, 4, 0, [], 0) :: (49, .aload 4, 2, 4, 0, [], 0) :: (51, .getfield 343, 3, 7, 0, [(0, 0), (0, 441)], 0) :: (54, .istore 5, 2, 5, 0, [], 0) :: (56, .aload 4, 2, 4, 0, [], 0) :: (58, .iload_n 2, 1, 2, 0, [], 0) :: (59, .putfield 343, 3, 7, 0, [(0, 0), (0, 441)], 0) :: (62, .iload_n 2, 1, 2, 0, [], 0) :: (63, .tableswitch 71 1 3 #[25, 45, 62], 25, 56, 0, [(1, 35), (2, 44), (3, 52)], 0) :: uX11_lay_35
set_option maxRecDepth 100000 in
def uX11_lay_10 : List zEn := (19, .iload_n 2, 1, 2, 0, [], 0) :: (20, .iconst 2, 1, 0, 0, [], 2) :: (21, .if_icmp .ne 20, 3, 22, 0, [], 0) :: (24, .aload_n 0, 1, 0, 0, [], 0) :: (25, .getfield 46, 3, 11, 7, [(0, 2), (0, 464)], 0) :: (28, .iload_n 3, 1, 3, 0, [], 0) :: (29, .aaload, 1, 0, 0, [], 0) :: (30, .getfield 306, 3, 5, 0, [(0, 0), (0, 419)], 0) :: (33, .iconst (-1), 1, 0, 0, [], (-1)) :: (34, .if_icmp .ne 7, 3, 22, 0, [], 0) :: (37, .ldc_w 309, 3, 0, 0, [(0, 1130)], (-1000000011)) :: (40, .ireturn, 1, 0, 0, [], 0) :: uX11_lay_22
set_option maxRecDepth 100000 in
def uX11_lay_8 : List zEn := (16, .ldc 75, 2, 0, 0, [(0, 498)], (-1000000001)) :: (18, .ireturn, 1, 0, 0, [], 0) :: uX11_lay_10
set_option maxRecDepth 100000 in
def uX11_lay_0 : List zEn := (0, .iload_n 1, 1, 1, 0, [], 0) :: (1, .invokestatic 337, 3, 241, 1, [(0, 1), (0, 0), (0, 0), (0, 1157)], 0) :: (4, .ifCond .eq 12, 3, 8, 0, [], 0) :: (7, .aload_n 0, 1, 0, 0, [], 0) :: (8, .iload_n 2, 1, 2, 0, [], 0) :: (9, .iload_n 3, 1, 3, 0, [], 0) :: (10, .invokevirtual 340, 3, 242, 3, [(0, 1), (0, 0), (0, 0), (0, 11), (0, 1160)], 0) :: (13, .ifCond .ne 6, 3, 10, 0, [], 0) :: uX11_lay_8
set_option maxRecDepth 100000 in
theorem jX11_lay_8 : zj pX11_lay 8 = uX11_lay_8 := rfl
set_option maxRecDepth 100000 in
theorem jX11_lay_10 : zj pX11_lay 10 = uX11_lay_10 := rfl
set_option maxRecDepth 100000 in
theorem jX11_lay_22 : zj pX11_lay 22 = uX11_lay_22 := rfl
set_option maxRecDepth 100000 in
theorem jX11_lay_35 : zj pX11_lay 35 = uX11_lay_35 := rfl
set_option maxRecDepth 100000 in
theorem jX11_lay_44 : zj pX11_lay 44 = uX11_lay_44 := rfl
set_option maxRecDepth 100000 in
theorem jX11_lay_52 : zj pX11_lay 52 = uX11_lay_52 := rfl
set_option maxRecDepth 100000 in
theorem jX11_lay_56 : zj pX11_lay 56 = uX11_lay_56 := rfl
set_option maxRecDepth 100000 in
def uX12_isSlot_0 : List zEn := (0, .iload_n 0, 1, 0, 0, [], 0) :: (1, .i2l, 1, 0, 0, [], 0) :: (2, .lconst 0, 1, 0, 0, [], 0) :: (3, .ldc2_w 341, 3, 0, 0, [(0, 1764)], 4) :: (6, .invokestatic 77, 3, 15, 3, [(0, 1), (0, 0), (0, 0), (0, 1368)], 0) :: (9, .ireturn, 1, 1, 0, [], 0) :: []
set_option maxRecDepth 100000 in
def uX12_lay_111 : List zEn := (191, .iload 5, 2, 5, 0, [], 0) :: (193, .ireturn, 1, 0, 0, [], 0) :: []
set_option maxRecDepth 100000 in
def uX12_lay_90 : List zEn := (154, .iload 6, 2, 6, 0, [], 0) :: (156, .bipush 24, 2, 0, 0, [], 24) :: (158, .if_icmp .ge 33, 3, 111, 0, [], 0) :: (161, .aload_n 0, 1, 0, 0, [], 0) :: (162, .getfield 40, 3, 12, 11, [(0, 2), (0, 1261)], 0) :: (165, .bipush 24, 2, 0, 0, [], 24) :: (167, .iload_n 1, 1, 1, 0, [], 0) :: (168, .imul, 1, 0, 0, [], 0) :: (169, .iload 6, 2, 6, 0, [], 0) :: (171, .iadd, 1, 0, 0, [], 0) :: (172, .aload_n 0, 1, 0, 0, [], 0) :: (173, .getfield 25, 3, 12, 6, [(0, 2), (0, 1256)], 0) :: (176, .bipush 24, 2, 0, 0, [], 24) :: (178, .iload_n 3, 1, 3, 0, [], 0) :: (179, .imul, 1, 0, 0, [], 0) :: (180, .iload 6, 2, 6, 0, [], 0) :: (182, .iadd, 1, 0, 0, [], 0) :: (183, .iaload, 1, 0, 0, [], 0) :: (184, .iastore, 1, 0, 0, [], 0) :: (185, .iinc 6 1, 3, 6, 0, [], 1) :: (188, .goto (-34), 3, 89, 0, [], 0) :: uX12_lay_111
set_option maxRecDepth 100000 in
def tX12_lay_90 : List zEn := uX12_lay_90
set_option maxRecDepth 100000 in
def uX12_lay_89 : List zEn := (154, .nop, 0, 0, 0, [], 0) :: tX12_lay_90
set_option maxRecDepth 100000 in
def uX12_lay_75 : List zEn := (133, .iastore, 1, 0, 0, [], 0) :: (134, .iload_n 2, 1, 2, 0, [], 0) :: (135, .iconst 2, 1, 0, 0, [], 2) :: (136, .if_icmp .ne 55, 3, 111, 0, [], 0) :: (139, .aload_n 0, 1, 0, 0, [], 0) :: (140, .getfield 37, 3, 12, 10, [(0, 2), (0, 1260)], 0) :: (143, .iload_n 1, 1, 1, 0, [], 0) :: (144, .aload_n 0, 1, 0, 0, [], 0) :: (145, .getfield 22, 3, 12, 5, [(0, 2), (0, 1255)], 0) :: (148, .iload_n 3, 1, 3, 0, [], 0) :: (149, .iaload, 1, 0, 0, [], 0) :: (150, .iastore, 1, 0, 0, [], 0) :: (151, .iconst 0, 1, 0, 0, [], 0) :: (152, .istore 6, 2, 6, 0, [], 0) :: uX12_lay_89
set_option maxRecDepth 100000 in
def uX12_lay_74 : List zEn := (132, .iconst 0, 1, 0, 0, [], 0) :: uX12_lay_75
set_option maxRecDepth 100000 in
def uX12_lay_63 : List zEn := (113, .iastore, 1, 0, 0, [], 0) :: (114, .aload_n 0, 1, 0, 0, [], 0) :: (115, .getfield 34, 3, 12, 9, [(0, 2), (0, 1259)], 0) :: (118, .iload_n 1, 1, 1, 0, [], 0) :: (119, .iload_n 2, 1, 2, 0, [], 0) :: (120, .iconst 1, 1, 0, 0, [], 1) :: (121, .if_icmp .ne 11, 3, 74, 0, [], 0) :: (124, .aload_n 0, 1, 0, 0, [], 0) :: (125, .iload_n 3, 1, 3, 0, [], 0) :: (126, .invokevirtual 149, 3, 65, 2, [(0, 1), (0, 0), (0, 0), (0, 12), (0, 1435)], 0) :: (129, .goto 4, 3, 75, 0, [], 0) :: uX12_lay_74
set_option maxRecDepth 100000 in
def uX12_lay_62 : List zEn := (112, .iload_n 3, 1, 3, 0, [], 0) :: uX12_lay_63
set_option maxRecDepth 100000 in
def uX12_lay_39 : List zEn := (74, .aload_n 0, 1, 0, 0, [], 0) :: (75, .getfield 28, 3, 12, 7, [(0, 2), (0, 1257)], 0) :: (78, .iload_n 1, 1, 1, 0, [], 0) :: (79, .iaload, 1, 0, 0, [], 0) :: (80, .istore 5, 2, 5, 0, [], 0) :: (82, .aload_n 0, 1, 0, 0, [], 0) :: (83, .getfield 28, 3, 12, 7, [(0, 2), (0, 1257)], 0) :: (86, .iload_n 1, 1, 1, 0, [], 0) :: (87, .iload_n 2, 1, 2, 0, [], 0) :: (88, .iastore, 1, 0, 0, [], 0) :: (89, .aload_n 0, 1, 0, 0, [], 0) :: (90, .getfield 31, 3, 12, 8, [(0, 2), (0, 1258)], 0) :: (93, .iload_n 1, 1, 1, 0, [], 0) :: (94, .iload_n 2, 1, 2, 0, [], 0) :: (95, .iconst 1, 1, 0, 0, [], 1) :: (96, .if_icmp .ne 16, 3, 62, 0, [], 0) :: (99, .aload_n 0, 1, 0, 0, [], 0) :: (100, .getfield 7, 3, 12, 0, [(0, 2), (0, 1250)], 0) :: (103, .aload_n 0, 1, 0, 0, [], 0) :: (104, .iload_n 3, 1, 3, 0, [], 0) :: (105, .invokevirtual 120, 3, 42, 2, [(0, 1), (0, 0), (0, 0), (0, 12), (0, 1422)], 0) :: (108, .iaload, 1, 0, 0, [], 0) :: (109, .goto 4, 3, 63, 0, [], 0) :: uX12_lay_62
set_option maxRecDepth 100000 in
def uX12_lay_29 : List zEn := (56, .iload_n 2, 1, 2, 0, [], 0) :: (57, .iconst 2, 1, 0, 0, [], 2) :: (58, .if_icmp .ne 16, 3, 39, 0, [], 0) :: (61, .aload_n 0, 1, 0, 0, [], 0) :: (62, .getfield 19, 3, 12, 4, [(0, 2), (0, 1254)], 0) :: (65, .iload_n 3, 1, 3, 0, [], 0) :: (66, .iaload, 1, 0, 0, [], 0) :: (67, .ifCond .ge 7, 3, 39, 0, [], 0) :: (70, .ldc_w 335, 3, 0, 0, [(0, 1741)], (-1000000011)) :: (73, .ireturn, 1, 0, 0, [], 0) :: uX12_lay_39
set_option maxRecDepth 100000 in
def uX12_lay_27 : List zEn := (53, .ldc 87, 2, 0, 0, [(0, 1372)], (-1000000001)) :: (55, .ireturn, 1, 0, 0, [], 0) :: uX12_lay_29
set_option maxRecDepth 100000 in
def uX12_lay_21 : List zEn := (39, .istore 4, 2, 4, 0, [], 0) :: (41, .iload_n 1, 1, 1, 0, [], 0) :: (42, .invokestatic 343, 3, 246, 1, [(0, 1), (0, 0), (0, 0), (0, 1761)], 0) :: (45, .ifCond .eq 8, 3, 27, 0, [], 0) :: (48, .iload 4, 2, 4, 0, [], 0) :: (50, .ifCond .ne 6, 3, 29, 0, [], 0) :: uX12_lay_27
set_option maxRecDepth 100000 in
def uX12_lay_20 : List zEn := (38, .iconst 0, 1, 0, 0, [], 0) :: uX12_lay_21
set_option maxRecDepth 100000 in
def uX12_lay_18 : List zEn := (34, .iconst 1, 1, 0, 0, [], 1) :: (35, .goto 4, 3, 21, 0, [], 0) :: uX12_lay_20
set_option maxRecDepth 100000 in
def uX12_lay_12 : List zEn := (22, .iload_n 2, 1, 2, 0, [], 0) :: (23, .iconst 2, 1, 0, 0, [], 2) :: (24, .if_icmp .ne 14, 3, 20, 0, [], 0) :: (27, .iload_n 3, 1, 3, 0, [], 0) :: (28, .invokestatic 331, 3, 230, 1, [(0, 1), (0, 0), (0, 0), (0, 1733)], 0) :: (31, .ifCond .eq 7, 3, 20, 0, [], 0) :: uX12_lay_18
set_option maxRecDepth 100000 in
def uX12_lay_0 : List zEn := (0, .iload_n 2, 1, 2, 0, [], 0) :: (1, .ifCond .eq 33, 3, 18, 0, [], 0) :: (4, .iload_n 2, 1, 2, 0, [], 0) :: (5, .iconst 3, 1, 0, 0, [], 3) :: (6, .if_icmp .eq 28, 3, 18, 0, [], 0) :: (9, .iload_n 2, 1, 2, 0, [], 0) :: (10, .iconst 1, 1, 0, 0, [], 1) :: (11, .if_icmp .ne 11, 3, 12, 0, [], 0) :: (14, .aload_n 0, 1, 0, 0, [], 0) :: (15, .iload_n 3, 1, 3, 0, [], 0) :: (16, .invokevirtual 144, 3, 62, 2, [(0, 1), (0, 0), (0, 0), (0, 12), (0, 1430)], 0) :: (19, .ifCond .ne 15, 3, 18, 0, [], 0) :: uX12_lay_12
set_option maxRecDepth 100000 in
theorem jX12_lay_12 : zj pX12_lay 12 = uX12_lay_12 := rfl
set_option maxRecDepth 100000 in
theorem jX12_lay_18 : zj pX12_lay 18 = uX12_lay_18 := rfl
set_option maxRecDepth 100000 in
theorem jX12_lay_20 : zj pX12_lay 20 = uX12_lay_20 := rfl
set_option maxRecDepth 100000 in
theorem jX12_lay_21 : zj pX12_lay 21 = uX12_lay_21 := rfl
set_option maxRecDepth 100000 in
theorem jX12_lay_27 : zj pX12_lay 27 = uX12_lay_27 := rfl
set_option maxRecDepth 100000 in
theorem jX12_lay_29 : zj pX12_lay 29 = uX12_lay_29 := rfl
set_option maxRecDepth 100000 in
theorem jX12_lay_39 : zj pX12_lay 39 = uX12_lay_39 := rfl
set_option maxRecDepth 100000 in
theorem jX12_lay_62 : zj pX12_lay 62 = uX12_lay_62 := rfl
set_option maxRecDepth 100000 in
theorem jX12_lay_63 : zj pX12_lay 63 = uX12_lay_63 := rfl
set_option maxRecDepth 100000 in
theorem jX12_lay_74 : zj pX12_lay 74 = uX12_lay_74 := rfl
set_option maxRecDepth 100000 in
theorem jX12_lay_75 : zj pX12_lay 75 = uX12_lay_75 := rfl
set_option maxRecDepth 100000 in
theorem jX12_lay_89 : zj pX12_lay 89 = uX12_lay_89 := rfl
set_option maxRecDepth 100000 in
theorem jX12_lay_111 : zj pX12_lay 111 = uX12_lay_111 := rfl
set_option maxRecDepth 100000 in
def uX11_slotFinding_18 : List zEn := (35, .ireturn, 1, 0, 0, [], 0) :: []
set_option maxRecDepth 100000 in
def uX11_slotFinding_17 : List zEn := (33, .ldc 157, 2, 0, 0, [(0, 651)], (-1000000012)) :: uX11_slotFinding_18
set_option maxRecDepth 100000 in
def uX11_slotFinding_8 : List zEn := (16, .aload_n 0, 1, 0, 0, [], 0) :: (17, .getfield 52, 3, 11, 8, [(0, 2), (0, 465)], 0) :: (20, .iload_n 1, 1, 1, 0, [], 0) :: (21, .aaload, 1, 0, 0, [], 0) :: (22, .getfield 343, 3, 7, 0, [(0, 0), (0, 441)], 0) :: (25, .iload_n 2, 1, 2, 0, [], 0) :: (26, .if_icmp .ne 7, 3, 17, 0, [], 0) :: (29, .iconst 0, 1, 0, 0, [], 0) :: (30, .goto 5, 3, 18, 0, [], 0) :: uX11_slotFinding_17
set_option maxRecDepth 100000 in
def uX11_slotFinding_0 : List zEn := (0, .aload_n 0, 1, 0, 0, [], 0) :: (1, .getfield 52, 3, 11, 8, [(0, 2), (0, 465)], 0) :: (4, .iload_n 1, 1, 1, 0, [], 0) :: (5, .aaload, 1, 0, 0, [], 0) :: (6, .getfield 343, 3, 7, 0, [(0, 0), (0, 441)], 0) :: (9, .ifCond .ne 7, 3, 8, 0, [], 0) :: (12, .ldc_w 309, 3, 0, 0, [(0, 1130)], (-1000000011)) :: (15, .ireturn, 1, 0, 0, [], 0) :: uX11_slotFinding_8
set_option maxRecDepth 100000 in
theorem jX11_slotFinding_8 : zj pX11_slotFinding 8 = uX11_slotFinding_8 := rfl
set_option maxRecDepth 100000 in
theorem jX11_slotFinding_17 : zj pX11_slotFinding 17 = uX11_slotFinding_17 := rfl
set_option maxRecDepth 100000 in
theorem jX11_slotFinding_18 : zj pX11_slotFinding 18 = uX11_slotFinding_18 := rfl
set_option maxRecDepth 100000 in
def uX11_ask_31 : List zEn := (60, .ireturn, 1, 0, 0, [], 0) :: []
set_option maxRecDepth 100000 in
def uX11_ask_30 : List zEn := (58, .ldc 157, 2, 0, 0, [(0, 651)], (-1000000012)) :: uX11_ask_31
set_option maxRecDepth 100000 in
def uX11_ask_17 : List zEn := (30, .aload_n 0, 1, 0, 0, [], 0) :: (31, .getfield 52, 3, 11, 8, [(0, 2), (0, 465)], 0) :: (34, .iload_n 1, 1, 1, 0, [], 0) :: (35, .aaload, 1, 0, 0, [], 0) :: (36, .getfield 346, 3, 7, 2, [(0, 2), (0, 445)], 0) :: (39, .astore 4, 2, 4, 0, [], 0) :: (41, .aload 4, 2, 4, 0, [], 0) :: (43, .iload_n 2, 1, 2, 0, [], 0) :: (44, .invokevirtual 151, 3, 77, 2, [(0, 1), (0, 0), (0, 0), (0, 3), (0, 645)], 0) :: (47, .ifCond .eq 11, 3, 30, 0, [], 0) :: (50, .aload 4, 2, 4, 0, [], 0) :: (52, .invokevirtual 128, 3, 48, 1, [(0, 1), (0, 0), (0, 0), (0, 3), (0, 569)], 0) :: (55, .goto 5, 3, 31, 0, [], 0) :: uX11_ask_30
set_option maxRecDepth 100000 in
def uX11_ask_8 : List zEn := (17, .aload_n 0, 1, 0, 0, [], 0) :: (18, .iload_n 1, 1, 1, 0, [], 0) :: (19, .iconst 1, 1, 0, 0, [], 1) :: (20, .invokevirtual 364, 3, 248, 3, [(0, 1), (0, 0), (0, 0), (0, 11), (0, 1177)], 0) :: (23, .istore_n 3, 1, 3, 0, [], 0) :: (24, .iload_n 3, 1, 3, 0, [], 0) :: (25, .ifCond .eq 5, 3, 17, 0, [], 0) :: (28, .iload_n 3, 1, 3, 0, [], 0) :: (29, .ireturn, 1, 0, 0, [], 0) :: uX11_ask_17
set_option maxRecDepth 100000 in
def uX11_ask_6 : List zEn := (14, .ldc 75, 2, 0, 0, [(0, 498)], (-1000000001)) :: (16, .ireturn, 1, 0, 0, [], 0) :: uX11_ask_8
set_option maxRecDepth 100000 in
def uX11_ask_0 : List zEn := (0, .iload_n 1, 1, 1, 0, [], 0) :: (1, .invokestatic 337, 3, 241, 1, [(0, 1), (0, 0), (0, 0), (0, 1157)], 0) :: (4, .ifCond .eq 10, 3, 6, 0, [], 0) :: (7, .iload_n 2, 1, 2, 0, [], 0) :: (8, .invokestatic 114, 3, 38, 1, [(0, 1), (0, 0), (0, 0), (0, 550)], 0) :: (11, .ifCond .ne 6, 3, 8, 0, [], 0) :: uX11_ask_6
set_option maxRecDepth 100000 in
theorem jX11_ask_6 : zj pX11_ask 6 = uX11_ask_6 := rfl
set_option maxRecDepth 100000 in
theorem jX11_ask_8 : zj pX11_ask 8 = uX11_ask_8 := rfl
set_option maxRecDepth 100000 in
theorem jX11_ask_17 : zj pX11_ask 17 = uX11_ask_17 := rfl
set_option maxRecDepth 100000 in
theorem jX11_ask_30 : zj pX11_ask 30 = uX11_ask_30 := rfl
set_option maxRecDepth 100000 in
theorem jX11_ask_31 : zj pX11_ask 31 = uX11_ask_31 := rfl
set_option maxRecDepth 100000 in
def uX12_ask_37 : List zEn := (69, .ireturn, 1, 0, 0, [], 0) :: []
set_option maxRecDepth 100000 in
def uX12_ask_36 : List zEn := (67, .ldc 164, 2, 0, 0, [(0, 1490)], (-1000000012)) :: uX12_ask_37
set_option maxRecDepth 100000 in
def uX12_ask_18 : List zEn := (35, .aload_n 0, 1, 0, 0, [], 0) :: (36, .getfield 28, 3, 12, 7, [(0, 2), (0, 1257)], 0) :: (39, .iload_n 1, 1, 1, 0, [], 0) :: (40, .iaload, 1, 0, 0, [], 0) :: (41, .iconst 1, 1, 0, 0, [], 1) :: (42, .if_icmp .ne 25, 3, 36, 0, [], 0) :: (45, .aload_n 0, 1, 0, 0, [], 0) :: (46, .getfield 31, 3, 12, 8, [(0, 2), (0, 1258)], 0) :: (49, .iload_n 1, 1, 1, 0, [], 0) :: (50, .iaload, 1, 0, 0, [], 0) :: (51, .iload_n 2, 1, 2, 0, [], 0) :: (52, .invokestatic 161, 3, 79, 2, [(0, 1), (0, 0), (0, 0), (0, 1487)], 0) :: (55, .ifCond .eq 12, 3, 36, 0, [], 0) :: (58, .aload_n 0, 1, 0, 0, [], 0) :: (59, .getfield 34, 3, 12, 9, [(0, 2), (0, 1259)], 0) :: (62, .iload_n 1, 1, 1, 0, [], 0) :: (63, .iaload, 1, 0, 0, [], 0) :: (64, .goto 5, 3, 37, 0, [], 0) :: uX12_ask_36
set_option maxRecDepth 100000 in
def uX12_ask_11 : List zEn := (22, .aload_n 0, 1, 0, 0, [], 0) :: (23, .getfield 28, 3, 12, 7, [(0, 2), (0, 1257)], 0) :: (26, .iload_n 1, 1, 1, 0, [], 0) :: (27, .iaload, 1, 0, 0, [], 0) :: (28, .ifCond .ne 7, 3, 18, 0, [], 0) :: (31, .ldc_w 335, 3, 0, 0, [(0, 1741)], (-1000000011)) :: (34, .ireturn, 1, 0, 0, [], 0) :: uX12_ask_18
set_option maxRecDepth 100000 in
def uX12_ask_9 : List zEn := (19, .ldc 87, 2, 0, 0, [(0, 1372)], (-1000000001)) :: (21, .ireturn, 1, 0, 0, [], 0) :: uX12_ask_11
set_option maxRecDepth 100000 in
def uX12_ask_0 : List zEn := (0, .iload_n 1, 1, 1, 0, [], 0) :: (1, .invokestatic 343, 3, 246, 1, [(0, 1), (0, 0), (0, 0), (0, 1761)], 0) :: (4, .ifCond .eq 15, 3, 9, 0, [], 0) :: (7, .iload_n 2, 1, 2, 0, [], 0) :: (8, .i2l, 1, 0, 0, [], 0) :: (9, .lconst 0, 1, 0, 0, [], 0) :: (10, .ldc2_w 142, 3, 0, 0, [(0, 1421)], 5) :: (13, .invokestatic 77, 3, 15, 3, [(0, 1), (0, 0), (0, 0), (0, 1368)], 0) :: (16, .ifCond .ne 6, 3, 11, 0, [], 0) :: uX12_ask_9
set_option maxRecDepth 100000 in
theorem jX12_ask_9 : zj pX12_ask 9 = uX12_ask_9 := rfl
set_option maxRecDepth 100000 in
theorem jX12_ask_11 : zj pX12_ask 11 = uX12_ask_11 := rfl
set_option maxRecDepth 100000 in
theorem jX12_ask_18 : zj pX12_ask 18 = uX12_ask_18 := rfl
set_option maxRecDepth 100000 in
theorem jX12_ask_36 : zj pX12_ask 36 = uX12_ask_36 := rfl
set_option maxRecDepth 100000 in
theorem jX12_ask_37 : zj pX12_ask 37 = uX12_ask_37 := rfl
set_option maxRecDepth 100000 in
def uX11_item_42 : List zEn := (78, .ireturn, 1, 0, 0, [], 0) :: []
set_option maxRecDepth 100000 in
def uX11_item_38 : List zEn := (71, .aload 4, 2, 4, 0, [], 0) :: (73, .getfield 316, 3, 5, 2, [(0, 2), (0, 423)], 0) :: (76, .iload_n 2, 1, 2, 0, [], 0) :: (77, .iaload, 1, 0, 0, [], 0) :: uX11_item_42
set_option maxRecDepth 100000 in
def uX11_item_30 : List zEn := (53, .aload 4, 2, 4, 0, [], 0) :: (55, .getfield 316, 3, 5, 2, [(0, 2), (0, 423)], 0) :: (58, .iload_n 2, 1, 2, 0, [], 0) :: (59, .iaload, 1, 0, 0, [], 0) :: (60, .ldc_w 278, 3, 0, 0, [(0, 1055)], (-1000000005)) :: (63, .if_icmp .ne 8, 3, 38, 0, [], 0) :: (66, .ldc 157, 2, 0, 0, [(0, 651)], (-1000000012)) :: (68, .goto 10, 3, 42, 0, [], 0) :: uX11_item_38
set_option maxRecDepth 100000 in
def uX11_item_14 : List zEn := (23, .aload_n 0, 1, 0, 0, [], 0) :: (24, .getfield 52, 3, 11, 8, [(0, 2), (0, 465)], 0) :: (27, .iload_n 1, 1, 1, 0, [], 0) :: (28, .aaload, 1, 0, 0, [], 0) :: (29, .getfield 354, 3, 7, 3, [(0, 2), (0, 447)], 0) :: (32, .astore 4, 2, 4, 0, [], 0) :: (34, .iload_n 2, 1, 2, 0, [], 0) :: (35, .iconst 0, 1, 0, 0, [], 0) :: (36, .aload 4, 2, 4, 0, [], 0) :: (38, .getfield 310, 3, 5, 1, [(0, 0), (0, 421)], 0) :: (41, .iconst 1, 1, 0, 0, [], 1) :: (42, .isub, 1, 0, 0, [], 0) :: (43, .invokestatic 68, 3, 12, 3, [(0, 1), (0, 0), (0, 0), (0, 495)], 0) :: (46, .ifCond .ne 7, 3, 30, 0, [], 0) :: (49, .ldc_w 313, 3, 0, 0, [(0, 1131)], (-1000000013)) :: (52, .ireturn, 1, 0, 0, [], 0) :: uX11_item_30
set_option maxRecDepth 100000 in
def uX11_item_5 : List zEn := (10, .aload_n 0, 1, 0, 0, [], 0) :: (11, .iload_n 1, 1, 1, 0, [], 0) :: (12, .iconst 2, 1, 0, 0, [], 2) :: (13, .invokevirtual 364, 3, 248, 3, [(0, 1), (0, 0), (0, 0), (0, 11), (0, 1177)], 0) :: (16, .istore_n 3, 1, 3, 0, [], 0) :: (17, .iload_n 3, 1, 3, 0, [], 0) :: (18, .ifCond .eq 5, 3, 14, 0, [], 0) :: (21, .iload_n 3, 1, 3, 0, [], 0) :: (22, .ireturn, 1, 0, 0, [], 0) :: uX11_item_14
set_option maxRecDepth 100000 in
def uX11_item_0 : List zEn := (0, .iload_n 1, 1, 1, 0, [], 0) :: (1, .invokestatic 337, 3, 241, 1, [(0, 1), (0, 0), (0, 0), (0, 1157)], 0) :: (4, .ifCond .ne 6, 3, 5, 0, [], 0) :: (7, .ldc 75, 2, 0, 0, [(0, 498)], (-1000000001)) :: (9, .ireturn, 1, 0, 0, [], 0) :: uX11_item_5
set_option maxRecDepth 100000 in
theorem jX11_item_5 : zj pX11_item 5 = uX11_item_5 := rfl
set_option maxRecDepth 100000 in
theorem jX11_item_14 : zj pX11_item 14 = uX11_item_14 := rfl
set_option maxRecDepth 100000 in
theorem jX11_item_30 : zj pX11_item 30 = uX11_item_30 := rfl
set_option maxRecDepth 100000 in
theorem jX11_item_38 : zj pX11_item 38 = uX11_item_38 := rfl
set_option maxRecDepth 100000 in
theorem jX11_item_42 : zj pX11_item 42 = uX11_item_42 := rfl
set_option maxRecDepth 100000 in
def uX12_item_49 : List zEn := (84, .ireturn, 1, 0, 0, [], 0) :: []
set_option maxRecDepth 100000 in
def uX12_item_48 : List zEn := (83, .iload_n 3, 1, 3, 0, [], 0) :: uX12_item_49
set_option maxRecDepth 100000 in
def uX12_item_34 : List zEn := (60, .aload_n 0, 1, 0, 0, [], 0) :: (61, .getfield 40, 3, 12, 11, [(0, 2), (0, 1261)], 0) :: (64, .bipush 24, 2, 0, 0, [], 24) :: (66, .iload_n 1, 1, 1, 0, [], 0) :: (67, .imul, 1, 0, 0, [], 0) :: (68, .iload_n 2, 1, 2, 0, [], 0) :: (69, .iadd, 1, 0, 0, [], 0) :: (70, .iaload, 1, 0, 0, [], 0) :: (71, .istore_n 3, 1, 3, 0, [], 0) :: (72, .iload_n 3, 1, 3, 0, [], 0) :: (73, .ldc 76, 2, 0, 0, [(0, 1463)], (-1000000005)) :: (75, .if_icmp .ne 8, 3, 48, 0, [], 0) :: (78, .ldc 164, 2, 0, 0, [(0, 1490)], (-1000000012)) :: (80, .goto 4, 3, 49, 0, [], 0) :: uX12_item_48
set_option maxRecDepth 100000 in
def uX12_item_20 : List zEn := (38, .iload_n 2, 1, 2, 0, [], 0) :: (39, .i2l, 1, 0, 0, [], 0) :: (40, .lconst 0, 1, 0, 0, [], 0) :: (41, .aload_n 0, 1, 0, 0, [], 0) :: (42, .getfield 37, 3, 12, 10, [(0, 2), (0, 1260)], 0) :: (45, .iload_n 1, 1, 1, 0, [], 0) :: (46, .iaload, 1, 0, 0, [], 0) :: (47, .iconst 1, 1, 0, 0, [], 1) :: (48, .isub, 1, 0, 0, [], 0) :: (49, .i2l, 1, 0, 0, [], 0) :: (50, .invokestatic 77, 3, 15, 3, [(0, 1), (0, 0), (0, 0), (0, 1368)], 0) :: (53, .ifCond .ne 7, 3, 34, 0, [], 0) :: (56, .ldc_w 336, 3, 0, 0, [(0, 1742)], (-1000000013)) :: (59, .ireturn, 1, 0, 0, [], 0) :: uX12_item_34
set_option maxRecDepth 100000 in
def uX12_item_19 : List zEn := (37, .ireturn, 1, 0, 0, [], 0) :: uX12_item_20
set_option maxRecDepth 100000 in
def uX12_item_18 : List zEn := (35, .ldc 164, 2, 0, 0, [(0, 1490)], (-1000000012)) :: uX12_item_19
set_option maxRecDepth 100000 in
def uX12_item_5 : List zEn := (10, .aload_n 0, 1, 0, 0, [], 0) :: (11, .getfield 28, 3, 12, 7, [(0, 2), (0, 1257)], 0) :: (14, .iload_n 1, 1, 1, 0, [], 0) :: (15, .iaload, 1, 0, 0, [], 0) :: (16, .iconst 2, 1, 0, 0, [], 2) :: (17, .if_icmp .eq 21, 3, 20, 0, [], 0) :: (20, .aload_n 0, 1, 0, 0, [], 0) :: (21, .getfield 28, 3, 12, 7, [(0, 2), (0, 1257)], 0) :: (24, .iload_n 1, 1, 1, 0, [], 0) :: (25, .iaload, 1, 0, 0, [], 0) :: (26, .ifCond .ne 9, 3, 18, 0, [], 0) :: (29, .ldc_w 335, 3, 0, 0, [(0, 1741)], (-1000000011)) :: (32, .goto 5, 3, 19, 0, [], 0) :: uX12_item_18
set_option maxRecDepth 100000 in
def uX12_item_0 : List zEn := (0, .iload_n 1, 1, 1, 0, [], 0) :: (1, .invokestatic 343, 3, 246, 1, [(0, 1), (0, 0), (0, 0), (0, 1761)], 0) :: (4, .ifCond .ne 6, 3, 5, 0, [], 0) :: (7, .ldc 87, 2, 0, 0, [(0, 1372)], (-1000000001)) :: (9, .ireturn, 1, 0, 0, [], 0) :: uX12_item_5
set_option maxRecDepth 100000 in
theorem jX12_item_5 : zj pX12_item 5 = uX12_item_5 := rfl
set_option maxRecDepth 100000 in
theorem jX12_item_18 : zj pX12_item 18 = uX12_item_18 := rfl
set_option maxRecDepth 100000 in
theorem jX12_item_19 : zj pX12_item 19 = uX12_item_19 := rfl
set_option maxRecDepth 100000 in
theorem jX12_item_20 : zj pX12_item 20 = uX12_item_20 := rfl
set_option maxRecDepth 100000 in
theorem jX12_item_34 : zj pX12_item 34 = uX12_item_34 := rfl
set_option maxRecDepth 100000 in
theorem jX12_item_48 : zj pX12_item 48 = uX12_item_48 := rfl
set_option maxRecDepth 100000 in
theorem jX12_item_49 : zj pX12_item 49 = uX12_item_49 := rfl
set_option maxRecDepth 100000 in
def uX11_rest_25 : List zEn := (43, .ireturn, 1, 0, 0, [], 0) :: []
set_option maxRecDepth 100000 in
def uX11_rest_18 : List zEn := (32, .aload_n 0, 1, 0, 0, [], 0) :: (33, .getfield 52, 3, 11, 8, [(0, 2), (0, 465)], 0) :: (36, .iload_n 1, 1, 1, 0, [], 0) :: (37, .aaload, 1, 0, 0, [], 0) :: (38, .getfield 361, 3, 7, 1, [(0, 0), (0, 443)], 0) :: (41, .iload_n 2, 1, 2, 0, [], 0) :: (42, .irem, 1, 0, 0, [], 0) :: uX11_rest_25
set_option maxRecDepth 100000 in
def uX11_rest_14 : List zEn := (23, .iload_n 2, 1, 2, 0, [], 0) :: (24, .ifCond .ne 8, 3, 18, 0, [], 0) :: (27, .ldc 184, 2, 0, 0, [(0, 722)], (-1000000002)) :: (29, .goto 14, 3, 25, 0, [], 0) :: uX11_rest_18
set_option maxRecDepth 100000 in
def uX11_rest_5 : List zEn := (10, .aload_n 0, 1, 0, 0, [], 0) :: (11, .iload_n 1, 1, 1, 0, [], 0) :: (12, .iconst 3, 1, 0, 0, [], 3) :: (13, .invokevirtual 364, 3, 248, 3, [(0, 1), (0, 0), (0, 0), (0, 11), (0, 1177)], 0) :: (16, .istore_n 3, 1, 3, 0, [], 0) :: (17, .iload_n 3, 1, 3, 0, [], 0) :: (18, .ifCond .eq 5, 3, 14, 0, [], 0) :: (21, .iload_n 3, 1, 3, 0, [], 0) :: (22, .ireturn, 1, 0, 0, [], 0) :: uX11_rest_14
set_option maxRecDepth 100000 in
def uX11_rest_0 : List zEn := (0, .iload_n 1, 1, 1, 0, [], 0) :: (1, .invokestatic 337, 3, 241, 1, [(0, 1), (0, 0), (0, 0), (0, 1157)], 0) :: (4, .ifCond .ne 6, 3, 5, 0, [], 0) :: (7, .ldc 75, 2, 0, 0, [(0, 498)], (-1000000001)) :: (9, .ireturn, 1, 0, 0, [], 0) :: uX11_rest_5
set_option maxRecDepth 100000 in
theorem jX11_rest_5 : zj pX11_rest 5 = uX11_rest_5 := rfl
set_option maxRecDepth 100000 in
theorem jX11_rest_14 : zj pX11_rest 14 = uX11_rest_14 := rfl
set_option maxRecDepth 100000 in
theorem jX11_rest_18 : zj pX11_rest 18 = uX11_rest_18 := rfl
set_option maxRecDepth 100000 in
theorem jX11_rest_25 : zj pX11_rest 25 = uX11_rest_25 := rfl
set_option maxRecDepth 100000 in
def uX12_rest_30 : List zEn := (55, .ireturn, 1, 0, 0, [], 0) :: []
set_option maxRecDepth 100000 in
def uX12_rest_24 : List zEn := (47, .aload_n 0, 1, 0, 0, [], 0) :: (48, .getfield 31, 3, 12, 8, [(0, 2), (0, 1258)], 0) :: (51, .iload_n 1, 1, 1, 0, [], 0) :: (52, .iaload, 1, 0, 0, [], 0) :: (53, .iload_n 2, 1, 2, 0, [], 0) :: (54, .irem, 1, 0, 0, [], 0) :: uX12_rest_30
set_option maxRecDepth 100000 in
def uX12_rest_20 : List zEn := (38, .iload_n 2, 1, 2, 0, [], 0) :: (39, .ifCond .ne 8, 3, 24, 0, [], 0) :: (42, .ldc 180, 2, 0, 0, [(0, 1520)], (-1000000002)) :: (44, .goto 11, 3, 30, 0, [], 0) :: uX12_rest_24
set_option maxRecDepth 100000 in
def uX12_rest_19 : List zEn := (37, .ireturn, 1, 0, 0, [], 0) :: uX12_rest_20
set_option maxRecDepth 100000 in
def uX12_rest_18 : List zEn := (35, .ldc 164, 2, 0, 0, [(0, 1490)], (-1000000012)) :: uX12_rest_19
set_option maxRecDepth 100000 in
def uX12_rest_5 : List zEn := (10, .aload_n 0, 1, 0, 0, [], 0) :: (11, .getfield 28, 3, 12, 7, [(0, 2), (0, 1257)], 0) :: (14, .iload_n 1, 1, 1, 0, [], 0) :: (15, .iaload, 1, 0, 0, [], 0) :: (16, .iconst 3, 1, 0, 0, [], 3) :: (17, .if_icmp .eq 21, 3, 20, 0, [], 0) :: (20, .aload_n 0, 1, 0, 0, [], 0) :: (21, .getfield 28, 3, 12, 7, [(0, 2), (0, 1257)], 0) :: (24, .iload_n 1, 1, 1, 0, [], 0) :: (25, .iaload, 1, 0, 0, [], 0) :: (26, .ifCond .ne 9, 3, 18, 0, [], 0) :: (29, .ldc_w 335, 3, 0, 0, [(0, 1741)], (-1000000011)) :: (32, .goto 5, 3, 19, 0, [], 0) :: uX12_rest_18
set_option maxRecDepth 100000 in
def uX12_rest_0 : List zEn := (0, .iload_n 1, 1, 1, 0, [], 0) :: (1, .invokestatic 343, 3, 246, 1, [(0, 1), (0, 0), (0, 0), (0, 1761)], 0) :: (4, .ifCond .ne 6, 3, 5, 0, [], 0) :: (7, .ldc 87, 2, 0, 0, [(0, 1372)], (-1000000001)) :: (9, .ireturn, 1, 0, 0, [], 0) :: uX12_rest_5
set_option maxRecDepth 100000 in
theorem jX12_rest_5 : zj pX12_rest 5 = uX12_rest_5 := rfl
set_option maxRecDepth 100000 in
theorem jX12_rest_18 : zj pX12_rest 18 = uX12_rest_18 := rfl
set_option maxRecDepth 100000 in
theorem jX12_rest_19 : zj pX12_rest 19 = uX12_rest_19 := rfl
set_option maxRecDepth 100000 in
theorem jX12_rest_20 : zj pX12_rest 20 = uX12_rest_20 := rfl
set_option maxRecDepth 100000 in
theorem jX12_rest_24 : zj pX12_rest 24 = uX12_rest_24 := rfl
set_option maxRecDepth 100000 in
theorem jX12_rest_30 : zj pX12_rest 30 = uX12_rest_30 := rfl
set_option maxRecDepth 100000 in
def uX11_tell_6 : List zEn := (12, .aload_n 0, 1, 0, 0, [], 0) :: (13, .getfield 56, 3, 11, 9, [(0, 2), (0, 466)], 0) :: (16, .aload_n 0, 1, 0, 0, [], 0) :: (17, .getfield 59, 3, 11, 10, [(0, 0), (0, 467)], 0) :: (20, .iload_n 1, 1, 1, 0, [], 0) :: (21, .iastore, 1, 0, 0, [], 0) :: (22, .aload_n 0, 1, 0, 0, [], 0) :: (23, .dup, 1, 0, 0, [], 0) :: (24, .getfield 59, 3, 11, 10, [(0, 0), (0, 467)], 0) :: (27, .iconst 1, 1, 0, 0, [], 1) :: (28, .iadd, 1, 0, 0, [], 0) :: (29, .putfield 59, 3, 11, 10, [(0, 0), (0, 467)], 0) :: (32, .aload_n 0, 1, 0, 0, [], 0) :: (33, .getfield 59, 3, 11, 10, [(0, 0), (0, 467)], 0) :: (36, .ireturn, 1, 0, 0, [], 0) :: []
set_option maxRecDepth 100000 in
def uX11_tell_0 : List zEn := (0, .aload_n 0, 1, 0, 0, [], 0) :: (1, .getfield 59, 3, 11, 10, [(0, 0), (0, 467)], 0) :: (4, .bipush 60, 2, 0, 0, [], 60) :: (6, .if_icmp .lt 6, 3, 6, 0, [], 0) :: (9, .ldc 76, 2, 0, 0, [(0, 499)], (-1000000003)) :: (11, .ireturn, 1, 0, 0, [], 0) :: uX11_tell_6
set_option maxRecDepth 100000 in
theorem jX11_tell_6 : zj pX11_tell 6 = uX11_tell_6 := rfl
set_option maxRecDepth 100000 in
def uX12_tell_6 : List zEn := (12, .aload_n 0, 1, 0, 0, [], 0) :: (13, .getfield 70, 3, 12, 34, [(0, 2), (0, 1284)], 0) :: (16, .aload_n 0, 1, 0, 0, [], 0) :: (17, .getfield 346, 3, 12, 35, [(0, 0), (0, 1285)], 0) :: (20, .iload_n 1, 1, 1, 0, [], 0) :: (21, .iastore, 1, 0, 0, [], 0) :: (22, .aload_n 0, 1, 0, 0, [], 0) :: (23, .dup, 1, 0, 0, [], 0) :: (24, .getfield 346, 3, 12, 35, [(0, 0), (0, 1285)], 0) :: (27, .iconst 1, 1, 0, 0, [], 1) :: (28, .iadd, 1, 0, 0, [], 0) :: (29, .putfield 346, 3, 12, 35, [(0, 0), (0, 1285)], 0) :: (32, .aload_n 0, 1, 0, 0, [], 0) :: (33, .getfield 346, 3, 12, 35, [(0, 0), (0, 1285)], 0) :: (36, .ireturn, 1, 0, 0, [], 0) :: []
set_option maxRecDepth 100000 in
def uX12_tell_0 : List zEn := (0, .aload_n 0, 1, 0, 0, [], 0) :: (1, .getfield 346, 3, 12, 35, [(0, 0), (0, 1285)], 0) :: (4, .bipush 60, 2, 0, 0, [], 60) :: (6, .if_icmp .ne 6, 3, 6, 0, [], 0) :: (9, .ldc 88, 2, 0, 0, [(0, 1373)], (-1000000003)) :: (11, .ireturn, 1, 0, 0, [], 0) :: uX12_tell_6
set_option maxRecDepth 100000 in
theorem jX12_tell_6 : zj pX12_tell 6 = uX12_tell_6 := rfl
set_option maxRecDepth 100000 in
def uX2_become_0 : List zEn := (0, .aload_n 0, 1, 0, 0, [], 0) :: (1, .aload_n 1, 1, 1, 0, [], 0) :: (2, .getfield 7, 3, 2, 0, [(0, 0), (0, 192)], 0) :: (5, .putfield 7, 3, 2, 0, [(0, 0), (0, 192)], 0) :: (8, .aload_n 0, 1, 0, 0, [], 0) :: (9, .aload_n 1, 1, 1, 0, [], 0) :: (10, .getfield 13, 3, 2, 1, [(0, 0), (0, 194)], 0) :: (13, .putfield 13, 3, 2, 1, [(0, 0), (0, 194)], 0) :: (16, .aload_n 0, 1, 0, 0, [], 0) :: (17, .aload_n 1, 1, 1, 0, [], 0) :: (18, .getfield 16, 3, 2, 2, [(0, 0), (0, 196)], 0) :: (21, .putfield 16, 3, 2, 2, [(0, 0), (0, 196)], 0) :: (24, .return_, 1, 0, 0, [], 0) :: []
set_option maxRecDepth 100000 in
def uX1_become_16 : List zEn := (26, .aload_n 0, 1, 0, 0, [], 0) :: (27, .aload_n 1, 1, 1, 0, [], 0) :: (28, .getfield 17, 3, 1, 1, [(0, 0), (0, 150)], 0) :: (31, .putfield 17, 3, 1, 1, [(0, 0), (0, 150)], 0) :: (34, .aload_n 1, 1, 1, 0, [], 0) :: (35, .getfield 22, 3, 1, 2, [(0, 2), (0, 152)], 0) :: (38, .iconst 0, 1, 0, 0, [], 0) :: (39, .aload_n 0, 1, 0, 0, [], 0) :: (40, .getfield 22, 3, 1, 2, [(0, 2), (0, 152)], 0) :: (43, .iconst 0, 1, 0, 0, [], 0) :: (44, .iconst 3, 1, 0, 0, [], 3) :: (45, .invokestatic 29, 3, 1212, 0, [], 0) :: (48, .return_, 1, 0, 0, [], 0) :: []
set_option maxRecDepth 100000 in
def uX1_become_3 : List zEn := (2, .iload_n 2, 1, 2, 0, [], 0) :: (3, .bipush 14, 2, 0, 0, [], 14) :: (5, .if_icmp .ge 21, 3, 16, 0, [], 0) :: (8, .aload_n 0, 1, 0, 0, [], 0) :: (9, .getfield 11, 3, 1, 0, [(0, 2), (0, 148)], 0) :: (12, .iload_n 2, 1, 2, 0, [], 0) :: (13, .aload_n 1, 1, 1, 0, [], 0) :: (14, .getfield 11, 3, 1, 0, [(0, 2), (0, 148)], 0) :: (17, .iload_n 2, 1, 2, 0, [], 0) :: (18, .aaload, 1, 0, 0, [], 0) :: (19, .aastore, 1, 0, 0, [], 0) :: (20, .iinc 2 1, 3, 2, 0, [], 1) :: (23, .goto (-21), 3, 2, 0, [], 0) :: uX1_become_16
set_option maxRecDepth 100000 in
def tX1_become_3 : List zEn := uX1_become_3
set_option maxRecDepth 100000 in
def uX1_become_2 : List zEn := (2, .nop, 0, 0, 0, [], 0) :: tX1_become_3
set_option maxRecDepth 100000 in
def uX1_become_0 : List zEn := (0, .iconst 0, 1, 0, 0, [], 0) :: (1, .istore_n 2, 1, 2, 0, [], 0) :: uX1_become_2
set_option maxRecDepth 100000 in
theorem jX1_become_2 : zj pX1_become 2 = uX1_become_2 := rfl
set_option maxRecDepth 100000 in
theorem jX1_become_16 : zj pX1_become 16 = uX1_become_16 := rfl
set_option maxRecDepth 100000 in
def uX0_become_0 : List zEn := (0, .aload_n 1, 1, 1, 0, [], 0) :: (1, .getfield 9, 3, 0, 0, [(0, 2), (0, 170)], 0) :: (4, .iconst 0, 1, 0, 0, [], 0) :: (5, .aload_n 0, 1, 0, 0, [], 0) :: (6, .getfield 9, 3, 0, 0, [(0, 2), (0, 170)], 0) :: (9, .iconst 0, 1, 0, 0, [], 0) :: (10, .bipush 8, 2, 0, 0, [], 8) :: (12, .invokestatic 25, 3, 1217, 0, [], 0) :: (15, .aload_n 1, 1, 1, 0, [], 0) :: (16, .getfield 15, 3, 0, 1, [(0, 2), (0, 172)], 0) :: (19, .iconst 0, 1, 0, 0, [], 0) :: (20, .aload_n 0, 1, 0, 0, [], 0) :: (21, .getfield 15, 3, 0, 1, [(0, 2), (0, 172)], 0) :: (24, .iconst 0, 1, 0, 0, [], 0) :: (25, .bipush 8, 2, 0, 0, [], 8) :: (27, .invokestatic 25, 3, 1217, 0, [], 0) :: (30, .aload_n 0, 1, 0, 0, [], 0) :: (31, .aload_n 1, 1, 1, 0, [], 0) :: (32, .getfield 18, 3, 0, 2, [(0, 0), (0, 174)], 0) :: (35, .putfield 18, 3, 0, 2, [(0, 0), (0, 174)], 0) :: (38, .aload_n 0, 1, 0, 0, [], 0) :: (39, .aload_n 1, 1, 1, 0, [], 0) :: (40, .getfield 22, 3, 0, 3, [(0, 0), (0, 176)], 0) :: (43, .putfield 22, 3, 0, 3, [(0, 0), (0, 176)], 0) :: (46, .return_, 1, 0, 0, [], 0) :: []
set_option maxRecDepth 100000 in
def uX6_become_43 : List zEn := (77, .aload_n 0, 1, 0, 0, [], 0) :: (78, .aload_n 1, 1, 1, 0, [], 0) :: (79, .getfield 34, 3, 6, 4, [(0, 0), (0, 280)], 0) :: (82, .putfield 34, 3, 6, 4, [(0, 0), (0, 280)], 0) :: (85, .aload_n 1, 1, 1, 0, [], 0) :: (86, .getfield 37, 3, 6, 5, [(0, 2), (0, 282)], 0) :: (89, .iconst 0, 1, 0, 0, [], 0) :: (90, .aload_n 0, 1, 0, 0, [], 0) :: (91, .getfield 37, 3, 6, 5, [(0, 2), (0, 282)], 0) :: (94, .iconst 0, 1, 0, 0, [], 0) :: (95, .bipush 6, 2, 0, 0, [], 6) :: (97, .invokestatic 79, 3, 1207, 0, [], 0) :: (100, .aload_n 0, 1, 0, 0, [], 0) :: (101, .aload_n 1, 1, 1, 0, [], 0) :: (102, .getfield 41, 3, 6, 6, [(0, 0), (0, 285)], 0) :: (105, .putfield 41, 3, 6, 6, [(0, 0), (0, 285)], 0) :: (108, .aload_n 0, 1, 0, 0, [], 0) :: (109, .getfield 47, 3, 6, 7, [(0, 2), (0, 288)], 0) :: (112, .aload_n 1, 1, 1, 0, [], 0) :: (113, .getfield 47, 3, 6, 7, [(0, 2), (0, 288)], 0) :: (116, .invokevirtual 85, 3, 258, 2, [(0, 0), (0, 0), (0, 0), (0, 1), (0, 1208)], 0) :: (119, .aload_n 0, 1, 0, 0, [], 0) :: (120, .getfield 54, 3, 6, 8, [(0, 2), (0, 290)], 0) :: (123, .aload_n 1, 1, 1, 0, [], 0) :: (124, .getfield 54, 3, 6, 8, [(0, 2), (0, 290)], 0) :: (127, .invokevirtual 88, 3, 259, 2, [(0, 0), (0, 0), (0, 0), (0, 0), (0, 1213)], 0) :: (130, .aload_n 0, 1, 0, 0, [], 0) :: (131, .aload_n 1, 1, 1, 0, [], 0) :: (132, .getfield 58, 3, 6, 9, [(0, 0), (0, 292)], 0) :: (135, .putfield 58, 3, 6, 9, [(0, 0), (0, 292)], 0) :: (138, .aload_n 0, 1, 0, 0, [], 0) :: (139, .aload_n 1, 1, 1, 0, [], 0) :: (140, .getfield 61, 3, 6, 10, [(0, 0), (0, 294)], 0) :: (143, .putfield 61, 3, 6, 10, [(0, 0), (0, 294)], 0) :: (146, .aload_n 0, 1, 0, 0, [], 0) :: (147, .aload_n 1, 1, 1, 0, [], 0) :: (148, .getfield 64, 3, 6, 11, [(0, 0), (0, 296)], 0) :: (151, .putfield 64, 3, 6, 11, [(0, 0), (0, 296)], 0) :: (154, .return_, 1, 0, 0, [], 0) :: []
set_option maxRecDepth 100000 in
def uX6_become_29 : List zEn := (50, .iload_n 2, 1, 2, 0, [], 0) :: (51, .bipush 16, 2, 0, 0, [], 16) :: (53, .if_icmp .ge 24, 3, 43, 0, [], 0) :: (56, .aload_n 0, 1, 0, 0, [], 0) :: (57, .getfield 30, 3, 6, 3, [(0, 2), (0, 277)], 0) :: (60, .iload_n 2, 1, 2, 0, [], 0) :: (61, .aaload, 1, 0, 0, [], 0) :: (62, .aload_n 1, 1, 1, 0, [], 0) :: (63, .getfield 30, 3, 6, 3, [(0, 2), (0, 277)], 0) :: (66, .iload_n 2, 1, 2, 0, [], 0) :: (67, .aaload, 1, 0, 0, [], 0) :: (68, .invokevirtual 76, 3, 243, 2, [(0, 0), (0, 0), (0, 0), (0, 3), (0, 1206)], 0) :: (71, .iinc 2 1, 3, 2, 0, [], 1) :: (74, .goto (-24), 3, 28, 0, [], 0) :: uX6_become_43
set_option maxRecDepth 100000 in
def tX6_become_29 : List zEn := uX6_become_29
set_option maxRecDepth 100000 in
def uX6_become_28 : List zEn := (50, .nop, 0, 0, 0, [], 0) :: tX6_become_29
set_option maxRecDepth 100000 in
def uX6_become_17 : List zEn := (29, .aload_n 0, 1, 0, 0, [], 0) :: (30, .aload_n 1, 1, 1, 0, [], 0) :: (31, .getfield 17, 3, 6, 1, [(0, 0), (0, 272)], 0) :: (34, .putfield 17, 3, 6, 1, [(0, 0), (0, 272)], 0) :: (37, .aload_n 0, 1, 0, 0, [], 0) :: (38, .getfield 24, 3, 6, 2, [(0, 2), (0, 274)], 0) :: (41, .aload_n 1, 1, 1, 0, [], 0) :: (42, .getfield 24, 3, 6, 2, [(0, 2), (0, 274)], 0) :: (45, .invokevirtual 73, 3, 119, 2, [(0, 0), (0, 0), (0, 0), (0, 8), (0, 1205)], 0) :: (48, .iconst 0, 1, 0, 0, [], 0) :: (49, .istore_n 2, 1, 2, 0, [], 0) :: uX6_become_28
set_option maxRecDepth 100000 in
def uX6_become_3 : List zEn := (2, .iload_n 2, 1, 2, 0, [], 0) :: (3, .bipush 6, 2, 0, 0, [], 6) :: (5, .if_icmp .ge 24, 3, 17, 0, [], 0) :: (8, .aload_n 0, 1, 0, 0, [], 0) :: (9, .getfield 11, 3, 6, 0, [(0, 2), (0, 270)], 0) :: (12, .iload_n 2, 1, 2, 0, [], 0) :: (13, .aaload, 1, 0, 0, [], 0) :: (14, .aload_n 1, 1, 1, 0, [], 0) :: (15, .getfield 11, 3, 6, 0, [(0, 2), (0, 270)], 0) :: (18, .iload_n 2, 1, 2, 0, [], 0) :: (19, .aaload, 1, 0, 0, [], 0) :: (20, .invokevirtual 69, 3, 257, 2, [(0, 0), (0, 0), (0, 0), (0, 2), (0, 1201)], 0) :: (23, .iinc 2 1, 3, 2, 0, [], 1) :: (26, .goto (-24), 3, 2, 0, [], 0) :: uX6_become_17
set_option maxRecDepth 100000 in
def tX6_become_3 : List zEn := uX6_become_3
set_option maxRecDepth 100000 in
def uX6_become_2 : List zEn := (2, .nop, 0, 0, 0, [], 0) :: tX6_become_3
set_option maxRecDepth 100000 in
def uX6_become_0 : List zEn := (0, .iconst 0, 1, 0, 0, [], 0) :: (1, .istore_n 2, 1, 2, 0, [], 0) :: uX6_become_2
set_option maxRecDepth 100000 in
theorem jX6_become_2 : zj pX6_become 2 = uX6_become_2 := rfl
set_option maxRecDepth 100000 in
theorem jX6_become_17 : zj pX6_become 17 = uX6_become_17 := rfl
set_option maxRecDepth 100000 in
theorem jX6_become_28 : zj pX6_become 28 = uX6_become_28 := rfl
set_option maxRecDepth 100000 in
theorem jX6_become_43 : zj pX6_become 43 = uX6_become_43 := rfl
set_option maxRecDepth 100000 in
def uX6_worthOnHand_26 : List zEn := (43, .iload_n 1, 1, 1, 0, [], 0) :: (44, .ireturn, 1, 0, 0, [], 0) :: []
set_option maxRecDepth 100000 in
def uX6_worthOnHand_24 : List zEn := (37, .iinc 2 1, 3, 2, 0, [], 1) :: (40, .goto (-36), 3, 4, 0, [], 0) :: uX6_worthOnHand_26
set_option maxRecDepth 100000 in
def uX6_worthOnHand_5 : List zEn := (4, .iload_n 2, 1, 2, 0, [], 0) :: (5, .aload_n 0, 1, 0, 0, [], 0) :: (6, .getfield 34, 3, 6, 4, [(0, 0), (0, 280)], 0) :: (9, .if_icmp .ge 34, 3, 26, 0, [], 0) :: (12, .aload_n 0, 1, 0, 0, [], 0) :: (13, .getfield 30, 3, 6, 3, [(0, 2), (0, 277)], 0) :: (16, .iload_n 2, 1, 2, 0, [], 0) :: (17, .aaload, 1, 0, 0, [], 0) :: (18, .invokevirtual 198, 3, 108, 1, [(0, 1), (0, 0), (0, 0), (0, 3), (0, 1222)], 0) :: (21, .ifCond .eq 16, 3, 24, 0, [], 0) :: (24, .iload_n 1, 1, 1, 0, [], 0) :: (25, .aload_n 0, 1, 0, 0, [], 0) :: (26, .aload_n 0, 1, 0, 0, [], 0) :: (27, .getfield 30, 3, 6, 3, [(0, 2), (0, 277)], 0) :: (30, .iload_n 2, 1, 2, 0, [], 0) :: (31, .aaload, 1, 0, 0, [], 0) :: (32, .invokevirtual 181, 3, 52, 2, [(0, 1), (0, 0), (0, 0), (0, 6), (0, 713)], 0) :: (35, .iadd, 1, 0, 0, [], 0) :: (36, .istore_n 1, 1, 1, 0, [], 0) :: uX6_worthOnHand_24
set_option maxRecDepth 100000 in
def tX6_worthOnHand_5 : List zEn := uX6_worthOnHand_5
set_option maxRecDepth 100000 in
def uX6_worthOnHand_4 : List zEn := (4, .nop, 0, 0, 0, [], 0) :: tX6_worthOnHand_5
set_option maxRecDepth 100000 in
def uX6_worthOnHand_0 : List zEn := (0, .iconst 0, 1, 0, 0, [], 0) :: (1, .istore_n 1, 1, 1, 0, [], 0) :: (2, .iconst 0, 1, 0, 0, [], 0) :: (3, .istore_n 2, 1, 2, 0, [], 0) :: uX6_worthOnHand_4
set_option maxRecDepth 100000 in
theorem jX6_worthOnHand_4 : zj pX6_worthOnHand 4 = uX6_worthOnHand_4 := rfl
set_option maxRecDepth 100000 in
theorem jX6_worthOnHand_24 : zj pX6_worthOnHand 24 = uX6_worthOnHand_24 := rfl
set_option maxRecDepth 100000 in
theorem jX6_worthOnHand_26 : zj pX6_worthOnHand 26 = uX6_worthOnHand_26 := rfl
set_option maxRecDepth 100000 in
def uX11_isTold_16 : List zEn := (26, .ireturn, 1, 1, 0, [], 0) :: []
set_option maxRecDepth 100000 in
def uX11_isTold_15 : List zEn := (25, .iconst 0, 1, 0, 0, [], 0) :: uX11_isTold_16
set_option maxRecDepth 100000 in
def uX11_isTold_0 : List zEn := (0, .iload_n 1, 1, 1, 0, [], 0) :: (1, .iconst 0, 1, 0, 0, [], 0) :: (2, .iload_n 2, 1, 2, 0, [], 0) :: (3, .iconst 1, 1, 0, 0, [], 1) :: (4, .isub, 1, 0, 0, [], 0) :: (5, .invokestatic 68, 3, 12, 3, [(0, 1), (0, 0), (0, 0), (0, 495)], 0) :: (8, .ifCond .eq 17, 3, 15, 0, [], 0) :: (11, .aload_n 0, 1, 0, 0, [], 0) :: (12, .getfield 56, 3, 11, 9, [(0, 2), (0, 466)], 0) :: (15, .iload_n 1, 1, 1, 0, [], 0) :: (16, .iaload, 1, 0, 0, [], 0) :: (17, .iload_n 3, 1, 3, 0, [], 0) :: (18, .if_icmp .ne 7, 3, 15, 0, [], 0) :: (21, .iconst 1, 1, 0, 0, [], 1) :: (22, .goto 4, 3, 16, 0, [], 0) :: uX11_isTold_15
set_option maxRecDepth 100000 in
theorem jX11_isTold_15 : zj pX11_isTold 15 = uX11_isTold_15 := rfl
set_option maxRecDepth 100000 in
theorem jX11_isTold_16 : zj pX11_isTold 16 = uX11_isTold_16 := rfl
set_option maxRecDepth 100000 in
def uX11_proves_76 : List zEn := (128, .ireturn, 1, 0, 0, [], 0) :: []
set_option maxRecDepth 100000 in
def uX11_proves_75 : List zEn := (127, .iconst 0, 1, 0, 0, [], 0) :: uX11_proves_76
set_option maxRecDepth 100000 in
def uX11_proves_64 : List zEn := (112, .iload_n 2, 1, 2, 0, [], 0) :: (113, .iconst 2, 1, 0, 0, [], 2) :: (114, .iload_n 1, 1, 1, 0, [], 0) :: (115, .imul, 1, 0, 0, [], 0) :: (116, .if_icmp .le 11, 3, 75, 0, [], 0) :: (119, .iconst 1, 1, 0, 0, [], 1) :: (120, .iconst 2, 1, 0, 0, [], 2) :: (121, .iload_n 1, 1, 1, 0, [], 0) :: (122, .imul, 1, 0, 0, [], 0) :: (123, .iadd, 1, 0, 0, [], 0) :: (124, .goto 4, 3, 76, 0, [], 0) :: uX11_proves_75
set_option maxRecDepth 100000 in
def uX11_proves_62 : List zEn := (106, .iinc 3 2, 3, 3, 0, [], 2) :: (109, .goto (-63), 3, 25, 0, [], 0) :: uX11_proves_64
set_option maxRecDepth 100000 in
def uX11_proves_47 : List zEn := (81, .aload_n 0, 1, 0, 0, [], 0) :: (82, .iload_n 3, 1, 3, 0, [], 0) :: (83, .iconst 1, 1, 0, 0, [], 1) :: (84, .iadd, 1, 0, 0, [], 0) :: (85, .iload_n 2, 1, 2, 0, [], 0) :: (86, .aload_n 0, 1, 0, 0, [], 0) :: (87, .getfield 19, 3, 11, 2, [(0, 2), (0, 459)], 0) :: (90, .ldc_w 278, 3, 0, 0, [(0, 1055)], (-1000000005)) :: (93, .invokevirtual 375, 3, 218, 2, [(0, 1), (0, 0), (0, 0), (0, 6), (0, 1227)], 0) :: (96, .invokevirtual 372, 3, 262, 4, [(0, 1), (0, 0), (0, 0), (0, 11), (0, 1223)], 0) :: (99, .ifCond .ne 7, 3, 62, 0, [], 0) :: (102, .iconst 2, 1, 0, 0, [], 2) :: (103, .iload_n 3, 1, 3, 0, [], 0) :: (104, .iadd, 1, 0, 0, [], 0) :: (105, .ireturn, 1, 0, 0, [], 0) :: uX11_proves_62
set_option maxRecDepth 100000 in
def uX11_proves_26 : List zEn := (46, .iload_n 3, 1, 3, 0, [], 0) :: (47, .iconst 2, 1, 0, 0, [], 2) :: (48, .iload_n 1, 1, 1, 0, [], 0) :: (49, .imul, 1, 0, 0, [], 0) :: (50, .if_icmp .ge 62, 3, 64, 0, [], 0) :: (53, .aload_n 0, 1, 0, 0, [], 0) :: (54, .getfield 19, 3, 11, 2, [(0, 2), (0, 459)], 0) :: (57, .invokevirtual 289, 3, 213, 1, [(0, 1), (0, 0), (0, 0), (0, 6), (0, 1084)], 0) :: (60, .pop, 1, 0, 0, [], 0) :: (61, .aload_n 0, 1, 0, 0, [], 0) :: (62, .iload_n 3, 1, 3, 0, [], 0) :: (63, .iload_n 2, 1, 2, 0, [], 0) :: (64, .aload_n 0, 1, 0, 0, [], 0) :: (65, .getfield 19, 3, 11, 2, [(0, 2), (0, 459)], 0) :: (68, .invokevirtual 369, 3, 261, 1, [(0, 1), (0, 0), (0, 0), (0, 6), (0, 1218)], 0) :: (71, .invokevirtual 372, 3, 262, 4, [(0, 1), (0, 0), (0, 0), (0, 11), (0, 1223)], 0) :: (74, .ifCond .ne 7, 3, 47, 0, [], 0) :: (77, .iconst 1, 1, 0, 0, [], 1) :: (78, .iload_n 3, 1, 3, 0, [], 0) :: (79, .iadd, 1, 0, 0, [], 0) :: (80, .ireturn, 1, 0, 0, [], 0) :: uX11_proves_47
set_option maxRecDepth 100000 in
def tX11_proves_26 : List zEn := uX11_proves_26
set_option maxRecDepth 100000 in
def uX11_proves_25 : List zEn := (46, .nop, 0, 0, 0, [], 0) :: tX11_proves_26
set_option maxRecDepth 100000 in
def uX11_proves_18 : List zEn := (33, .aload_n 0, 1, 0, 0, [], 0) :: (34, .getfield 19, 3, 11, 2, [(0, 2), (0, 459)], 0) :: (37, .aload_n 0, 1, 0, 0, [], 0) :: (38, .getfield 16, 3, 11, 1, [(0, 2), (0, 458)], 0) :: (41, .invokevirtual 367, 3, 260, 2, [(0, 0), (0, 0), (0, 0), (0, 6), (0, 1197)], 0) :: (44, .iconst 0, 1, 0, 0, [], 0) :: (45, .istore_n 3, 1, 3, 0, [], 0) :: uX11_proves_25
set_option maxRecDepth 100000 in
def uX11_proves_13 : List zEn := (23, .aload_n 0, 1, 0, 0, [], 0) :: (24, .getfield 22, 3, 11, 3, [(0, 1), (0, 460)], 0) :: (27, .ifCond .ne 6, 3, 18, 0, [], 0) :: (30, .ldc 184, 2, 0, 0, [(0, 722)], (-1000000002)) :: (32, .ireturn, 1, 0, 0, [], 0) :: uX11_proves_18
set_option maxRecDepth 100000 in
def uX11_proves_0 : List zEn := (0, .aload_n 0, 1, 0, 0, [], 0) :: (1, .getfield 59, 3, 11, 10, [(0, 0), (0, 467)], 0) :: (4, .istore_n 2, 1, 2, 0, [], 0) :: (5, .aload_n 0, 1, 0, 0, [], 0) :: (6, .iconst 0, 1, 0, 0, [], 0) :: (7, .putfield 59, 3, 11, 10, [(0, 0), (0, 467)], 0) :: (10, .iload_n 1, 1, 1, 0, [], 0) :: (11, .iconst 1, 1, 0, 0, [], 1) :: (12, .bipush 30, 2, 0, 0, [], 30) :: (14, .invokestatic 68, 3, 12, 3, [(0, 1), (0, 0), (0, 0), (0, 495)], 0) :: (17, .ifCond .ne 6, 3, 13, 0, [], 0) :: (20, .ldc 75, 2, 0, 0, [(0, 498)], (-1000000001)) :: (22, .ireturn, 1, 0, 0, [], 0) :: uX11_proves_13
set_option maxRecDepth 100000 in
theorem jX11_proves_13 : zj pX11_proves 13 = uX11_proves_13 := rfl
set_option maxRecDepth 100000 in
theorem jX11_proves_18 : zj pX11_proves 18 = uX11_proves_18 := rfl
set_option maxRecDepth 100000 in
theorem jX11_proves_25 : zj pX11_proves 25 = uX11_proves_25 := rfl
set_option maxRecDepth 100000 in
theorem jX11_proves_47 : zj pX11_proves 47 = uX11_proves_47 := rfl
set_option maxRecDepth 100000 in
theorem jX11_proves_62 : zj pX11_proves 62 = uX11_proves_62 := rfl
set_option maxRecDepth 100000 in
theorem jX11_proves_64 : zj pX11_proves 64 = uX11_proves_64 := rfl
set_option maxRecDepth 100000 in
theorem jX11_proves_75 : zj pX11_proves 75 = uX11_proves_75 := rfl
set_option maxRecDepth 100000 in
theorem jX11_proves_76 : zj pX11_proves 76 = uX11_proves_76 := rfl
set_option maxRecDepth 100000 in
def uX12_setAside_14 : List zEn := (21, .return_, 1, 0, 0, [], 0) :: []
set_option maxRecDepth 100000 in
def uX12_setAside_3 : List zEn := (2, .iload_n 3, 1, 3, 0, [], 0) :: (3, .sipush 3140, 3, 0, 0, [], 3140) :: (6, .if_icmp .ge 15, 3, 14, 0, [], 0) :: (9, .aload_n 2, 1, 2, 0, [], 0) :: (10, .iload_n 3, 1, 3, 0, [], 0) :: (11, .aload_n 1, 1, 1, 0, [], 0) :: (12, .iload_n 3, 1, 3, 0, [], 0) :: (13, .iaload, 1, 0, 0, [], 0) :: (14, .iastore, 1, 0, 0, [], 0) :: (15, .iinc 3 1, 3, 3, 0, [], 1) :: (18, .goto (-16), 3, 2, 0, [], 0) :: uX12_setAside_14
set_option maxRecDepth 100000 in
def tX12_setAside_3 : List zEn := uX12_setAside_3
set_option maxRecDepth 100000 in
def uX12_setAside_2 : List zEn := (2, .nop, 0, 0, 0, [], 0) :: tX12_setAside_3
set_option maxRecDepth 100000 in
def uX12_setAside_0 : List zEn := (0, .iconst 0, 1, 0, 0, [], 0) :: (1, .istore_n 3, 1, 3, 0, [], 0) :: uX12_setAside_2
set_option maxRecDepth 100000 in
theorem jX12_setAside_2 : zj pX12_setAside 2 = uX12_setAside_2 := rfl
set_option maxRecDepth 100000 in
theorem jX12_setAside_14 : zj pX12_setAside 14 = uX12_setAside_14 := rfl
set_option maxRecDepth 100000 in
def uX12_allTold_44 : List zEn := (74, .iload_n 2, 1, 2, 0, [], 0) :: (75, .ireturn, 1, 0, 0, [], 0) :: []
set_option maxRecDepth 100000 in
def uX12_allTold_40 : List zEn := (66, .iadd, 1, 0, 0, [], 0) :: (67, .istore_n 2, 1, 2, 0, [], 0) :: (68, .iinc 3 1, 3, 3, 0, [], 1) :: (71, .goto (-67), 3, 4, 0, [], 0) :: uX12_allTold_44
set_option maxRecDepth 100000 in
def uX12_allTold_32 : List zEn := (53, .aload_n 0, 1, 0, 0, [], 0) :: (54, .getfield 7, 3, 12, 0, [(0, 2), (0, 1250)], 0) :: (57, .aload_n 0, 1, 0, 0, [], 0) :: (58, .iload_n 3, 1, 3, 0, [], 0) :: (59, .invokevirtual 120, 3, 42, 2, [(0, 1), (0, 0), (0, 0), (0, 12), (0, 1422)], 0) :: (62, .bipush 10, 2, 0, 0, [], 10) :: (64, .iadd, 1, 0, 0, [], 0) :: (65, .iaload, 1, 0, 0, [], 0) :: uX12_allTold_40
set_option maxRecDepth 100000 in
def uX12_allTold_26 : List zEn := (41, .istore 4, 2, 4, 0, [], 0) :: (43, .iload_n 2, 1, 2, 0, [], 0) :: (44, .iload_n 1, 1, 1, 0, [], 0) :: (45, .ifCond .ne 8, 3, 32, 0, [], 0) :: (48, .iload 4, 2, 4, 0, [], 0) :: (50, .goto 16, 3, 40, 0, [], 0) :: uX12_allTold_32
set_option maxRecDepth 100000 in
def uX12_allTold_25 : List zEn := (40, .iconst 0, 1, 0, 0, [], 0) :: uX12_allTold_26
set_option maxRecDepth 100000 in
def uX12_allTold_21 : List zEn := (32, .aload_n 0, 1, 0, 0, [], 0) :: (33, .iload_n 3, 1, 3, 0, [], 0) :: (34, .invokevirtual 152, 3, 69, 2, [(0, 1), (0, 0), (0, 0), (0, 12), (0, 1452)], 0) :: (37, .goto 4, 3, 26, 0, [], 0) :: uX12_allTold_25
set_option maxRecDepth 100000 in
def uX12_allTold_5 : List zEn := (4, .iload_n 3, 1, 3, 0, [], 0) :: (5, .aload_n 0, 1, 0, 0, [], 0) :: (6, .getfield 7, 3, 12, 0, [(0, 2), (0, 1250)], 0) :: (9, .iconst 1, 1, 0, 0, [], 1) :: (10, .iaload, 1, 0, 0, [], 0) :: (11, .if_icmp .ge 63, 3, 44, 0, [], 0) :: (14, .aload_n 0, 1, 0, 0, [], 0) :: (15, .iload_n 3, 1, 3, 0, [], 0) :: (16, .iconst 0, 1, 0, 0, [], 0) :: (17, .invokevirtual 174, 3, 91, 3, [(0, 1), (0, 0), (0, 0), (0, 12), (0, 1512)], 0) :: (20, .ifCond .ne 12, 3, 21, 0, [], 0) :: (23, .aload_n 0, 1, 0, 0, [], 0) :: (24, .iload_n 3, 1, 3, 0, [], 0) :: (25, .iconst 1, 1, 0, 0, [], 1) :: (26, .invokevirtual 174, 3, 91, 3, [(0, 1), (0, 0), (0, 0), (0, 12), (0, 1512)], 0) :: (29, .ifCond .eq 11, 3, 25, 0, [], 0) :: uX12_allTold_21
set_option maxRecDepth 100000 in
def tX12_allTold_5 : List zEn := uX12_allTold_5
set_option maxRecDepth 100000 in
def uX12_allTold_4 : List zEn := (4, .nop, 0, 0, 0, [], 0) :: tX12_allTold_5
set_option maxRecDepth 100000 in
def uX12_allTold_0 : List zEn := (0, .iconst 0, 1, 0, 0, [], 0) :: (1, .istore_n 2, 1, 2, 0, [], 0) :: (2, .iconst 0, 1, 0, 0, [], 0) :: (3, .istore_n 3, 1, 3, 0, [], 0) :: uX12_allTold_4
set_option maxRecDepth 100000 in
theorem jX12_allTold_4 : zj pX12_allTold 4 = uX12_allTold_4 := rfl
set_option maxRecDepth 100000 in
theorem jX12_allTold_21 : zj pX12_allTold 21 = uX12_allTold_21 := rfl
set_option maxRecDepth 100000 in
theorem jX12_allTold_25 : zj pX12_allTold 25 = uX12_allTold_25 := rfl
set_option maxRecDepth 100000 in
theorem jX12_allTold_26 : zj pX12_allTold 26 = uX12_allTold_26 := rfl
set_option maxRecDepth 100000 in
theorem jX12_allTold_32 : zj pX12_allTold 32 = uX12_allTold_32 := rfl
set_option maxRecDepth 100000 in
theorem jX12_allTold_40 : zj pX12_allTold 40 = uX12_allTold_40 := rfl
set_option maxRecDepth 100000 in
theorem jX12_allTold_44 : zj pX12_allTold 44 = uX12_allTold_44 := rfl
set_option maxRecDepth 100000 in
def uX12_proves_103 : List zEn := (172, .ireturn, 1, 0, 0, [], 0) :: []
set_option maxRecDepth 100000 in
def uX12_proves_100 : List zEn := (169, .iconst 1, 1, 0, 0, [], 1) :: (170, .iload_n 3, 1, 3, 0, [], 0) :: (171, .iadd, 1, 0, 0, [], 0) :: uX12_proves_103
set_option maxRecDepth 100000 in
def uX12_proves_90 : List zEn := (153, .iload_n 3, 1, 3, 0, [], 0) :: (154, .iload_n 2, 1, 2, 0, [], 0) :: (155, .if_icmp .ne 14, 3, 100, 0, [], 0) :: (158, .iload_n 3, 1, 3, 0, [], 0) :: (159, .iconst 2, 1, 0, 0, [], 2) :: (160, .iload_n 1, 1, 1, 0, [], 0) :: (161, .imul, 1, 0, 0, [], 0) :: (162, .if_icmp .ne 7, 3, 100, 0, [], 0) :: (165, .iconst 0, 1, 0, 0, [], 0) :: (166, .goto 6, 3, 103, 0, [], 0) :: uX12_proves_100
set_option maxRecDepth 100000 in
def uX12_proves_71 : List zEn := (120, .iload_n 3, 1, 3, 0, [], 0) :: (121, .iload_n 2, 1, 2, 0, [], 0) :: (122, .if_icmp .ge 31, 3, 90, 0, [], 0) :: (125, .iload_n 3, 1, 3, 0, [], 0) :: (126, .iconst 2, 1, 0, 0, [], 2) :: (127, .iload_n 1, 1, 1, 0, [], 0) :: (128, .imul, 1, 0, 0, [], 0) :: (129, .if_icmp .ge 24, 3, 90, 0, [], 0) :: (132, .aload_n 0, 1, 0, 0, [], 0) :: (133, .getfield 70, 3, 12, 34, [(0, 2), (0, 1284)], 0) :: (136, .iload_n 3, 1, 3, 0, [], 0) :: (137, .iaload, 1, 0, 0, [], 0) :: (138, .aload_n 0, 1, 0, 0, [], 0) :: (139, .getfield 73, 3, 12, 36, [(0, 2), (0, 1286)], 0) :: (142, .iload_n 3, 1, 3, 0, [], 0) :: (143, .iaload, 1, 0, 0, [], 0) :: (144, .if_icmp .ne 9, 3, 90, 0, [], 0) :: (147, .iinc 3 1, 3, 3, 0, [], 1) :: (150, .goto (-30), 3, 70, 0, [], 0) :: uX12_proves_90
set_option maxRecDepth 100000 in
def tX12_proves_71 : List zEn := uX12_proves_71
set_option maxRecDepth 100000 in
def uX12_proves_70 : List zEn := (120, .nop, 0, 0, 0, [], 0) :: tX12_proves_71
set_option maxRecDepth 100000 in
def uX12_proves_62 : List zEn := (106, .aload_n 0, 1, 0, 0, [], 0) :: (107, .aload_n 0, 1, 0, 0, [], 0) :: (108, .getfield 16, 3, 12, 2, [(0, 2), (0, 1252)], 0) :: (111, .aload_n 0, 1, 0, 0, [], 0) :: (112, .getfield 7, 3, 12, 0, [(0, 2), (0, 1250)], 0) :: (115, .invokevirtual 355, 3, 264, 3, [(0, 0), (0, 0), (0, 0), (0, 12), (0, 1786)], 0) :: (118, .iconst 0, 1, 0, 0, [], 0) :: (119, .istore_n 3, 1, 3, 0, [], 0) :: uX12_proves_70
set_option maxRecDepth 100000 in
def uX12_proves_34 : List zEn := (61, .iload_n 3, 1, 3, 0, [], 0) :: (62, .iload_n 1, 1, 1, 0, [], 0) :: (63, .if_icmp .ge 43, 3, 62, 0, [], 0) :: (66, .aload_n 0, 1, 0, 0, [], 0) :: (67, .invokevirtual 325, 3, 216, 1, [(0, 1), (0, 0), (0, 0), (0, 12), (0, 1704)], 0) :: (70, .istore 4, 2, 4, 0, [], 0) :: (72, .aload_n 0, 1, 0, 0, [], 0) :: (73, .getfield 73, 3, 12, 36, [(0, 2), (0, 1286)], 0) :: (76, .iconst 2, 1, 0, 0, [], 2) :: (77, .iload_n 3, 1, 3, 0, [], 0) :: (78, .imul, 1, 0, 0, [], 0) :: (79, .aload_n 0, 1, 0, 0, [], 0) :: (80, .iconst 0, 1, 0, 0, [], 0) :: (81, .invokevirtual 359, 3, 265, 2, [(0, 1), (0, 0), (0, 0), (0, 12), (0, 1790)], 0) :: (84, .iastore, 1, 0, 0, [], 0) :: (85, .aload_n 0, 1, 0, 0, [], 0) :: (86, .getfield 73, 3, 12, 36, [(0, 2), (0, 1286)], 0) :: (89, .iconst 2, 1, 0, 0, [], 2) :: (90, .iload_n 3, 1, 3, 0, [], 0) :: (91, .imul, 1, 0, 0, [], 0) :: (92, .iconst 1, 1, 0, 0, [], 1) :: (93, .iadd, 1, 0, 0, [], 0) :: (94, .aload_n 0, 1, 0, 0, [], 0) :: (95, .iconst 1, 1, 0, 0, [], 1) :: (96, .invokevirtual 359, 3, 265, 2, [(0, 1), (0, 0), (0, 0), (0, 12), (0, 1790)], 0) :: (99, .iastore, 1, 0, 0, [], 0) :: (100, .iinc 3 1, 3, 3, 0, [], 1) :: (103, .goto (-42), 3, 33, 0, [], 0) :: uX12_proves_62
set_option maxRecDepth 100000 in
def tX12_proves_34 : List zEn := uX12_proves_34
set_option maxRecDepth 100000 in
def uX12_proves_33 : List zEn := (61, .nop, 0, 0, 0, [], 0) :: tX12_proves_34
set_option maxRecDepth 100000 in
def uX12_proves_19 : List zEn := (35, .aload_n 0, 1, 0, 0, [], 0) :: (36, .aload_n 0, 1, 0, 0, [], 0) :: (37, .getfield 7, 3, 12, 0, [(0, 2), (0, 1250)], 0) :: (40, .aload_n 0, 1, 0, 0, [], 0) :: (41, .getfield 16, 3, 12, 2, [(0, 2), (0, 1252)], 0) :: (44, .invokevirtual 355, 3, 264, 3, [(0, 0), (0, 0), (0, 0), (0, 12), (0, 1786)], 0) :: (47, .aload_n 0, 1, 0, 0, [], 0) :: (48, .aload_n 0, 1, 0, 0, [], 0) :: (49, .getfield 13, 3, 12, 1, [(0, 2), (0, 1251)], 0) :: (52, .aload_n 0, 1, 0, 0, [], 0) :: (53, .getfield 7, 3, 12, 0, [(0, 2), (0, 1250)], 0) :: (56, .invokevirtual 355, 3, 264, 3, [(0, 0), (0, 0), (0, 0), (0, 12), (0, 1786)], 0) :: (59, .iconst 0, 1, 0, 0, [], 0) :: (60, .istore_n 3, 1, 3, 0, [], 0) :: uX12_proves_33
set_option maxRecDepth 100000 in
def uX12_proves_14 : List zEn := (25, .aload_n 0, 1, 0, 0, [], 0) :: (26, .getfield 351, 3, 12, 3, [(0, 1), (0, 1253)], 0) :: (29, .ifCond .ne 6, 3, 19, 0, [], 0) :: (32, .ldc 180, 2, 0, 0, [(0, 1520)], (-1000000002)) :: (34, .ireturn, 1, 0, 0, [], 0) :: uX12_proves_19
set_option maxRecDepth 100000 in
def uX12_proves_0 : List zEn := (0, .aload_n 0, 1, 0, 0, [], 0) :: (1, .getfield 346, 3, 12, 35, [(0, 0), (0, 1285)], 0) :: (4, .istore_n 2, 1, 2, 0, [], 0) :: (5, .aload_n 0, 1, 0, 0, [], 0) :: (6, .iconst 0, 1, 0, 0, [], 0) :: (7, .putfield 346, 3, 12, 35, [(0, 0), (0, 1285)], 0) :: (10, .iload_n 1, 1, 1, 0, [], 0) :: (11, .i2l, 1, 0, 0, [], 0) :: (12, .lconst 1, 1, 0, 0, [], 1) :: (13, .ldc2_w 349, 3, 0, 0, [(0, 1785)], 30) :: (16, .invokestatic 77, 3, 15, 3, [(0, 1), (0, 0), (0, 0), (0, 1368)], 0) :: (19, .ifCond .ne 6, 3, 14, 0, [], 0) :: (22, .ldc 87, 2, 0, 0, [(0, 1372)], (-1000000001)) :: (24, .ireturn, 1, 0, 0, [], 0) :: uX12_proves_14
set_option maxRecDepth 100000 in
theorem jX12_proves_14 : zj pX12_proves 14 = uX12_proves_14 := rfl
set_option maxRecDepth 100000 in
theorem jX12_proves_19 : zj pX12_proves 19 = uX12_proves_19 := rfl
set_option maxRecDepth 100000 in
theorem jX12_proves_33 : zj pX12_proves 33 = uX12_proves_33 := rfl
set_option maxRecDepth 100000 in
theorem jX12_proves_62 : zj pX12_proves 62 = uX12_proves_62 := rfl
set_option maxRecDepth 100000 in
theorem jX12_proves_70 : zj pX12_proves 70 = uX12_proves_70 := rfl
set_option maxRecDepth 100000 in
theorem jX12_proves_90 : zj pX12_proves 90 = uX12_proves_90 := rfl
set_option maxRecDepth 100000 in
theorem jX12_proves_100 : zj pX12_proves 100 = uX12_proves_100 := rfl
set_option maxRecDepth 100000 in
theorem jX12_proves_103 : zj pX12_proves 103 = uX12_proves_103 := rfl
set_option maxRecDepth 100000 in
def uX11_keep_0 : List zEn := (0, .aload_n 0, 1, 0, 0, [], 0) :: (1, .getfield 16, 3, 11, 1, [(0, 2), (0, 458)], 0) :: (4, .aload_n 0, 1, 0, 0, [], 0) :: (5, .getfield 10, 3, 11, 0, [(0, 2), (0, 457)], 0) :: (8, .invokevirtual 367, 3, 260, 2, [(0, 0), (0, 0), (0, 0), (0, 6), (0, 1197)], 0) :: (11, .aload_n 0, 1, 0, 0, [], 0) :: (12, .iconst 1, 1, 0, 0, [], 1) :: (13, .putfield 22, 3, 11, 3, [(0, 1), (0, 460)], 0) :: (16, .aload_n 0, 1, 0, 0, [], 0) :: (17, .getfield 10, 3, 11, 0, [(0, 2), (0, 457)], 0) :: (20, .getfield 286, 3, 6, 9, [(0, 0), (0, 293)], 0) :: (23, .ireturn, 1, 0, 0, [], 0) :: []
set_option maxRecDepth 100000 in
def uX12_keep_0 : List zEn := (0, .aload_n 0, 1, 0, 0, [], 0) :: (1, .iconst 1, 1, 0, 0, [], 1) :: (2, .putfield 351, 3, 12, 3, [(0, 1), (0, 1253)], 0) :: (5, .aload_n 0, 1, 0, 0, [], 0) :: (6, .aload_n 0, 1, 0, 0, [], 0) :: (7, .getfield 7, 3, 12, 0, [(0, 2), (0, 1250)], 0) :: (10, .aload_n 0, 1, 0, 0, [], 0) :: (11, .getfield 13, 3, 12, 1, [(0, 2), (0, 1251)], 0) :: (14, .invokevirtual 355, 3, 264, 3, [(0, 0), (0, 0), (0, 0), (0, 12), (0, 1786)], 0) :: (17, .aload_n 0, 1, 0, 0, [], 0) :: (18, .getfield 7, 3, 12, 0, [(0, 2), (0, 1250)], 0) :: (21, .bipush 7, 2, 0, 0, [], 7) :: (23, .iaload, 1, 0, 0, [], 0) :: (24, .ireturn, 1, 0, 0, [], 0) :: []
set_option maxRecDepth 100000 in
def uX11_back_5 : List zEn := (10, .aload_n 0, 1, 0, 0, [], 0) :: (11, .getfield 10, 3, 11, 0, [(0, 2), (0, 457)], 0) :: (14, .aload_n 0, 1, 0, 0, [], 0) :: (15, .getfield 16, 3, 11, 1, [(0, 2), (0, 458)], 0) :: (18, .invokevirtual 367, 3, 260, 2, [(0, 0), (0, 0), (0, 0), (0, 6), (0, 1197)], 0) :: (21, .aload_n 0, 1, 0, 0, [], 0) :: (22, .getfield 10, 3, 11, 0, [(0, 2), (0, 457)], 0) :: (25, .getfield 286, 3, 6, 9, [(0, 0), (0, 293)], 0) :: (28, .ireturn, 1, 0, 0, [], 0) :: []
set_option maxRecDepth 100000 in
def uX11_back_0 : List zEn := (0, .aload_n 0, 1, 0, 0, [], 0) :: (1, .getfield 22, 3, 11, 3, [(0, 1), (0, 460)], 0) :: (4, .ifCond .ne 6, 3, 5, 0, [], 0) :: (7, .ldc 184, 2, 0, 0, [(0, 722)], (-1000000002)) :: (9, .ireturn, 1, 0, 0, [], 0) :: uX11_back_5
set_option maxRecDepth 100000 in
theorem jX11_back_5 : zj pX11_back 5 = uX11_back_5 := rfl
set_option maxRecDepth 100000 in
def uX12_back_5 : List zEn := (10, .aload_n 0, 1, 0, 0, [], 0) :: (11, .aload_n 0, 1, 0, 0, [], 0) :: (12, .getfield 13, 3, 12, 1, [(0, 2), (0, 1251)], 0) :: (15, .aload_n 0, 1, 0, 0, [], 0) :: (16, .getfield 7, 3, 12, 0, [(0, 2), (0, 1250)], 0) :: (19, .invokevirtual 355, 3, 264, 3, [(0, 0), (0, 0), (0, 0), (0, 12), (0, 1786)], 0) :: (22, .aload_n 0, 1, 0, 0, [], 0) :: (23, .getfield 7, 3, 12, 0, [(0, 2), (0, 1250)], 0) :: (26, .bipush 7, 2, 0, 0, [], 7) :: (28, .iaload, 1, 0, 0, [], 0) :: (29, .ireturn, 1, 0, 0, [], 0) :: []
set_option maxRecDepth 100000 in
def uX12_back_0 : List zEn := (0, .aload_n 0, 1, 0, 0, [], 0) :: (1, .getfield 351, 3, 12, 3, [(0, 1), (0, 1253)], 0) :: (4, .ifCond .ne 6, 3, 5, 0, [], 0) :: (7, .ldc 180, 2, 0, 0, [(0, 1520)], (-1000000002)) :: (9, .ireturn, 1, 0, 0, [], 0) :: uX12_back_5
set_option maxRecDepth 100000 in
theorem jX12_back_5 : zj pX12_back 5 = uX12_back_5 := rfl
set_option maxRecDepth 100000 in
def uX6_inState_19 : List zEn := (34, .iload_n 2, 1, 2, 0, [], 0) :: (35, .ireturn, 1, 0, 0, [], 0) :: []
set_option maxRecDepth 100000 in
def uX6_inState_17 : List zEn := (28, .iinc 3 1, 3, 3, 0, [], 1) :: (31, .goto (-27), 3, 4, 0, [], 0) :: uX6_inState_19
set_option maxRecDepth 100000 in
def uX6_inState_5 : List zEn := (4, .iload_n 3, 1, 3, 0, [], 0) :: (5, .aload_n 0, 1, 0, 0, [], 0) :: (6, .getfield 34, 3, 6, 4, [(0, 0), (0, 280)], 0) :: (9, .if_icmp .ge 25, 3, 19, 0, [], 0) :: (12, .aload_n 0, 1, 0, 0, [], 0) :: (13, .getfield 30, 3, 6, 3, [(0, 2), (0, 277)], 0) :: (16, .iload_n 3, 1, 3, 0, [], 0) :: (17, .aaload, 1, 0, 0, [], 0) :: (18, .getfield 150, 3, 3, 5, [(0, 0), (0, 231)], 0) :: (21, .iload_n 1, 1, 1, 0, [], 0) :: (22, .if_icmp .ne 6, 3, 17, 0, [], 0) :: (25, .iinc 2 1, 3, 2, 0, [], 1) :: uX6_inState_17
set_option maxRecDepth 100000 in
def tX6_inState_5 : List zEn := uX6_inState_5
set_option maxRecDepth 100000 in
def uX6_inState_4 : List zEn := (4, .nop, 0, 0, 0, [], 0) :: tX6_inState_5
set_option maxRecDepth 100000 in
def uX6_inState_0 : List zEn := (0, .iconst 0, 1, 0, 0, [], 0) :: (1, .istore_n 2, 1, 2, 0, [], 0) :: (2, .iconst 0, 1, 0, 0, [], 0) :: (3, .istore_n 3, 1, 3, 0, [], 0) :: uX6_inState_4
set_option maxRecDepth 100000 in
theorem jX6_inState_4 : zj pX6_inState 4 = uX6_inState_4 := rfl
set_option maxRecDepth 100000 in
theorem jX6_inState_17 : zj pX6_inState 17 = uX6_inState_17 := rfl
set_option maxRecDepth 100000 in
theorem jX6_inState_19 : zj pX6_inState 19 = uX6_inState_19 := rfl
set_option maxRecDepth 100000 in
def uX11_count_68 : List zEn := (208, .ldc 75, 2, 0, 0, [(0, 498)], (-1000000001)) :: (210, .ireturn, 1, 0, 0, [], 0) :: []
set_option maxRecDepth 100000 in
def uX11_count_64 : List zEn := (200, .aload_n 0, 1, 0, 0, [], 0) :: (201, .getfield 10, 3, 11, 0, [(0, 2), (0, 457)], 0) :: (204, .getfield 295, 3, 6, 11, [(0, 0), (0, 297)], 0) :: (207, .ireturn, 1, 0, 0, [], 0) :: uX11_count_68
set_option maxRecDepth 100000 in
def uX11_count_60 : List zEn := (192, .aload_n 0, 1, 0, 0, [], 0) :: (193, .getfield 40, 3, 11, 6, [(0, 2), (0, 463)], 0) :: (196, .getfield 213, 3, 10, 1, [(0, 0), (0, 364)], 0) :: (199, .ireturn, 1, 0, 0, [], 0) :: uX11_count_64
set_option maxRecDepth 100000 in
def uX11_count_57 : List zEn := (187, .aload_n 0, 1, 0, 0, [], 0) :: (188, .getfield 59, 3, 11, 10, [(0, 0), (0, 467)], 0) :: (191, .ireturn, 1, 0, 0, [], 0) :: uX11_count_60
set_option maxRecDepth 100000 in
def uX11_count_53 : List zEn := (179, .aload_n 0, 1, 0, 0, [], 0) :: (180, .getfield 10, 3, 11, 0, [(0, 2), (0, 457)], 0) :: (183, .getfield 286, 3, 6, 9, [(0, 0), (0, 293)], 0) :: (186, .ireturn, 1, 0, 0, [], 0) :: uX11_count_57
set_option maxRecDepth 100000 in
def uX11_count_49 : List zEn := (171, .aload_n 0, 1, 0, 0, [], 0) :: (172, .getfield 10, 3, 11, 0, [(0, 2), (0, 457)], 0) :: (175, .getfield 381, 3, 6, 10, [(0, 0), (0, 295)], 0) :: (178, .ireturn, 1, 0, 0, [], 0) :: uX11_count_53
set_option maxRecDepth 100000 in
def uX11_count_45 : List zEn := (163, .aload_n 0, 1, 0, 0, [], 0) :: (164, .getfield 10, 3, 11, 0, [(0, 2), (0, 457)], 0) :: (167, .getfield 191, 3, 6, 6, [(0, 0), (0, 287)], 0) :: (170, .ireturn, 1, 0, 0, [], 0) :: uX11_count_49
set_option maxRecDepth 100000 in
def uX11_count_40 : List zEn := (152, .aload_n 0, 1, 0, 0, [], 0) :: (153, .getfield 10, 3, 11, 0, [(0, 2), (0, 457)], 0) :: (156, .getfield 255, 3, 6, 8, [(0, 2), (0, 291)], 0) :: (159, .getfield 270, 3, 0, 3, [(0, 0), (0, 177)], 0) :: (162, .ireturn, 1, 0, 0, [], 0) :: uX11_count_45
set_option maxRecDepth 100000 in
def uX11_count_35 : List zEn := (141, .aload_n 0, 1, 0, 0, [], 0) :: (142, .getfield 10, 3, 11, 0, [(0, 2), (0, 457)], 0) :: (145, .getfield 255, 3, 6, 8, [(0, 2), (0, 291)], 0) :: (148, .getfield 264, 3, 0, 2, [(0, 0), (0, 175)], 0) :: (151, .ireturn, 1, 0, 0, [], 0) :: uX11_count_40
set_option maxRecDepth 100000 in
def uX11_count_30 : List zEn := (130, .aload_n 0, 1, 0, 0, [], 0) :: (131, .getfield 10, 3, 11, 0, [(0, 2), (0, 457)], 0) :: (134, .getfield 223, 3, 6, 7, [(0, 2), (0, 289)], 0) :: (137, .getfield 227, 3, 1, 1, [(0, 0), (0, 151)], 0) :: (140, .ireturn, 1, 0, 0, [], 0) :: uX11_count_35
set_option maxRecDepth 100000 in
def uX11_count_25 : List zEn := (119, .aload_n 0, 1, 0, 0, [], 0) :: (120, .getfield 10, 3, 11, 0, [(0, 2), (0, 457)], 0) :: (123, .ldc_w 278, 3, 0, 0, [(0, 1055)], (-1000000005)) :: (126, .invokevirtual 375, 3, 218, 2, [(0, 1), (0, 0), (0, 0), (0, 6), (0, 1227)], 0) :: (129, .ireturn, 1, 0, 0, [], 0) :: uX11_count_30
set_option maxRecDepth 100000 in
def uX11_count_20 : List zEn := (110, .aload_n 0, 1, 0, 0, [], 0) :: (111, .getfield 10, 3, 11, 0, [(0, 2), (0, 457)], 0) :: (114, .iconst 3, 1, 0, 0, [], 3) :: (115, .invokevirtual 378, 3, 271, 2, [(0, 1), (0, 0), (0, 0), (0, 6), (0, 1240)], 0) :: (118, .ireturn, 1, 0, 0, [], 0) :: uX11_count_25
set_option maxRecDepth 100000 in
def uX11_count_15 : List zEn := (101, .aload_n 0, 1, 0, 0, [], 0) :: (102, .getfield 10, 3, 11, 0, [(0, 2), (0, 457)], 0) :: (105, .iconst 1, 1, 0, 0, [], 1) :: (106, .invokevirtual 378, 3, 271, 2, [(0, 1), (0, 0), (0, 0), (0, 6), (0, 1240)], 0) :: (109, .ireturn, 1, 0, 0, [], 0) :: uX11_count_20
set_option maxRecDepth 100000 in
def uX11_count_10 : List zEn := (92, .aload_n 0, 1, 0, 0, [], 0) :: (93, .getfield 10, 3, 11, 0, [(0, 2), (0, 457)], 0) :: (96, .iconst 0, 1, 0, 0, [], 0) :: (97, .invokevirtual 378, 3, 271, 2, [(0, 1), (0, 0), (0, 0), (0, 6), (0, 1240)], 0) :: (100, .ireturn, 1, 0, 0, [], 0) :: uX11_count_15
set_option maxRecDepth 100000 in
def uX11_count_6 : List zEn := (84, .aload_n 0, 1, 0, 0, [], 0) :: (85, .getfield 10, 3, 11, 0, [(0, 2), (0, 457)], 0) :: (88, .getfield 72, 3, 6, 4, [(0, 0), (0, 281)], 0) :: (91, .ireturn, 1, 0, 0, [], 0) :: uX11_count_10
set_option maxRecDepth 100000 in
def uX11_count_2 : List zEn := (76, .aload_n 0, 1, 0, 0, [], 0) :: (77, .getfield 10, 3, 11, 0, [(0, 2), (0, 457)], 0) :: (80, .getfield 65, 3, 6, 1, [(0, 0), (0, 273)], 0) :: (83, .ireturn, 1, 0, 0, [], 0) :: uX11_count_6
set_option maxRecDepth 100000 in
def uX11_count_0 : List zEn := (0, .iload_n 1, 1, 1, 0, [], 0) :: (1, .tableswitch 207 0 14 #[75, 83, 91, 100, 109, 118, 129, 140, 151, 162, 170, 178, 186, 191, 199], 75, 68, 0, [(0, 2), (1, 6), (2, 10), (3, 15), (4, 20), (5, 25), (6, 30), (7, 35), (8, 40), (9, 45), (10, 49), (11, 53), (12, 57), (13, 60), (14, 64)], 0) :: uX11_count_2
set_option maxRecDepth 100000 in
theorem jX11_count_2 : zj pX11_count 2 = uX11_count_2 := rfl
set_option maxRecDepth 100000 in
theorem jX11_count_6 : zj pX11_count 6 = uX11_count_6 := rfl
set_option maxRecDepth 100000 in
theorem jX11_count_10 : zj pX11_count 10 = uX11_count_10 := rfl
set_option maxRecDepth 100000 in
theorem jX11_count_15 : zj pX11_count 15 = uX11_count_15 := rfl
set_option maxRecDepth 100000 in
theorem jX11_count_20 : zj pX11_count 20 = uX11_count_20 := rfl
set_option maxRecDepth 100000 in
theorem jX11_count_25 : zj pX11_count 25 = uX11_count_25 := rfl
set_option maxRecDepth 100000 in
theorem jX11_count_30 : zj pX11_count 30 = uX11_count_30 := rfl
set_option maxRecDepth 100000 in
theorem jX11_count_35 : zj pX11_count 35 = uX11_count_35 := rfl
set_option maxRecDepth 100000 in
theorem jX11_count_40 : zj pX11_count 40 = uX11_count_40 := rfl
set_option maxRecDepth 100000 in
theorem jX11_count_45 : zj pX11_count 45 = uX11_count_45 := rfl
set_option maxRecDepth 100000 in
theorem jX11_count_49 : zj pX11_count 49 = uX11_count_49 := rfl
set_option maxRecDepth 100000 in
theorem jX11_count_53 : zj pX11_count 53 = uX11_count_53 := rfl
set_option maxRecDepth 100000 in
theorem jX11_count_57 : zj pX11_count 57 = uX11_count_57 := rfl
set_option maxRecDepth 100000 in
theorem jX11_count_60 : zj pX11_count 60 = uX11_count_60 := rfl
set_option maxRecDepth 100000 in
theorem jX11_count_64 : zj pX11_count 64 = uX11_count_64 := rfl
set_option maxRecDepth 100000 in
theorem jX11_count_68 : zj pX11_count 68 = uX11_count_68 := rfl
set_option maxRecDepth 100000 in
def uX12_inState_24 : List zEn := (37, .iload_n 2, 1, 2, 0, [], 0) :: (38, .ireturn, 1, 0, 0, [], 0) :: []
set_option maxRecDepth 100000 in
def uX12_inState_20 : List zEn := (29, .iadd, 1, 0, 0, [], 0) :: (30, .istore_n 2, 1, 2, 0, [], 0) :: (31, .iinc 3 1, 3, 3, 0, [], 1) :: (34, .goto (-30), 3, 4, 0, [], 0) :: uX12_inState_24
set_option maxRecDepth 100000 in
def uX12_inState_19 : List zEn := (28, .iconst 0, 1, 0, 0, [], 0) :: uX12_inState_20
set_option maxRecDepth 100000 in
def uX12_inState_5 : List zEn := (4, .iload_n 3, 1, 3, 0, [], 0) :: (5, .aload_n 0, 1, 0, 0, [], 0) :: (6, .getfield 7, 3, 12, 0, [(0, 2), (0, 1250)], 0) :: (9, .iconst 1, 1, 0, 0, [], 1) :: (10, .iaload, 1, 0, 0, [], 0) :: (11, .if_icmp .ge 26, 3, 24, 0, [], 0) :: (14, .iload_n 2, 1, 2, 0, [], 0) :: (15, .aload_n 0, 1, 0, 0, [], 0) :: (16, .iload_n 3, 1, 3, 0, [], 0) :: (17, .iload_n 1, 1, 1, 0, [], 0) :: (18, .invokevirtual 174, 3, 91, 3, [(0, 1), (0, 0), (0, 0), (0, 12), (0, 1512)], 0) :: (21, .ifCond .eq 7, 3, 19, 0, [], 0) :: (24, .iconst 1, 1, 0, 0, [], 1) :: (25, .goto 4, 3, 20, 0, [], 0) :: uX12_inState_19
set_option maxRecDepth 100000 in
def tX12_inState_5 : List zEn := uX12_inState_5
set_option maxRecDepth 100000 in
def uX12_inState_4 : List zEn := (4, .nop, 0, 0, 0, [], 0) :: tX12_inState_5
set_option maxRecDepth 100000 in
def uX12_inState_0 : List zEn := (0, .iconst 0, 1, 0, 0, [], 0) :: (1, .istore_n 2, 1, 2, 0, [], 0) :: (2, .iconst 0, 1, 0, 0, [], 0) :: (3, .istore_n 3, 1, 3, 0, [], 0) :: uX12_inState_4
set_option maxRecDepth 100000 in
theorem jX12_inState_4 : zj pX12_inState 4 = uX12_inState_4 := rfl
set_option maxRecDepth 100000 in
theorem jX12_inState_19 : zj pX12_inState 19 = uX12_inState_19 := rfl
set_option maxRecDepth 100000 in
theorem jX12_inState_20 : zj pX12_inState 20 = uX12_inState_20 := rfl
set_option maxRecDepth 100000 in
theorem jX12_inState_24 : zj pX12_inState 24 = uX12_inState_24 := rfl
set_option maxRecDepth 100000 in
def uX12_count_69 : List zEn := (177, .ldc 87, 2, 0, 0, [(0, 1372)], (-1000000001)) :: (179, .ireturn, 1, 0, 0, [], 0) :: []
set_option maxRecDepth 100000 in
def uX12_count_64 : List zEn := (169, .aload_n 0, 1, 0, 0, [], 0) :: (170, .getfield 7, 3, 12, 0, [(0, 2), (0, 1250)], 0) :: (173, .bipush 8, 2, 0, 0, [], 8) :: (175, .iaload, 1, 0, 0, [], 0) :: (176, .ireturn, 1, 0, 0, [], 0) :: uX12_count_69
set_option maxRecDepth 100000 in
def uX12_count_61 : List zEn := (164, .aload_n 0, 1, 0, 0, [], 0) :: (165, .getfield 211, 3, 12, 19, [(0, 0), (0, 1269)], 0) :: (168, .ireturn, 1, 0, 0, [], 0) :: uX12_count_64
set_option maxRecDepth 100000 in
def uX12_count_58 : List zEn := (159, .aload_n 0, 1, 0, 0, [], 0) :: (160, .getfield 346, 3, 12, 35, [(0, 0), (0, 1285)], 0) :: (163, .ireturn, 1, 0, 0, [], 0) :: uX12_count_61
set_option maxRecDepth 100000 in
def uX12_count_53 : List zEn := (151, .aload_n 0, 1, 0, 0, [], 0) :: (152, .getfield 7, 3, 12, 0, [(0, 2), (0, 1250)], 0) :: (155, .bipush 7, 2, 0, 0, [], 7) :: (157, .iaload, 1, 0, 0, [], 0) :: (158, .ireturn, 1, 0, 0, [], 0) :: uX12_count_58
set_option maxRecDepth 100000 in
def uX12_count_48 : List zEn := (143, .aload_n 0, 1, 0, 0, [], 0) :: (144, .getfield 7, 3, 12, 0, [(0, 2), (0, 1250)], 0) :: (147, .bipush 6, 2, 0, 0, [], 6) :: (149, .iaload, 1, 0, 0, [], 0) :: (150, .ireturn, 1, 0, 0, [], 0) :: uX12_count_53
set_option maxRecDepth 100000 in
def uX12_count_43 : List zEn := (136, .aload_n 0, 1, 0, 0, [], 0) :: (137, .getfield 7, 3, 12, 0, [(0, 2), (0, 1250)], 0) :: (140, .iconst 4, 1, 0, 0, [], 4) :: (141, .iaload, 1, 0, 0, [], 0) :: (142, .ireturn, 1, 0, 0, [], 0) :: uX12_count_48
set_option maxRecDepth 100000 in
def uX12_count_38 : List zEn := (128, .aload_n 0, 1, 0, 0, [], 0) :: (129, .getfield 7, 3, 12, 0, [(0, 2), (0, 1250)], 0) :: (132, .bipush 9, 2, 0, 0, [], 9) :: (134, .iaload, 1, 0, 0, [], 0) :: (135, .ireturn, 1, 0, 0, [], 0) :: uX12_count_43
set_option maxRecDepth 100000 in
def uX12_count_33 : List zEn := (121, .aload_n 0, 1, 0, 0, [], 0) :: (122, .getfield 7, 3, 12, 0, [(0, 2), (0, 1250)], 0) :: (125, .iconst 3, 1, 0, 0, [], 3) :: (126, .iaload, 1, 0, 0, [], 0) :: (127, .ireturn, 1, 0, 0, [], 0) :: uX12_count_38
set_option maxRecDepth 100000 in
def uX12_count_28 : List zEn := (114, .aload_n 0, 1, 0, 0, [], 0) :: (115, .getfield 7, 3, 12, 0, [(0, 2), (0, 1250)], 0) :: (118, .iconst 2, 1, 0, 0, [], 2) :: (119, .iaload, 1, 0, 0, [], 0) :: (120, .ireturn, 1, 0, 0, [], 0) :: uX12_count_33
set_option maxRecDepth 100000 in
def uX12_count_24 : List zEn := (108, .aload_n 0, 1, 0, 0, [], 0) :: (109, .iconst 1, 1, 0, 0, [], 1) :: (110, .invokevirtual 359, 3, 265, 2, [(0, 1), (0, 0), (0, 0), (0, 12), (0, 1790)], 0) :: (113, .ireturn, 1, 0, 0, [], 0) :: uX12_count_28
set_option maxRecDepth 100000 in
def uX12_count_20 : List zEn := (102, .aload_n 0, 1, 0, 0, [], 0) :: (103, .iconst 3, 1, 0, 0, [], 3) :: (104, .invokevirtual 362, 3, 273, 2, [(0, 1), (0, 0), (0, 0), (0, 12), (0, 1806)], 0) :: (107, .ireturn, 1, 0, 0, [], 0) :: uX12_count_24
set_option maxRecDepth 100000 in
def uX12_count_16 : List zEn := (96, .aload_n 0, 1, 0, 0, [], 0) :: (97, .iconst 1, 1, 0, 0, [], 1) :: (98, .invokevirtual 362, 3, 273, 2, [(0, 1), (0, 0), (0, 0), (0, 12), (0, 1806)], 0) :: (101, .ireturn, 1, 0, 0, [], 0) :: uX12_count_20
set_option maxRecDepth 100000 in
def uX12_count_12 : List zEn := (90, .aload_n 0, 1, 0, 0, [], 0) :: (91, .iconst 0, 1, 0, 0, [], 0) :: (92, .invokevirtual 362, 3, 273, 2, [(0, 1), (0, 0), (0, 0), (0, 12), (0, 1806)], 0) :: (95, .ireturn, 1, 0, 0, [], 0) :: uX12_count_16
set_option maxRecDepth 100000 in
def uX12_count_7 : List zEn := (83, .aload_n 0, 1, 0, 0, [], 0) :: (84, .getfield 7, 3, 12, 0, [(0, 2), (0, 1250)], 0) :: (87, .iconst 1, 1, 0, 0, [], 1) :: (88, .iaload, 1, 0, 0, [], 0) :: (89, .ireturn, 1, 0, 0, [], 0) :: uX12_count_12
set_option maxRecDepth 100000 in
def uX12_count_2 : List zEn := (76, .aload_n 0, 1, 0, 0, [], 0) :: (77, .getfield 7, 3, 12, 0, [(0, 2), (0, 1250)], 0) :: (80, .iconst 0, 1, 0, 0, [], 0) :: (81, .iaload, 1, 0, 0, [], 0) :: (82, .ireturn, 1, 0, 0, [], 0) :: uX12_count_7
set_option maxRecDepth 100000 in
def uX12_count_0 : List zEn := (0, .iload_n 1, 1, 1, 0, [], 0) :: (1, .tableswitch 176 0 14 #[75, 82, 89, 95, 101, 107, 113, 120, 127, 135, 142, 150, 158, 163, 168], 75, 69, 0, [(0, 2), (1, 7), (2, 12), (3, 16), (4, 20), (5, 24), (6, 28), (7, 33), (8, 38), (9, 43), (10, 48), (11, 53), (12, 58), (13, 61), (14, 64)], 0) :: uX12_count_2
set_option maxRecDepth 100000 in
theorem jX12_count_2 : zj pX12_count 2 = uX12_count_2 := rfl
set_option maxRecDepth 100000 in
theorem jX12_count_7 : zj pX12_count 7 = uX12_count_7 := rfl
set_option maxRecDepth 100000 in
theorem jX12_count_12 : zj pX12_count 12 = uX12_count_12 := rfl
set_option maxRecDepth 100000 in
theorem jX12_count_16 : zj pX12_count 16 = uX12_count_16 := rfl
set_option maxRecDepth 100000 in
theorem jX12_count_20 : zj pX12_count 20 = uX12_count_20 := rfl
set_option maxRecDepth 100000 in
theorem jX12_count_24 : zj pX12_count 24 = uX12_count_24 := rfl
set_option maxRecDepth 100000 in
theorem jX12_count_28 : zj pX12_count 28 = uX12_count_28 := rfl
set_option maxRecDepth 100000 in
theorem jX12_count_33 : zj pX12_count 33 = uX12_count_33 := rfl
set_option maxRecDepth 100000 in
theorem jX12_count_38 : zj pX12_count 38 = uX12_count_38 := rfl
set_option maxRecDepth 100000 in
theorem jX12_count_43 : zj pX12_count 43 = uX12_count_43 := rfl
set_option maxRecDepth 100000 in
theorem jX12_count_48 : zj pX12_count 48 = uX12_count_48 := rfl
set_option maxRecDepth 100000 in
theorem jX12_count_53 : zj pX12_count 53 = uX12_count_53 := rfl
set_option maxRecDepth 100000 in
theorem jX12_count_58 : zj pX12_count 58 = uX12_count_58 := rfl
set_option maxRecDepth 100000 in
theorem jX12_count_61 : zj pX12_count 61 = uX12_count_61 := rfl
set_option maxRecDepth 100000 in
theorem jX12_count_64 : zj pX12_count 64 = uX12_count_64 := rfl
set_option maxRecDepth 100000 in
theorem jX12_count_69 : zj pX12_count 69 = uX12_count_69 := rfl
set_option maxRecDepth 100000 in
def uL_law_1117 : List zEn := (1642, .iconst 1, 1, 0, 0, [], 1) :: (1643, .ireturn, 1, 1, 0, [], 0) :: []
set_option maxRecDepth 100000 in
def uL_law_1115 : List zEn := (1636, .iinc 3 6, 3, 3, 0, [], 6) :: (1639, .goto (-1621), 3, 10, 0, [], 0) :: uL_law_1117
set_option maxRecDepth 100000 in
def uL_law_1098 : List zEn := (1613, .aload_n 1, 1, 1, 0, [], 0) :: (1614, .aload_n 0, 1, 0, 0, [], 0) :: (1615, .iload_n 3, 1, 3, 0, [], 0) :: (1616, .iconst 1, 1, 0, 0, [], 1) :: (1617, .iadd, 1, 0, 0, [], 0) :: (1618, .iaload, 1, 0, 0, [], 0) :: (1619, .invokevirtual 208, 3, 272, 2, [(0, 1), (0, 0), (0, 0), (0, 11), (0, 1236)], 0) :: (1622, .aload_n 2, 1, 2, 0, [], 0) :: (1623, .aload_n 0, 1, 0, 0, [], 0) :: (1624, .iload_n 3, 1, 3, 0, [], 0) :: (1625, .iconst 1, 1, 0, 0, [], 1) :: (1626, .iadd, 1, 0, 0, [], 0) :: (1627, .iaload, 1, 0, 0, [], 0) :: (1628, .invokevirtual 211, 3, 274, 2, [(0, 1), (0, 0), (0, 0), (0, 12), (0, 1802)], 0) :: (1631, .if_icmp .eq 5, 3, 1115, 0, [], 0) :: (1634, .iconst 0, 1, 0, 0, [], 0) :: (1635, .ireturn, 1, 1, 0, [], 0) :: uL_law_1115
set_option maxRecDepth 100000 in
def uL_law_1091 : List zEn := (1600, .aload_n 1, 1, 1, 0, [], 0) :: (1601, .invokevirtual 204, 3, 269, 1, [(0, 1), (0, 0), (0, 0), (0, 11), (0, 1232)], 0) :: (1604, .aload_n 2, 1, 2, 0, [], 0) :: (1605, .invokevirtual 207, 3, 270, 1, [(0, 1), (0, 0), (0, 0), (0, 12), (0, 1798)], 0) :: (1608, .if_icmp .eq 28, 3, 1115, 0, [], 0) :: (1611, .iconst 0, 1, 0, 0, [], 0) :: (1612, .ireturn, 1, 1, 0, [], 0) :: uL_law_1098
set_option maxRecDepth 100000 in
def uL_law_1084 : List zEn := (1587, .aload_n 1, 1, 1, 0, [], 0) :: (1588, .invokevirtual 200, 3, 267, 1, [(0, 1), (0, 0), (0, 0), (0, 11), (0, 1228)], 0) :: (1591, .aload_n 2, 1, 2, 0, [], 0) :: (1592, .invokevirtual 203, 3, 268, 1, [(0, 1), (0, 0), (0, 0), (0, 12), (0, 1794)], 0) :: (1595, .if_icmp .eq 41, 3, 1115, 0, [], 0) :: (1598, .iconst 0, 1, 0, 0, [], 0) :: (1599, .ireturn, 1, 1, 0, [], 0) :: uL_law_1091
set_option maxRecDepth 100000 in
def uL_law_1067 : List zEn := (1564, .aload_n 1, 1, 1, 0, [], 0) :: (1565, .aload_n 0, 1, 0, 0, [], 0) :: (1566, .iload_n 3, 1, 3, 0, [], 0) :: (1567, .iconst 1, 1, 0, 0, [], 1) :: (1568, .iadd, 1, 0, 0, [], 0) :: (1569, .iaload, 1, 0, 0, [], 0) :: (1570, .invokevirtual 196, 3, 263, 2, [(0, 1), (0, 0), (0, 0), (0, 11), (0, 1193)], 0) :: (1573, .aload_n 2, 1, 2, 0, [], 0) :: (1574, .aload_n 0, 1, 0, 0, [], 0) :: (1575, .iload_n 3, 1, 3, 0, [], 0) :: (1576, .iconst 1, 1, 0, 0, [], 1) :: (1577, .iadd, 1, 0, 0, [], 0) :: (1578, .iaload, 1, 0, 0, [], 0) :: (1579, .invokevirtual 199, 3, 266, 2, [(0, 1), (0, 0), (0, 0), (0, 12), (0, 1781)], 0) :: (1582, .if_icmp .eq 54, 3, 1115, 0, [], 0) :: (1585, .iconst 0, 1, 0, 0, [], 0) :: (1586, .ireturn, 1, 1, 0, [], 0) :: uL_law_1084
set_option maxRecDepth 100000 in
def uL_law_1050 : List zEn := (1541, .aload_n 1, 1, 1, 0, [], 0) :: (1542, .aload_n 0, 1, 0, 0, [], 0) :: (1543, .iload_n 3, 1, 3, 0, [], 0) :: (1544, .iconst 1, 1, 0, 0, [], 1) :: (1545, .iadd, 1, 0, 0, [], 0) :: (1546, .iaload, 1, 0, 0, [], 0) :: (1547, .invokevirtual 192, 3, 255, 2, [(0, 1), (0, 0), (0, 0), (0, 11), (0, 1189)], 0) :: (1550, .aload_n 2, 1, 2, 0, [], 0) :: (1551, .aload_n 0, 1, 0, 0, [], 0) :: (1552, .iload_n 3, 1, 3, 0, [], 0) :: (1553, .iconst 1, 1, 0, 0, [], 1) :: (1554, .iadd, 1, 0, 0, [], 0) :: (1555, .iaload, 1, 0, 0, [], 0) :: (1556, .invokevirtual 195, 3, 256, 2, [(0, 1), (0, 0), (0, 0), (0, 12), (0, 1777)], 0) :: (1559, .if_icmp .eq 77, 3, 1115, 0, [], 0) :: (1562, .iconst 0, 1, 0, 0, [], 0) :: (1563, .ireturn, 1, 1, 0, [], 0) :: uL_law_1067
set_option maxRecDepth 100000 in
def uL_law_1023 : List zEn := (1508, .aload_n 1, 1, 1, 0, [], 0) :: (1509, .aload_n 0, 1, 0, 0, [], 0) :: (1510, .iload_n 3, 1, 3, 0, [], 0) :: (1511, .iconst 1, 1, 0, 0, [], 1) :: (1512, .iadd, 1, 0, 0, [], 0) :: (1513, .iaload, 1, 0, 0, [], 0) :: (1514, .aload_n 0, 1, 0, 0, [], 0) :: (1515, .iload_n 3, 1, 3, 0, [], 0) :: (1516, .iconst 2, 1, 0, 0, [], 2) :: (1517, .iadd, 1, 0, 0, [], 0) :: (1518, .iaload, 1, 0, 0, [], 0) :: (1519, .invokevirtual 188, 3, 253, 3, [(0, 1), (0, 0), (0, 0), (0, 11), (0, 1185)], 0) :: (1522, .aload_n 2, 1, 2, 0, [], 0) :: (1523, .aload_n 0, 1, 0, 0, [], 0) :: (1524, .iload_n 3, 1, 3, 0, [], 0) :: (1525, .iconst 1, 1, 0, 0, [], 1) :: (1526, .iadd, 1, 0, 0, [], 0) :: (1527, .iaload, 1, 0, 0, [], 0) :: (1528, .aload_n 0, 1, 0, 0, [], 0) :: (1529, .iload_n 3, 1, 3, 0, [], 0) :: (1530, .iconst 2, 1, 0, 0, [], 2) :: (1531, .iadd, 1, 0, 0, [], 0) :: (1532, .iaload, 1, 0, 0, [], 0) :: (1533, .invokevirtual 191, 3, 254, 3, [(0, 1), (0, 0), (0, 0), (0, 12), (0, 1773)], 0) :: (1536, .if_icmp .eq 100, 3, 1115, 0, [], 0) :: (1539, .iconst 0, 1, 0, 0, [], 0) :: (1540, .ireturn, 1, 1, 0, [], 0) :: uL_law_1050
set_option maxRecDepth 100000 in
def uL_law_996 : List zEn := (1475, .aload_n 1, 1, 1, 0, [], 0) :: (1476, .aload_n 0, 1, 0, 0, [], 0) :: (1477, .iload_n 3, 1, 3, 0, [], 0) :: (1478, .iconst 1, 1, 0, 0, [], 1) :: (1479, .iadd, 1, 0, 0, [], 0) :: (1480, .iaload, 1, 0, 0, [], 0) :: (1481, .aload_n 0, 1, 0, 0, [], 0) :: (1482, .iload_n 3, 1, 3, 0, [], 0) :: (1483, .iconst 2, 1, 0, 0, [], 2) :: (1484, .iadd, 1, 0, 0, [], 0) :: (1485, .iaload, 1, 0, 0, [], 0) :: (1486, .invokevirtual 184, 3, 251, 3, [(0, 1), (0, 0), (0, 0), (0, 11), (0, 1181)], 0) :: (1489, .aload_n 2, 1, 2, 0, [], 0) :: (1490, .aload_n 0, 1, 0, 0, [], 0) :: (1491, .iload_n 3, 1, 3, 0, [], 0) :: (1492, .iconst 1, 1, 0, 0, [], 1) :: (1493, .iadd, 1, 0, 0, [], 0) :: (1494, .iaload, 1, 0, 0, [], 0) :: (1495, .aload_n 0, 1, 0, 0, [], 0) :: (1496, .iload_n 3, 1, 3, 0, [], 0) :: (1497, .iconst 2, 1, 0, 0, [], 2) :: (1498, .iadd, 1, 0, 0, [], 0) :: (1499, .iaload, 1, 0, 0, [], 0) :: (1500, .invokevirtual 187, 3, 252, 3, [(0, 1), (0, 0), (0, 0), (0, 12), (0, 1769)], 0) :: (1503, .if_icmp .eq 133, 3, 1115, 0, [], 0) :: (1506, .iconst 0, 1, 0, 0, [], 0) :: (1507, .ireturn, 1, 1, 0, [], 0) :: uL_law_1023
set_option maxRecDepth 100000 in
def uL_law_969 : List zEn := (1442, .aload_n 1, 1, 1, 0, [], 0) :: (1443, .aload_n 0, 1, 0, 0, [], 0) :: (1444, .iload_n 3, 1, 3, 0, [], 0) :: (1445, .iconst 1, 1, 0, 0, [], 1) :: (1446, .iadd, 1, 0, 0, [], 0) :: (1447, .iaload, 1, 0, 0, [], 0) :: (1448, .aload_n 0, 1, 0, 0, [], 0) :: (1449, .iload_n 3, 1, 3, 0, [], 0) :: (1450, .iconst 2, 1, 0, 0, [], 2) :: (1451, .iadd, 1, 0, 0, [], 0) :: (1452, .iaload, 1, 0, 0, [], 0) :: (1453, .invokevirtual 180, 3, 249, 3, [(0, 1), (0, 0), (0, 0), (0, 11), (0, 1173)], 0) :: (1456, .aload_n 2, 1, 2, 0, [], 0) :: (1457, .aload_n 0, 1, 0, 0, [], 0) :: (1458, .iload_n 3, 1, 3, 0, [], 0) :: (1459, .iconst 1, 1, 0, 0, [], 1) :: (1460, .iadd, 1, 0, 0, [], 0) :: (1461, .iaload, 1, 0, 0, [], 0) :: (1462, .aload_n 0, 1, 0, 0, [], 0) :: (1463, .iload_n 3, 1, 3, 0, [], 0) :: (1464, .iconst 2, 1, 0, 0, [], 2) :: (1465, .iadd, 1, 0, 0, [], 0) :: (1466, .iaload, 1, 0, 0, [], 0) :: (1467, .invokevirtual 183, 3, 250, 3, [(0, 1), (0, 0), (0, 0), (0, 12), (0, 1765)], 0) :: (1470, .if_icmp .eq 166, 3, 1115, 0, [], 0) :: (1473, .iconst 0, 1, 0, 0, [], 0) :: (1474, .ireturn, 1, 1, 0, [], 0) :: uL_law_996
set_option maxRecDepth 100000 in
def uL_law_932 : List zEn := (1399, .aload_n 1, 1, 1, 0, [], 0) :: (1400, .aload_n 0, 1, 0, 0, [], 0) :: (1401, .iload_n 3, 1, 3, 0, [], 0) :: (1402, .iconst 1, 1, 0, 0, [], 1) :: (1403, .iadd, 1, 0, 0, [], 0) :: (1404, .iaload, 1, 0, 0, [], 0) :: (1405, .aload_n 0, 1, 0, 0, [], 0) :: (1406, .iload_n 3, 1, 3, 0, [], 0) :: (1407, .iconst 2, 1, 0, 0, [], 2) :: (1408, .iadd, 1, 0, 0, [], 0) :: (1409, .iaload, 1, 0, 0, [], 0) :: (1410, .aload_n 0, 1, 0, 0, [], 0) :: (1411, .iload_n 3, 1, 3, 0, [], 0) :: (1412, .iconst 3, 1, 0, 0, [], 3) :: (1413, .iadd, 1, 0, 0, [], 0) :: (1414, .iaload, 1, 0, 0, [], 0) :: (1415, .invokevirtual 176, 3, 245, 4, [(0, 1), (0, 0), (0, 0), (0, 11), (0, 1153)], 0) :: (1418, .aload_n 2, 1, 2, 0, [], 0) :: (1419, .aload_n 0, 1, 0, 0, [], 0) :: (1420, .iload_n 3, 1, 3, 0, [], 0) :: (1421, .iconst 1, 1, 0, 0, [], 1) :: (1422, .iadd, 1, 0, 0, [], 0) :: (1423, .iaload, 1, 0, 0, [], 0) :: (1424, .aload_n 0, 1, 0, 0, [], 0) :: (1425, .iload_n 3, 1, 3, 0, [], 0) :: (1426, .iconst 2, 1, 0, 0, [], 2) :: (1427, .iadd, 1, 0, 0, [], 0) :: (1428, .iaload, 1, 0, 0, [], 0) :: (1429, .aload_n 0, 1, 0, 0, [], 0) :: (1430, .iload_n 3, 1, 3, 0, [], 0) :: (1431, .iconst 3, 1, 0, 0, [], 3) :: (1432, .iadd, 1, 0, 0, [], 0) :: (1433, .iaload, 1, 0, 0, [], 0) :: (1434, .invokevirtual 179, 3, 247, 4, [(0, 1), (0, 0), (0, 0), (0, 12), (0, 1757)], 0) :: (1437, .if_icmp .eq 199, 3, 1115, 0, [], 0) :: (1440, .iconst 0, 1, 0, 0, [], 0) :: (1441, .ireturn, 1, 1, 0, [], 0) :: uL_law_969
set_option maxRecDepth 100000 in
def uL_law_875 : List zEn := (1336, .aload_n 1, 1, 1, 0, [], 0) :: (1337, .aload_n 0, 1, 0, 0, [], 0) :: (1338, .iload_n 3, 1, 3, 0, [], 0) :: (1339, .iconst 1, 1, 0, 0, [], 1) :: (1340, .iadd, 1, 0, 0, [], 0) :: (1341, .iaload, 1, 0, 0, [], 0) :: (1342, .aload_n 0, 1, 0, 0, [], 0) :: (1343, .iload_n 3, 1, 3, 0, [], 0) :: (1344, .iconst 2, 1, 0, 0, [], 2) :: (1345, .iadd, 1, 0, 0, [], 0) :: (1346, .iaload, 1, 0, 0, [], 0) :: (1347, .aload_n 0, 1, 0, 0, [], 0) :: (1348, .iload_n 3, 1, 3, 0, [], 0) :: (1349, .iconst 3, 1, 0, 0, [], 3) :: (1350, .iadd, 1, 0, 0, [], 0) :: (1351, .iaload, 1, 0, 0, [], 0) :: (1352, .aload_n 0, 1, 0, 0, [], 0) :: (1353, .iload_n 3, 1, 3, 0, [], 0) :: (1354, .iconst 4, 1, 0, 0, [], 4) :: (1355, .iadd, 1, 0, 0, [], 0) :: (1356, .iaload, 1, 0, 0, [], 0) :: (1357, .aload_n 0, 1, 0, 0, [], 0) :: (1358, .iload_n 3, 1, 3, 0, [], 0) :: (1359, .iconst 5, 1, 0, 0, [], 5) :: (1360, .iadd, 1, 0, 0, [], 0) :: (1361, .iaload, 1, 0, 0, [], 0) :: (1362, .invokevirtual 171, 3, 239, 6, [(0, 1), (0, 0), (0, 0), (0, 11), (0, 1144)], 0) :: (1365, .aload_n 2, 1, 2, 0, [], 0) :: (1366, .aload_n 0, 1, 0, 0, [], 0) :: (1367, .iload_n 3, 1, 3, 0, [], 0) :: (1368, .iconst 1, 1, 0, 0, [], 1) :: (1369, .iadd, 1, 0, 0, [], 0) :: (1370, .iaload, 1, 0, 0, [], 0) :: (1371, .aload_n 0, 1, 0, 0, [], 0) :: (1372, .iload_n 3, 1, 3, 0, [], 0) :: (1373, .iconst 2, 1, 0, 0, [], 2) :: (1374, .iadd, 1, 0, 0, [], 0) :: (1375, .iaload, 1, 0, 0, [], 0) :: (1376, .aload_n 0, 1, 0, 0, [], 0) :: (1377, .iload_n 3, 1, 3, 0, [], 0) :: (1378, .iconst 3, 1, 0, 0, [], 3) :: (1379, .iadd, 1, 0, 0, [], 0) :: (1380, .iaload, 1, 0, 0, [], 0) :: (1381, .aload_n 0, 1, 0, 0, [], 0) :: (1382, .iload_n 3, 1, 3, 0, [], 0) :: (1383, .iconst 4, 1, 0, 0, [], 4) :: (1384, .iadd, 1, 0, 0, [], 0) :: (1385, .iaload, 1, 0, 0, [], 0) :: (1386, .aload_n 0, 1, 0, 0, [], 0) :: (1387, .iload_n 3, 1, 3, 0, [], 0) :: (1388, .iconst 5, 1, 0, 0, [], 5) :: (1389, .iadd, 1, 0, 0, [], 0) :: (1390, .iaload, 1, 0, 0, [], 0) :: (1391, .invokevirtual 175, 3, 240, 6, [(0, 1), (0, 0), (0, 0), (0, 12), (0, 1753)], 0) :: (1394, .if_icmp .eq 242, 3, 1115, 0, [], 0) :: (1397, .iconst 0, 1, 0, 0, [], 0) :: (1398, .ireturn, 1, 1, 0, [], 0) :: uL_law_932
set_option maxRecDepth 100000 in
def uL_law_848 : List zEn := (1303, .aload_n 1, 1, 1, 0, [], 0) :: (1304, .aload_n 0, 1, 0, 0, [], 0) :: (1305, .iload_n 3, 1, 3, 0, [], 0) :: (1306, .iconst 1, 1, 0, 0, [], 1) :: (1307, .iadd, 1, 0, 0, [], 0) :: (1308, .iaload, 1, 0, 0, [], 0) :: (1309, .aload_n 0, 1, 0, 0, [], 0) :: (1310, .iload_n 3, 1, 3, 0, [], 0) :: (1311, .iconst 2, 1, 0, 0, [], 2) :: (1312, .iadd, 1, 0, 0, [], 0) :: (1313, .iaload, 1, 0, 0, [], 0) :: (1314, .invokevirtual 167, 3, 236, 3, [(0, 1), (0, 0), (0, 0), (0, 11), (0, 1138)], 0) :: (1317, .aload_n 2, 1, 2, 0, [], 0) :: (1318, .aload_n 0, 1, 0, 0, [], 0) :: (1319, .iload_n 3, 1, 3, 0, [], 0) :: (1320, .iconst 1, 1, 0, 0, [], 1) :: (1321, .iadd, 1, 0, 0, [], 0) :: (1322, .iaload, 1, 0, 0, [], 0) :: (1323, .aload_n 0, 1, 0, 0, [], 0) :: (1324, .iload_n 3, 1, 3, 0, [], 0) :: (1325, .iconst 2, 1, 0, 0, [], 2) :: (1326, .iadd, 1, 0, 0, [], 0) :: (1327, .iaload, 1, 0, 0, [], 0) :: (1328, .invokevirtual 170, 3, 237, 3, [(0, 1), (0, 0), (0, 0), (0, 12), (0, 1749)], 0) :: (1331, .if_icmp .eq 305, 3, 1115, 0, [], 0) :: (1334, .iconst 0, 1, 0, 0, [], 0) :: (1335, .ireturn, 1, 1, 0, [], 0) :: uL_law_875
set_option maxRecDepth 100000 in
def uL_law_821 : List zEn := (1270, .aload_n 1, 1, 1, 0, [], 0) :: (1271, .aload_n 0, 1, 0, 0, [], 0) :: (1272, .iload_n 3, 1, 3, 0, [], 0) :: (1273, .iconst 1, 1, 0, 0, [], 1) :: (1274, .iadd, 1, 0, 0, [], 0) :: (1275, .iaload, 1, 0, 0, [], 0) :: (1276, .aload_n 0, 1, 0, 0, [], 0) :: (1277, .iload_n 3, 1, 3, 0, [], 0) :: (1278, .iconst 2, 1, 0, 0, [], 2) :: (1279, .iadd, 1, 0, 0, [], 0) :: (1280, .iaload, 1, 0, 0, [], 0) :: (1281, .invokevirtual 163, 3, 234, 3, [(0, 1), (0, 0), (0, 0), (0, 11), (0, 1134)], 0) :: (1284, .aload_n 2, 1, 2, 0, [], 0) :: (1285, .aload_n 0, 1, 0, 0, [], 0) :: (1286, .iload_n 3, 1, 3, 0, [], 0) :: (1287, .iconst 1, 1, 0, 0, [], 1) :: (1288, .iadd, 1, 0, 0, [], 0) :: (1289, .iaload, 1, 0, 0, [], 0) :: (1290, .aload_n 0, 1, 0, 0, [], 0) :: (1291, .iload_n 3, 1, 3, 0, [], 0) :: (1292, .iconst 2, 1, 0, 0, [], 2) :: (1293, .iadd, 1, 0, 0, [], 0) :: (1294, .iaload, 1, 0, 0, [], 0) :: (1295, .invokevirtual 166, 3, 235, 3, [(0, 1), (0, 0), (0, 0), (0, 12), (0, 1745)], 0) :: (1298, .if_icmp .eq 338, 3, 1115, 0, [], 0) :: (1301, .iconst 0, 1, 0, 0, [], 0) :: (1302, .ireturn, 1, 1, 0, [], 0) :: uL_law_848
set_option maxRecDepth 100000 in
def uL_law_784 : List zEn := (1227, .aload_n 1, 1, 1, 0, [], 0) :: (1228, .aload_n 0, 1, 0, 0, [], 0) :: (1229, .iload_n 3, 1, 3, 0, [], 0) :: (1230, .iconst 1, 1, 0, 0, [], 1) :: (1231, .iadd, 1, 0, 0, [], 0) :: (1232, .iaload, 1, 0, 0, [], 0) :: (1233, .aload_n 0, 1, 0, 0, [], 0) :: (1234, .iload_n 3, 1, 3, 0, [], 0) :: (1235, .iconst 2, 1, 0, 0, [], 2) :: (1236, .iadd, 1, 0, 0, [], 0) :: (1237, .iaload, 1, 0, 0, [], 0) :: (1238, .aload_n 0, 1, 0, 0, [], 0) :: (1239, .iload_n 3, 1, 3, 0, [], 0) :: (1240, .iconst 3, 1, 0, 0, [], 3) :: (1241, .iadd, 1, 0, 0, [], 0) :: (1242, .iaload, 1, 0, 0, [], 0) :: (1243, .invokevirtual 159, 3, 232, 4, [(0, 1), (0, 0), (0, 0), (0, 11), (0, 1126)], 0) :: (1246, .aload_n 2, 1, 2, 0, [], 0) :: (1247, .aload_n 0, 1, 0, 0, [], 0) :: (1248, .iload_n 3, 1, 3, 0, [], 0) :: (1249, .iconst 1, 1, 0, 0, [], 1) :: (1250, .iadd, 1, 0, 0, [], 0) :: (1251, .iaload, 1, 0, 0, [], 0) :: (1252, .aload_n 0, 1, 0, 0, [], 0) :: (1253, .iload_n 3, 1, 3, 0, [], 0) :: (1254, .iconst 2, 1, 0, 0, [], 2) :: (1255, .iadd, 1, 0, 0, [], 0) :: (1256, .iaload, 1, 0, 0, [], 0) :: (1257, .aload_n 0, 1, 0, 0, [], 0) :: (1258, .iload_n 3, 1, 3, 0, [], 0) :: (1259, .iconst 3, 1, 0, 0, [], 3) :: (1260, .iadd, 1, 0, 0, [], 0) :: (1261, .iaload, 1, 0, 0, [], 0) :: (1262, .invokevirtual 162, 3, 233, 4, [(0, 1), (0, 0), (0, 0), (0, 12), (0, 1737)], 0) :: (1265, .if_icmp .eq 371, 3, 1115, 0, [], 0) :: (1268, .iconst 0, 1, 0, 0, [], 0) :: (1269, .ireturn, 1, 1, 0, [], 0) :: uL_law_821
set_option maxRecDepth 100000 in
def uL_law_747 : List zEn := (1184, .aload_n 1, 1, 1, 0, [], 0) :: (1185, .aload_n 0, 1, 0, 0, [], 0) :: (1186, .iload_n 3, 1, 3, 0, [], 0) :: (1187, .iconst 1, 1, 0, 0, [], 1) :: (1188, .iadd, 1, 0, 0, [], 0) :: (1189, .iaload, 1, 0, 0, [], 0) :: (1190, .aload_n 0, 1, 0, 0, [], 0) :: (1191, .iload_n 3, 1, 3, 0, [], 0) :: (1192, .iconst 2, 1, 0, 0, [], 2) :: (1193, .iadd, 1, 0, 0, [], 0) :: (1194, .iaload, 1, 0, 0, [], 0) :: (1195, .aload_n 0, 1, 0, 0, [], 0) :: (1196, .iload_n 3, 1, 3, 0, [], 0) :: (1197, .iconst 3, 1, 0, 0, [], 3) :: (1198, .iadd, 1, 0, 0, [], 0) :: (1199, .iaload, 1, 0, 0, [], 0) :: (1200, .invokevirtual 155, 3, 229, 4, [(0, 1), (0, 0), (0, 0), (0, 11), (0, 1114)], 0) :: (1203, .aload_n 2, 1, 2, 0, [], 0) :: (1204, .aload_n 0, 1, 0, 0, [], 0) :: (1205, .iload_n 3, 1, 3, 0, [], 0) :: (1206, .iconst 1, 1, 0, 0, [], 1) :: (1207, .iadd, 1, 0, 0, [], 0) :: (1208, .iaload, 1, 0, 0, [], 0) :: (1209, .aload_n 0, 1, 0, 0, [], 0) :: (1210, .iload_n 3, 1, 3, 0, [], 0) :: (1211, .iconst 2, 1, 0, 0, [], 2) :: (1212, .iadd, 1, 0, 0, [], 0) :: (1213, .iaload, 1, 0, 0, [], 0) :: (1214, .aload_n 0, 1, 0, 0, [], 0) :: (1215, .iload_n 3, 1, 3, 0, [], 0) :: (1216, .iconst 3, 1, 0, 0, [], 3) :: (1217, .iadd, 1, 0, 0, [], 0) :: (1218, .iaload, 1, 0, 0, [], 0) :: (1219, .invokevirtual 158, 3, 231, 4, [(0, 1), (0, 0), (0, 0), (0, 12), (0, 1729)], 0) :: (1222, .if_icmp .eq 414, 3, 1115, 0, [], 0) :: (1225, .iconst 0, 1, 0, 0, [], 0) :: (1226, .ireturn, 1, 1, 0, [], 0) :: uL_law_784
set_option maxRecDepth 100000 in
def uL_law_730 : List zEn := (1161, .aload_n 1, 1, 1, 0, [], 0) :: (1162, .aload_n 0, 1, 0, 0, [], 0) :: (1163, .iload_n 3, 1, 3, 0, [], 0) :: (1164, .iconst 1, 1, 0, 0, [], 1) :: (1165, .iadd, 1, 0, 0, [], 0) :: (1166, .iaload, 1, 0, 0, [], 0) :: (1167, .invokevirtual 151, 3, 225, 2, [(0, 1), (0, 0), (0, 0), (0, 11), (0, 1110)], 0) :: (1170, .aload_n 2, 1, 2, 0, [], 0) :: (1171, .aload_n 0, 1, 0, 0, [], 0) :: (1172, .iload_n 3, 1, 3, 0, [], 0) :: (1173, .iconst 1, 1, 0, 0, [], 1) :: (1174, .iadd, 1, 0, 0, [], 0) :: (1175, .iaload, 1, 0, 0, [], 0) :: (1176, .invokevirtual 154, 3, 226, 2, [(0, 1), (0, 0), (0, 0), (0, 12), (0, 1725)], 0) :: (1179, .if_icmp .eq 457, 3, 1115, 0, [], 0) :: (1182, .iconst 0, 1, 0, 0, [], 0) :: (1183, .ireturn, 1, 1, 0, [], 0) :: uL_law_747
set_option maxRecDepth 100000 in
def uL_law_723 : List zEn := (1148, .aload_n 1, 1, 1, 0, [], 0) :: (1149, .invokevirtual 147, 3, 223, 1, [(0, 1), (0, 0), (0, 0), (0, 11), (0, 1106)], 0) :: (1152, .aload_n 2, 1, 2, 0, [], 0) :: (1153, .invokevirtual 150, 3, 224, 1, [(0, 1), (0, 0), (0, 0), (0, 12), (0, 1721)], 0) :: (1156, .if_icmp .eq 480, 3, 1115, 0, [], 0) :: (1159, .iconst 0, 1, 0, 0, [], 0) :: (1160, .ireturn, 1, 1, 0, [], 0) :: uL_law_730
set_option maxRecDepth 100000 in
def uL_law_706 : List zEn := (1125, .aload_n 1, 1, 1, 0, [], 0) :: (1126, .aload_n 0, 1, 0, 0, [], 0) :: (1127, .iload_n 3, 1, 3, 0, [], 0) :: (1128, .iconst 1, 1, 0, 0, [], 1) :: (1129, .iadd, 1, 0, 0, [], 0) :: (1130, .iaload, 1, 0, 0, [], 0) :: (1131, .invokevirtual 143, 3, 220, 2, [(0, 1), (0, 0), (0, 0), (0, 11), (0, 1094)], 0) :: (1134, .aload_n 2, 1, 2, 0, [], 0) :: (1135, .aload_n 0, 1, 0, 0, [], 0) :: (1136, .iload_n 3, 1, 3, 0, [], 0) :: (1137, .iconst 1, 1, 0, 0, [], 1) :: (1138, .iadd, 1, 0, 0, [], 0) :: (1139, .iaload, 1, 0, 0, [], 0) :: (1140, .invokevirtual 146, 3, 222, 2, [(0, 1), (0, 0), (0, 0), (0, 12), (0, 1713)], 0) :: (1143, .if_icmp .eq 493, 3, 1115, 0, [], 0) :: (1146, .iconst 0, 1, 0, 0, [], 0) :: (1147, .ireturn, 1, 1, 0, [], 0) :: uL_law_723
set_option maxRecDepth 100000 in
def uL_law_689 : List zEn := (1102, .aload_n 1, 1, 1, 0, [], 0) :: (1103, .aload_n 0, 1, 0, 0, [], 0) :: (1104, .iload_n 3, 1, 3, 0, [], 0) :: (1105, .iconst 1, 1, 0, 0, [], 1) :: (1106, .iadd, 1, 0, 0, [], 0) :: (1107, .iaload, 1, 0, 0, [], 0) :: (1108, .invokevirtual 139, 3, 214, 2, [(0, 1), (0, 0), (0, 0), (0, 11), (0, 1080)], 0) :: (1111, .aload_n 2, 1, 2, 0, [], 0) :: (1112, .aload_n 0, 1, 0, 0, [], 0) :: (1113, .iload_n 3, 1, 3, 0, [], 0) :: (1114, .iconst 1, 1, 0, 0, [], 1) :: (1115, .iadd, 1, 0, 0, [], 0) :: (1116, .iaload, 1, 0, 0, [], 0) :: (1117, .invokevirtual 142, 3, 217, 2, [(0, 1), (0, 0), (0, 0), (0, 12), (0, 1699)], 0) :: (1120, .if_icmp .eq 516, 3, 1115, 0, [], 0) :: (1123, .iconst 0, 1, 0, 0, [], 0) :: (1124, .ireturn, 1, 1, 0, [], 0) :: uL_law_706
set_option maxRecDepth 100000 in
def uL_law_682 : List zEn := (1089, .aload_n 1, 1, 1, 0, [], 0) :: (1090, .invokevirtual 135, 3, 210, 1, [(0, 1), (0, 0), (0, 0), (0, 11), (0, 1066)], 0) :: (1093, .aload_n 2, 1, 2, 0, [], 0) :: (1094, .invokevirtual 138, 3, 211, 1, [(0, 1), (0, 0), (0, 0), (0, 12), (0, 1695)], 0) :: (1097, .if_icmp .eq 539, 3, 1115, 0, [], 0) :: (1100, .iconst 0, 1, 0, 0, [], 0) :: (1101, .ireturn, 1, 1, 0, [], 0) :: uL_law_689
set_option maxRecDepth 100000 in
def uL_law_675 : List zEn := (1076, .aload_n 1, 1, 1, 0, [], 0) :: (1077, .invokevirtual 131, 3, 205, 1, [(0, 1), (0, 0), (0, 0), (0, 11), (0, 1050)], 0) :: (1080, .aload_n 2, 1, 2, 0, [], 0) :: (1081, .invokevirtual 134, 3, 207, 1, [(0, 1), (0, 0), (0, 0), (0, 12), (0, 1687)], 0) :: (1084, .if_icmp .eq 552, 3, 1115, 0, [], 0) :: (1087, .iconst 0, 1, 0, 0, [], 0) :: (1088, .ireturn, 1, 1, 0, [], 0) :: uL_law_682
set_option maxRecDepth 100000 in
def uL_law_668 : List zEn := (1063, .aload_n 1, 1, 1, 0, [], 0) :: (1064, .invokevirtual 127, 3, 201, 1, [(0, 1), (0, 0), (0, 0), (0, 11), (0, 1046)], 0) :: (1067, .aload_n 2, 1, 2, 0, [], 0) :: (1068, .invokevirtual 130, 3, 202, 1, [(0, 1), (0, 0), (0, 0), (0, 12), (0, 1683)], 0) :: (1071, .if_icmp .eq 565, 3, 1115, 0, [], 0) :: (1074, .iconst 0, 1, 0, 0, [], 0) :: (1075, .ireturn, 1, 1, 0, [], 0) :: uL_law_675
set_option maxRecDepth 100000 in
def uL_law_664 : List zEn := (1055, .invokevirtual 126, 3, 200, 3, [(0, 1), (0, 0), (0, 0), (0, 12), (0, 1679)], 0) :: (1058, .if_icmp .eq 578, 3, 1115, 0, [], 0) :: (1061, .iconst 0, 1, 0, 0, [], 0) :: (1062, .ireturn, 1, 1, 0, [], 0) :: uL_law_668
set_option maxRecDepth 100000 in
def uL_law_663 : List zEn := (1054, .iconst 0, 1, 0, 0, [], 0) :: uL_law_664
set_option maxRecDepth 100000 in
def uL_law_648 : List zEn := (1033, .invokevirtual 122, 3, 199, 3, [(0, 1), (0, 0), (0, 0), (0, 11), (0, 1042)], 0) :: (1036, .aload_n 2, 1, 2, 0, [], 0) :: (1037, .aload_n 0, 1, 0, 0, [], 0) :: (1038, .iload_n 3, 1, 3, 0, [], 0) :: (1039, .iconst 1, 1, 0, 0, [], 1) :: (1040, .iadd, 1, 0, 0, [], 0) :: (1041, .iaload, 1, 0, 0, [], 0) :: (1042, .aload_n 0, 1, 0, 0, [], 0) :: (1043, .iload_n 3, 1, 3, 0, [], 0) :: (1044, .iconst 2, 1, 0, 0, [], 2) :: (1045, .iadd, 1, 0, 0, [], 0) :: (1046, .iaload, 1, 0, 0, [], 0) :: (1047, .ifCond .eq 7, 3, 663, 0, [], 0) :: (1050, .iconst 1, 1, 0, 0, [], 1) :: (1051, .goto 4, 3, 664, 0, [], 0) :: uL_law_663
set_option maxRecDepth 100000 in
def uL_law_647 : List zEn := (1032, .iconst 0, 1, 0, 0, [], 0) :: uL_law_648
set_option maxRecDepth 100000 in
def uL_law_633 : List zEn := (1014, .aload_n 1, 1, 1, 0, [], 0) :: (1015, .aload_n 0, 1, 0, 0, [], 0) :: (1016, .iload_n 3, 1, 3, 0, [], 0) :: (1017, .iconst 1, 1, 0, 0, [], 1) :: (1018, .iadd, 1, 0, 0, [], 0) :: (1019, .iaload, 1, 0, 0, [], 0) :: (1020, .aload_n 0, 1, 0, 0, [], 0) :: (1021, .iload_n 3, 1, 3, 0, [], 0) :: (1022, .iconst 2, 1, 0, 0, [], 2) :: (1023, .iadd, 1, 0, 0, [], 0) :: (1024, .iaload, 1, 0, 0, [], 0) :: (1025, .ifCond .eq 7, 3, 647, 0, [], 0) :: (1028, .iconst 1, 1, 0, 0, [], 1) :: (1029, .goto 4, 3, 648, 0, [], 0) :: uL_law_647
set_option maxRecDepth 100000 in
def uL_law_616 : List zEn := (991, .aload_n 1, 1, 1, 0, [], 0) :: (992, .aload_n 0, 1, 0, 0, [], 0) :: (993, .iload_n 3, 1, 3, 0, [], 0) :: (994, .iconst 1, 1, 0, 0, [], 1) :: (995, .iadd, 1, 0, 0, [], 0) :: (996, .iaload, 1, 0, 0, [], 0) :: (997, .invokevirtual 118, 3, 197, 2, [(0, 1), (0, 0), (0, 0), (0, 11), (0, 1038)], 0) :: (1000, .aload_n 2, 1, 2, 0, [], 0) :: (1001, .aload_n 0, 1, 0, 0, [], 0) :: (1002, .iload_n 3, 1, 3, 0, [], 0) :: (1003, .iconst 1, 1, 0, 0, [], 1) :: (1004, .iadd, 1, 0, 0, [], 0) :: (1005, .iaload, 1, 0, 0, [], 0) :: (1006, .invokevirtual 121, 3, 198, 2, [(0, 1), (0, 0), (0, 0), (0, 12), (0, 1674)], 0) :: (1009, .if_icmp .eq 627, 3, 1115, 0, [], 0) :: (1012, .iconst 0, 1, 0, 0, [], 0) :: (1013, .ireturn, 1, 1, 0, [], 0) :: uL_law_633
set_option maxRecDepth 100000 in
def uL_law_589 : List zEn := (958, .aload_n 1, 1, 1, 0, [], 0) :: (959, .aload_n 0, 1, 0, 0, [], 0) :: (960, .iload_n 3, 1, 3, 0, [], 0) :: (961, .iconst 1, 1, 0, 0, [], 1) :: (962, .iadd, 1, 0, 0, [], 0) :: (963, .iaload, 1, 0, 0, [], 0) :: (964, .aload_n 0, 1, 0, 0, [], 0) :: (965, .iload_n 3, 1, 3, 0, [], 0) :: (966, .iconst 2, 1, 0, 0, [], 2) :: (967, .iadd, 1, 0, 0, [], 0) :: (968, .iaload, 1, 0, 0, [], 0) :: (969, .invokevirtual 114, 3, 195, 3, [(0, 1), (0, 0), (0, 0), (0, 11), (0, 1034)], 0) :: (972, .aload_n 2, 1, 2, 0, [], 0) :: (973, .aload_n 0, 1, 0, 0, [], 0) :: (974, .iload_n 3, 1, 3, 0, [], 0) :: (975, .iconst 1, 1, 0, 0, [], 1) :: (976, .iadd, 1, 0, 0, [], 0) :: (977, .iaload, 1, 0, 0, [], 0) :: (978, .aload_n 0, 1, 0, 0, [], 0) :: (979, .iload_n 3, 1, 3, 0, [], 0) :: (980, .iconst 2, 1, 0, 0, [], 2) :: (981, .iadd, 1, 0, 0, [], 0) :: (982, .iaload, 1, 0, 0, [], 0) :: (983, .invokevirtual 117, 3, 196, 3, [(0, 1), (0, 0), (0, 0), (0, 12), (0, 1670)], 0) :: (986, .if_icmp .eq 650, 3, 1115, 0, [], 0) :: (989, .iconst 0, 1, 0, 0, [], 0) :: (990, .ireturn, 1, 1, 0, [], 0) :: uL_law_616
set_option maxRecDepth 100000 in
def uL_law_572 : List zEn := (935, .aload_n 1, 1, 1, 0, [], 0) :: (936, .aload_n 0, 1, 0, 0, [], 0) :: (937, .iload_n 3, 1, 3, 0, [], 0) :: (938, .iconst 1, 1, 0, 0, [], 1) :: (939, .iadd, 1, 0, 0, [], 0) :: (940, .iaload, 1, 0, 0, [], 0) :: (941, .invokevirtual 110, 3, 193, 2, [(0, 1), (0, 0), (0, 0), (0, 11), (0, 1030)], 0) :: (944, .aload_n 2, 1, 2, 0, [], 0) :: (945, .aload_n 0, 1, 0, 0, [], 0) :: (946, .iload_n 3, 1, 3, 0, [], 0) :: (947, .iconst 1, 1, 0, 0, [], 1) :: (948, .iadd, 1, 0, 0, [], 0) :: (949, .iaload, 1, 0, 0, [], 0) :: (950, .invokevirtual 113, 3, 194, 2, [(0, 1), (0, 0), (0, 0), (0, 12), (0, 1665)], 0) :: (953, .if_icmp .eq 683, 3, 1115, 0, [], 0) :: (956, .iconst 0, 1, 0, 0, [], 0) :: (957, .ireturn, 1, 1, 0, [], 0) :: uL_law_589
set_option maxRecDepth 100000 in
def uL_law_545 : List zEn := (902, .aload_n 1, 1, 1, 0, [], 0) :: (903, .aload_n 0, 1, 0, 0, [], 0) :: (904, .iload_n 3, 1, 3, 0, [], 0) :: (905, .iconst 1, 1, 0, 0, [], 1) :: (906, .iadd, 1, 0, 0, [], 0) :: (907, .iaload, 1, 0, 0, [], 0) :: (908, .aload_n 0, 1, 0, 0, [], 0) :: (909, .iload_n 3, 1, 3, 0, [], 0) :: (910, .iconst 2, 1, 0, 0, [], 2) :: (911, .iadd, 1, 0, 0, [], 0) :: (912, .iaload, 1, 0, 0, [], 0) :: (913, .invokevirtual 106, 3, 190, 3, [(0, 1), (0, 0), (0, 0), (0, 11), (0, 1026)], 0) :: (916, .aload_n 2, 1, 2, 0, [], 0) :: (917, .aload_n 0, 1, 0, 0, [], 0) :: (918, .iload_n 3, 1, 3, 0, [], 0) :: (919, .iconst 1, 1, 0, 0, [], 1) :: (920, .iadd, 1, 0, 0, [], 0) :: (921, .iaload, 1, 0, 0, [], 0) :: (922, .aload_n 0, 1, 0, 0, [], 0) :: (923, .iload_n 3, 1, 3, 0, [], 0) :: (924, .iconst 2, 1, 0, 0, [], 2) :: (925, .iadd, 1, 0, 0, [], 0) :: (926, .iaload, 1, 0, 0, [], 0) :: (927, .invokevirtual 109, 3, 192, 3, [(0, 1), (0, 0), (0, 0), (0, 12), (0, 1657)], 0) :: (930, .if_icmp .eq 706, 3, 1115, 0, [], 0) :: (933, .iconst 0, 1, 0, 0, [], 0) :: (934, .ireturn, 1, 1, 0, [], 0) :: uL_law_572
set_option maxRecDepth 100000 in
def uL_law_538 : List zEn := (889, .aload_n 1, 1, 1, 0, [], 0) :: (890, .invokevirtual 102, 3, 172, 1, [(0, 1), (0, 2), (0, 99), (0, 11), (0, 806)], 0) :: (893, .aload_n 2, 1, 2, 0, [], 0) :: (894, .invokevirtual 105, 3, 189, 1, [(0, 1), (0, 0), (0, 0), (0, 12), (0, 1586)], 0) :: (897, .if_icmp .eq 739, 3, 1115, 0, [], 0) :: (900, .iconst 0, 1, 0, 0, [], 0) :: (901, .ireturn, 1, 1, 0, [], 0) :: uL_law_545
set_option maxRecDepth 100000 in
def uL_law_521 : List zEn := (866, .aload_n 1, 1, 1, 0, [], 0) :: (867, .aload_n 0, 1, 0, 0, [], 0) :: (868, .iload_n 3, 1, 3, 0, [], 0) :: (869, .iconst 1, 1, 0, 0, [], 1) :: (870, .iadd, 1, 0, 0, [], 0) :: (871, .iaload, 1, 0, 0, [], 0) :: (872, .invokevirtual 98, 3, 136, 2, [(0, 1), (0, 0), (0, 0), (0, 11), (0, 802)], 0) :: (875, .aload_n 2, 1, 2, 0, [], 0) :: (876, .aload_n 0, 1, 0, 0, [], 0) :: (877, .iload_n 3, 1, 3, 0, [], 0) :: (878, .iconst 1, 1, 0, 0, [], 1) :: (879, .iadd, 1, 0, 0, [], 0) :: (880, .iaload, 1, 0, 0, [], 0) :: (881, .invokevirtual 101, 3, 137, 2, [(0, 1), (0, 0), (0, 0), (0, 12), (0, 1582)], 0) :: (884, .if_icmp .eq 752, 3, 1115, 0, [], 0) :: (887, .iconst 0, 1, 0, 0, [], 0) :: (888, .ireturn, 1, 1, 0, [], 0) :: uL_law_538
set_option maxRecDepth 100000 in
def uL_law_484 : List zEn := (823, .aload_n 1, 1, 1, 0, [], 0) :: (824, .aload_n 0, 1, 0, 0, [], 0) :: (825, .iload_n 3, 1, 3, 0, [], 0) :: (826, .iconst 1, 1, 0, 0, [], 1) :: (827, .iadd, 1, 0, 0, [], 0) :: (828, .iaload, 1, 0, 0, [], 0) :: (829, .aload_n 0, 1, 0, 0, [], 0) :: (830, .iload_n 3, 1, 3, 0, [], 0) :: (831, .iconst 2, 1, 0, 0, [], 2) :: (832, .iadd, 1, 0, 0, [], 0) :: (833, .iaload, 1, 0, 0, [], 0) :: (834, .aload_n 0, 1, 0, 0, [], 0) :: (835, .iload_n 3, 1, 3, 0, [], 0) :: (836, .iconst 3, 1, 0, 0, [], 3) :: (837, .iadd, 1, 0, 0, [], 0) :: (838, .iaload, 1, 0, 0, [], 0) :: (839, .invokevirtual 94, 3, 134, 4, [(0, 1), (0, 0), (0, 0), (0, 11), (0, 794)], 0) :: (842, .aload_n 2, 1, 2, 0, [], 0) :: (843, .aload_n 0, 1, 0, 0, [], 0) :: (844, .iload_n 3, 1, 3, 0, [], 0) :: (845, .iconst 1, 1, 0, 0, [], 1) :: (846, .iadd, 1, 0, 0, [], 0) :: (847, .iaload, 1, 0, 0, [], 0) :: (848, .aload_n 0, 1, 0, 0, [], 0) :: (849, .iload_n 3, 1, 3, 0, [], 0) :: (850, .iconst 2, 1, 0, 0, [], 2) :: (851, .iadd, 1, 0, 0, [], 0) :: (852, .iaload, 1, 0, 0, [], 0) :: (853, .aload_n 0, 1, 0, 0, [], 0) :: (854, .iload_n 3, 1, 3, 0, [], 0) :: (855, .iconst 3, 1, 0, 0, [], 3) :: (856, .iadd, 1, 0, 0, [], 0) :: (857, .iaload, 1, 0, 0, [], 0) :: (858, .invokevirtual 97, 3, 135, 4, [(0, 1), (0, 0), (0, 0), (0, 12), (0, 1578)], 0) :: (861, .if_icmp .eq 775, 3, 1115, 0, [], 0) :: (864, .iconst 0, 1, 0, 0, [], 0) :: (865, .ireturn, 1, 1, 0, [], 0) :: uL_law_521
set_option maxRecDepth 100000 in
def uL_law_467 : List zEn := (800, .aload_n 1, 1, 1, 0, [], 0) :: (801, .aload_n 0, 1, 0, 0, [], 0) :: (802, .iload_n 3, 1, 3, 0, [], 0) :: (803, .iconst 1, 1, 0, 0, [], 1) :: (804, .iadd, 1, 0, 0, [], 0) :: (805, .iaload, 1, 0, 0, [], 0) :: (806, .invokevirtual 90, 3, 130, 2, [(0, 1), (0, 0), (0, 0), (0, 11), (0, 773)], 0) :: (809, .aload_n 2, 1, 2, 0, [], 0) :: (810, .aload_n 0, 1, 0, 0, [], 0) :: (811, .iload_n 3, 1, 3, 0, [], 0) :: (812, .iconst 1, 1, 0, 0, [], 1) :: (813, .iadd, 1, 0, 0, [], 0) :: (814, .iaload, 1, 0, 0, [], 0) :: (815, .invokevirtual 93, 3, 132, 2, [(0, 1), (0, 0), (0, 0), (0, 12), (0, 1570)], 0) :: (818, .if_icmp .eq 818, 3, 1115, 0, [], 0) :: (821, .iconst 0, 1, 0, 0, [], 0) :: (822, .ireturn, 1, 1, 0, [], 0) :: uL_law_484
set_option maxRecDepth 100000 in
def uL_law_450 : List zEn := (777, .aload_n 1, 1, 1, 0, [], 0) :: (778, .aload_n 0, 1, 0, 0, [], 0) :: (779, .iload_n 3, 1, 3, 0, [], 0) :: (780, .iconst 1, 1, 0, 0, [], 1) :: (781, .iadd, 1, 0, 0, [], 0) :: (782, .iaload, 1, 0, 0, [], 0) :: (783, .invokevirtual 86, 3, 122, 2, [(0, 1), (0, 0), (0, 0), (0, 11), (0, 735)], 0) :: (786, .aload_n 2, 1, 2, 0, [], 0) :: (787, .aload_n 0, 1, 0, 0, [], 0) :: (788, .iload_n 3, 1, 3, 0, [], 0) :: (789, .iconst 1, 1, 0, 0, [], 1) :: (790, .iadd, 1, 0, 0, [], 0) :: (791, .iaload, 1, 0, 0, [], 0) :: (792, .invokevirtual 89, 3, 125, 2, [(0, 1), (0, 0), (0, 0), (0, 12), (0, 1557)], 0) :: (795, .if_icmp .eq 841, 3, 1115, 0, [], 0) :: (798, .iconst 0, 1, 0, 0, [], 0) :: (799, .ireturn, 1, 1, 0, [], 0) :: uL_law_467
set_option maxRecDepth 100000 in
def uL_law_443 : List zEn := (764, .aload_n 1, 1, 1, 0, [], 0) :: (765, .invokevirtual 81, 3, 114, 1, [(0, 1), (0, 0), (0, 0), (0, 11), (0, 731)], 0) :: (768, .aload_n 2, 1, 2, 0, [], 0) :: (769, .invokevirtual 85, 3, 115, 1, [(0, 1), (0, 0), (0, 0), (0, 12), (0, 1553)], 0) :: (772, .if_icmp .eq 864, 3, 1115, 0, [], 0) :: (775, .iconst 0, 1, 0, 0, [], 0) :: (776, .ireturn, 1, 1, 0, [], 0) :: uL_law_450
set_option maxRecDepth 100000 in
def uL_law_426 : List zEn := (741, .aload_n 1, 1, 1, 0, [], 0) :: (742, .aload_n 0, 1, 0, 0, [], 0) :: (743, .iload_n 3, 1, 3, 0, [], 0) :: (744, .iconst 1, 1, 0, 0, [], 1) :: (745, .iadd, 1, 0, 0, [], 0) :: (746, .iaload, 1, 0, 0, [], 0) :: (747, .invokevirtual 77, 3, 112, 2, [(0, 1), (0, 0), (0, 0), (0, 11), (0, 723)], 0) :: (750, .aload_n 2, 1, 2, 0, [], 0) :: (751, .aload_n 0, 1, 0, 0, [], 0) :: (752, .iload_n 3, 1, 3, 0, [], 0) :: (753, .iconst 1, 1, 0, 0, [], 1) :: (754, .iadd, 1, 0, 0, [], 0) :: (755, .iaload, 1, 0, 0, [], 0) :: (756, .invokevirtual 80, 3, 113, 2, [(0, 1), (0, 0), (0, 0), (0, 12), (0, 1549)], 0) :: (759, .if_icmp .eq 877, 3, 1115, 0, [], 0) :: (762, .iconst 0, 1, 0, 0, [], 0) :: (763, .ireturn, 1, 1, 0, [], 0) :: uL_law_443
set_option maxRecDepth 100000 in
def uL_law_409 : List zEn := (718, .aload_n 1, 1, 1, 0, [], 0) :: (719, .aload_n 0, 1, 0, 0, [], 0) :: (720, .iload_n 3, 1, 3, 0, [], 0) :: (721, .iconst 1, 1, 0, 0, [], 1) :: (722, .iadd, 1, 0, 0, [], 0) :: (723, .iaload, 1, 0, 0, [], 0) :: (724, .invokevirtual 73, 3, 109, 2, [(0, 1), (0, 0), (0, 0), (0, 11), (0, 714)], 0) :: (727, .aload_n 2, 1, 2, 0, [], 0) :: (728, .aload_n 0, 1, 0, 0, [], 0) :: (729, .iload_n 3, 1, 3, 0, [], 0) :: (730, .iconst 1, 1, 0, 0, [], 1) :: (731, .iadd, 1, 0, 0, [], 0) :: (732, .iaload, 1, 0, 0, [], 0) :: (733, .invokevirtual 76, 3, 110, 2, [(0, 1), (0, 0), (0, 0), (0, 12), (0, 1545)], 0) :: (736, .if_icmp .eq 900, 3, 1115, 0, [], 0) :: (739, .iconst 0, 1, 0, 0, [], 0) :: (740, .ireturn, 1, 1, 0, [], 0) :: uL_law_426
set_option maxRecDepth 100000 in
def uL_law_392 : List zEn := (695, .aload_n 1, 1, 1, 0, [], 0) :: (696, .aload_n 0, 1, 0, 0, [], 0) :: (697, .iload_n 3, 1, 3, 0, [], 0) :: (698, .iconst 1, 1, 0, 0, [], 1) :: (699, .iadd, 1, 0, 0, [], 0) :: (700, .iaload, 1, 0, 0, [], 0) :: (701, .invokevirtual 69, 3, 105, 2, [(0, 1), (0, 0), (0, 0), (0, 11), (0, 705)], 0) :: (704, .aload_n 2, 1, 2, 0, [], 0) :: (705, .aload_n 0, 1, 0, 0, [], 0) :: (706, .iload_n 3, 1, 3, 0, [], 0) :: (707, .iconst 1, 1, 0, 0, [], 1) :: (708, .iadd, 1, 0, 0, [], 0) :: (709, .iaload, 1, 0, 0, [], 0) :: (710, .invokevirtual 72, 3, 107, 2, [(0, 1), (0, 0), (0, 0), (0, 12), (0, 1537)], 0) :: (713, .if_icmp .eq 923, 3, 1115, 0, [], 0) :: (716, .iconst 0, 1, 0, 0, [], 0) :: (717, .ireturn, 1, 1, 0, [], 0) :: uL_law_409
set_option maxRecDepth 100000 in
def uL_law_375 : List zEn := (672, .aload_n 1, 1, 1, 0, [], 0) :: (673, .aload_n 0, 1, 0, 0, [], 0) :: (674, .iload_n 3, 1, 3, 0, [], 0) :: (675, .iconst 1, 1, 0, 0, [], 1) :: (676, .iadd, 1, 0, 0, [], 0) :: (677, .iaload, 1, 0, 0, [], 0) :: (678, .invokevirtual 65, 3, 99, 2, [(0, 1), (0, 0), (0, 0), (0, 11), (0, 681)], 0) :: (681, .aload_n 2, 1, 2, 0, [], 0) :: (682, .aload_n 0, 1, 0, 0, [], 0) :: (683, .iload_n 3, 1, 3, 0, [], 0) :: (684, .iconst 1, 1, 0, 0, [], 1) :: (685, .iadd, 1, 0, 0, [], 0) :: (686, .iaload, 1, 0, 0, [], 0) :: (687, .invokevirtual 68, 3, 103, 2, [(0, 1), (0, 0), (0, 0), (0, 12), (0, 1521)], 0) :: (690, .if_icmp .eq 946, 3, 1115, 0, [], 0) :: (693, .iconst 0, 1, 0, 0, [], 0) :: (694, .ireturn, 1, 1, 0, [], 0) :: uL_law_392
set_option maxRecDepth 100000 in
def uL_law_348 : List zEn := (639, .aload_n 1, 1, 1, 0, [], 0) :: (640, .aload_n 0, 1, 0, 0, [], 0) :: (641, .iload_n 3, 1, 3, 0, [], 0) :: (642, .iconst 1, 1, 0, 0, [], 1) :: (643, .iadd, 1, 0, 0, [], 0) :: (644, .iaload, 1, 0, 0, [], 0) :: (645, .aload_n 0, 1, 0, 0, [], 0) :: (646, .iload_n 3, 1, 3, 0, [], 0) :: (647, .iconst 2, 1, 0, 0, [], 2) :: (648, .iadd, 1, 0, 0, [], 0) :: (649, .iaload, 1, 0, 0, [], 0) :: (650, .invokevirtual 61, 3, 89, 3, [(0, 1), (0, 0), (0, 0), (0, 11), (0, 664)], 0) :: (653, .aload_n 2, 1, 2, 0, [], 0) :: (654, .aload_n 0, 1, 0, 0, [], 0) :: (655, .iload_n 3, 1, 3, 0, [], 0) :: (656, .iconst 1, 1, 0, 0, [], 1) :: (657, .iadd, 1, 0, 0, [], 0) :: (658, .iaload, 1, 0, 0, [], 0) :: (659, .aload_n 0, 1, 0, 0, [], 0) :: (660, .iload_n 3, 1, 3, 0, [], 0) :: (661, .iconst 2, 1, 0, 0, [], 2) :: (662, .iadd, 1, 0, 0, [], 0) :: (663, .iaload, 1, 0, 0, [], 0) :: (664, .invokevirtual 64, 3, 93, 3, [(0, 1), (0, 0), (0, 0), (0, 12), (0, 1503)], 0) :: (667, .if_icmp .eq 969, 3, 1115, 0, [], 0) :: (670, .iconst 0, 1, 0, 0, [], 0) :: (671, .ireturn, 1, 1, 0, [], 0) :: uL_law_375
set_option maxRecDepth 100000 in
def uL_law_321 : List zEn := (606, .aload_n 1, 1, 1, 0, [], 0) :: (607, .aload_n 0, 1, 0, 0, [], 0) :: (608, .iload_n 3, 1, 3, 0, [], 0) :: (609, .iconst 1, 1, 0, 0, [], 1) :: (610, .iadd, 1, 0, 0, [], 0) :: (611, .iaload, 1, 0, 0, [], 0) :: (612, .aload_n 0, 1, 0, 0, [], 0) :: (613, .iload_n 3, 1, 3, 0, [], 0) :: (614, .iconst 2, 1, 0, 0, [], 2) :: (615, .iadd, 1, 0, 0, [], 0) :: (616, .iaload, 1, 0, 0, [], 0) :: (617, .invokevirtual 57, 3, 85, 3, [(0, 1), (0, 0), (0, 0), (0, 11), (0, 660)], 0) :: (620, .aload_n 2, 1, 2, 0, [], 0) :: (621, .aload_n 0, 1, 0, 0, [], 0) :: (622, .iload_n 3, 1, 3, 0, [], 0) :: (623, .iconst 1, 1, 0, 0, [], 1) :: (624, .iadd, 1, 0, 0, [], 0) :: (625, .iaload, 1, 0, 0, [], 0) :: (626, .aload_n 0, 1, 0, 0, [], 0) :: (627, .iload_n 3, 1, 3, 0, [], 0) :: (628, .iconst 2, 1, 0, 0, [], 2) :: (629, .iadd, 1, 0, 0, [], 0) :: (630, .iaload, 1, 0, 0, [], 0) :: (631, .invokevirtual 60, 3, 86, 3, [(0, 1), (0, 0), (0, 0), (0, 12), (0, 1499)], 0) :: (634, .if_icmp .eq 1002, 3, 1115, 0, [], 0) :: (637, .iconst 0, 1, 0, 0, [], 0) :: (638, .ireturn, 1, 1, 0, [], 0) :: uL_law_348
set_option maxRecDepth 100000 in
def uL_law_317 : List zEn := (598, .invokevirtual 56, 3, 84, 4, [(0, 1), (0, 0), (0, 0), (0, 12), (0, 1495)], 0) :: (601, .if_icmp .eq 1035, 3, 1115, 0, [], 0) :: (604, .iconst 0, 1, 0, 0, [], 0) :: (605, .ireturn, 1, 1, 0, [], 0) :: uL_law_321
set_option maxRecDepth 100000 in
def uL_law_316 : List zEn := (597, .iconst 0, 1, 0, 0, [], 0) :: uL_law_317
set_option maxRecDepth 100000 in
def uL_law_296 : List zEn := (571, .invokevirtual 52, 3, 83, 4, [(0, 1), (0, 0), (0, 0), (0, 11), (0, 656)], 0) :: (574, .aload_n 2, 1, 2, 0, [], 0) :: (575, .aload_n 0, 1, 0, 0, [], 0) :: (576, .iload_n 3, 1, 3, 0, [], 0) :: (577, .iconst 1, 1, 0, 0, [], 1) :: (578, .iadd, 1, 0, 0, [], 0) :: (579, .iaload, 1, 0, 0, [], 0) :: (580, .aload_n 0, 1, 0, 0, [], 0) :: (581, .iload_n 3, 1, 3, 0, [], 0) :: (582, .iconst 2, 1, 0, 0, [], 2) :: (583, .iadd, 1, 0, 0, [], 0) :: (584, .iaload, 1, 0, 0, [], 0) :: (585, .aload_n 0, 1, 0, 0, [], 0) :: (586, .iload_n 3, 1, 3, 0, [], 0) :: (587, .iconst 3, 1, 0, 0, [], 3) :: (588, .iadd, 1, 0, 0, [], 0) :: (589, .iaload, 1, 0, 0, [], 0) :: (590, .ifCond .eq 7, 3, 316, 0, [], 0) :: (593, .iconst 1, 1, 0, 0, [], 1) :: (594, .goto 4, 3, 317, 0, [], 0) :: uL_law_316
set_option maxRecDepth 100000 in
def uL_law_295 : List zEn := (570, .iconst 0, 1, 0, 0, [], 0) :: uL_law_296
set_option maxRecDepth 100000 in
def uL_law_276 : List zEn := (547, .aload_n 1, 1, 1, 0, [], 0) :: (548, .aload_n 0, 1, 0, 0, [], 0) :: (549, .iload_n 3, 1, 3, 0, [], 0) :: (550, .iconst 1, 1, 0, 0, [], 1) :: (551, .iadd, 1, 0, 0, [], 0) :: (552, .iaload, 1, 0, 0, [], 0) :: (553, .aload_n 0, 1, 0, 0, [], 0) :: (554, .iload_n 3, 1, 3, 0, [], 0) :: (555, .iconst 2, 1, 0, 0, [], 2) :: (556, .iadd, 1, 0, 0, [], 0) :: (557, .iaload, 1, 0, 0, [], 0) :: (558, .aload_n 0, 1, 0, 0, [], 0) :: (559, .iload_n 3, 1, 3, 0, [], 0) :: (560, .iconst 3, 1, 0, 0, [], 3) :: (561, .iadd, 1, 0, 0, [], 0) :: (562, .iaload, 1, 0, 0, [], 0) :: (563, .ifCond .eq 7, 3, 295, 0, [], 0) :: (566, .iconst 1, 1, 0, 0, [], 1) :: (567, .goto 4, 3, 296, 0, [], 0) :: uL_law_295
set_option maxRecDepth 100000 in
def uL_law_249 : List zEn := (514, .aload_n 1, 1, 1, 0, [], 0) :: (515, .aload_n 0, 1, 0, 0, [], 0) :: (516, .iload_n 3, 1, 3, 0, [], 0) :: (517, .iconst 1, 1, 0, 0, [], 1) :: (518, .iadd, 1, 0, 0, [], 0) :: (519, .iaload, 1, 0, 0, [], 0) :: (520, .aload_n 0, 1, 0, 0, [], 0) :: (521, .iload_n 3, 1, 3, 0, [], 0) :: (522, .iconst 2, 1, 0, 0, [], 2) :: (523, .iadd, 1, 0, 0, [], 0) :: (524, .iaload, 1, 0, 0, [], 0) :: (525, .invokevirtual 48, 3, 81, 3, [(0, 1), (0, 0), (0, 0), (0, 11), (0, 652)], 0) :: (528, .aload_n 2, 1, 2, 0, [], 0) :: (529, .aload_n 0, 1, 0, 0, [], 0) :: (530, .iload_n 3, 1, 3, 0, [], 0) :: (531, .iconst 1, 1, 0, 0, [], 1) :: (532, .iadd, 1, 0, 0, [], 0) :: (533, .iaload, 1, 0, 0, [], 0) :: (534, .aload_n 0, 1, 0, 0, [], 0) :: (535, .iload_n 3, 1, 3, 0, [], 0) :: (536, .iconst 2, 1, 0, 0, [], 2) :: (537, .iadd, 1, 0, 0, [], 0) :: (538, .iaload, 1, 0, 0, [], 0) :: (539, .invokevirtual 51, 3, 82, 3, [(0, 1), (0, 0), (0, 0), (0, 12), (0, 1491)], 0) :: (542, .if_icmp .eq 1094, 3, 1115, 0, [], 0) :: (545, .iconst 0, 1, 0, 0, [], 0) :: (546, .ireturn, 1, 1, 0, [], 0) :: uL_law_276
set_option maxRecDepth 100000 in
def uL_law_222 : List zEn := (481, .aload_n 1, 1, 1, 0, [], 0) :: (482, .aload_n 0, 1, 0, 0, [], 0) :: (483, .iload_n 3, 1, 3, 0, [], 0) :: (484, .iconst 1, 1, 0, 0, [], 1) :: (485, .iadd, 1, 0, 0, [], 0) :: (486, .iaload, 1, 0, 0, [], 0) :: (487, .aload_n 0, 1, 0, 0, [], 0) :: (488, .iload_n 3, 1, 3, 0, [], 0) :: (489, .iconst 2, 1, 0, 0, [], 2) :: (490, .iadd, 1, 0, 0, [], 0) :: (491, .iaload, 1, 0, 0, [], 0) :: (492, .invokevirtual 44, 3, 78, 3, [(0, 1), (0, 0), (0, 0), (0, 11), (0, 641)], 0) :: (495, .aload_n 2, 1, 2, 0, [], 0) :: (496, .aload_n 0, 1, 0, 0, [], 0) :: (497, .iload_n 3, 1, 3, 0, [], 0) :: (498, .iconst 1, 1, 0, 0, [], 1) :: (499, .iadd, 1, 0, 0, [], 0) :: (500, .iaload, 1, 0, 0, [], 0) :: (501, .aload_n 0, 1, 0, 0, [], 0) :: (502, .iload_n 3, 1, 3, 0, [], 0) :: (503, .iconst 2, 1, 0, 0, [], 2) :: (504, .iadd, 1, 0, 0, [], 0) :: (505, .iaload, 1, 0, 0, [], 0) :: (506, .invokevirtual 47, 3, 80, 3, [(0, 1), (0, 0), (0, 0), (0, 12), (0, 1483)], 0) :: (509, .if_icmp .eq 1127, 3, 1115, 0, [], 0) :: (512, .iconst 0, 1, 0, 0, [], 0) :: (513, .ireturn, 1, 1, 0, [], 0) :: uL_law_249
set_option maxRecDepth 100000 in
def uL_law_195 : List zEn := (448, .aload_n 1, 1, 1, 0, [], 0) :: (449, .aload_n 0, 1, 0, 0, [], 0) :: (450, .iload_n 3, 1, 3, 0, [], 0) :: (451, .iconst 1, 1, 0, 0, [], 1) :: (452, .iadd, 1, 0, 0, [], 0) :: (453, .iaload, 1, 0, 0, [], 0) :: (454, .aload_n 0, 1, 0, 0, [], 0) :: (455, .iload_n 3, 1, 3, 0, [], 0) :: (456, .iconst 2, 1, 0, 0, [], 2) :: (457, .iadd, 1, 0, 0, [], 0) :: (458, .iaload, 1, 0, 0, [], 0) :: (459, .invokevirtual 40, 3, 61, 3, [(0, 1), (0, 0), (0, 0), (0, 11), (0, 561)], 0) :: (462, .aload_n 2, 1, 2, 0, [], 0) :: (463, .aload_n 0, 1, 0, 0, [], 0) :: (464, .iload_n 3, 1, 3, 0, [], 0) :: (465, .iconst 1, 1, 0, 0, [], 1) :: (466, .iadd, 1, 0, 0, [], 0) :: (467, .iaload, 1, 0, 0, [], 0) :: (468, .aload_n 0, 1, 0, 0, [], 0) :: (469, .iload_n 3, 1, 3, 0, [], 0) :: (470, .iconst 2, 1, 0, 0, [], 2) :: (471, .iadd, 1, 0, 0, [], 0) :: (472, .iaload, 1, 0, 0, [], 0) :: (473, .invokevirtual 43, 3, 76, 3, [(0, 1), (0, 0), (0, 0), (0, 12), (0, 1426)], 0) :: (476, .if_icmp .eq 1160, 3, 1115, 0, [], 0) :: (479, .iconst 0, 1, 0, 0, [], 0) :: (480, .ireturn, 1, 1, 0, [], 0) :: uL_law_222
set_option maxRecDepth 100000 in
def uL_law_158 : List zEn := (405, .aload_n 1, 1, 1, 0, [], 0) :: (406, .aload_n 0, 1, 0, 0, [], 0) :: (407, .iload_n 3, 1, 3, 0, [], 0) :: (408, .iconst 1, 1, 0, 0, [], 1) :: (409, .iadd, 1, 0, 0, [], 0) :: (410, .iaload, 1, 0, 0, [], 0) :: (411, .aload_n 0, 1, 0, 0, [], 0) :: (412, .iload_n 3, 1, 3, 0, [], 0) :: (413, .iconst 2, 1, 0, 0, [], 2) :: (414, .iadd, 1, 0, 0, [], 0) :: (415, .iaload, 1, 0, 0, [], 0) :: (416, .aload_n 0, 1, 0, 0, [], 0) :: (417, .iload_n 3, 1, 3, 0, [], 0) :: (418, .iconst 3, 1, 0, 0, [], 3) :: (419, .iadd, 1, 0, 0, [], 0) :: (420, .iaload, 1, 0, 0, [], 0) :: (421, .invokevirtual 36, 3, 41, 4, [(0, 1), (0, 0), (0, 0), (0, 11), (0, 546)], 0) :: (424, .aload_n 2, 1, 2, 0, [], 0) :: (425, .aload_n 0, 1, 0, 0, [], 0) :: (426, .iload_n 3, 1, 3, 0, [], 0) :: (427, .iconst 1, 1, 0, 0, [], 1) :: (428, .iadd, 1, 0, 0, [], 0) :: (429, .iaload, 1, 0, 0, [], 0) :: (430, .aload_n 0, 1, 0, 0, [], 0) :: (431, .iload_n 3, 1, 3, 0, [], 0) :: (432, .iconst 2, 1, 0, 0, [], 2) :: (433, .iadd, 1, 0, 0, [], 0) :: (434, .iaload, 1, 0, 0, [], 0) :: (435, .aload_n 0, 1, 0, 0, [], 0) :: (436, .iload_n 3, 1, 3, 0, [], 0) :: (437, .iconst 3, 1, 0, 0, [], 3) :: (438, .iadd, 1, 0, 0, [], 0) :: (439, .iaload, 1, 0, 0, [], 0) :: (440, .invokevirtual 39, 3, 43, 4, [(0, 1), (0, 0), (0, 0), (0, 12), (0, 1417)], 0) :: (443, .if_icmp .eq 1193, 3, 1115, 0, [], 0) :: (446, .iconst 0, 1, 0, 0, [], 0) :: (447, .ireturn, 1, 1, 0, [], 0) :: uL_law_195
set_option maxRecDepth 100000 in
def uL_law_131 : List zEn := (372, .aload_n 1, 1, 1, 0, [], 0) :: (373, .aload_n 0, 1, 0, 0, [], 0) :: (374, .iload_n 3, 1, 3, 0, [], 0) :: (375, .iconst 1, 1, 0, 0, [], 1) :: (376, .iadd, 1, 0, 0, [], 0) :: (377, .iaload, 1, 0, 0, [], 0) :: (378, .aload_n 0, 1, 0, 0, [], 0) :: (379, .iload_n 3, 1, 3, 0, [], 0) :: (380, .iconst 2, 1, 0, 0, [], 2) :: (381, .iadd, 1, 0, 0, [], 0) :: (382, .iaload, 1, 0, 0, [], 0) :: (383, .invokevirtual 32, 3, 36, 3, [(0, 1), (0, 0), (0, 0), (0, 11), (0, 538)], 0) :: (386, .aload_n 2, 1, 2, 0, [], 0) :: (387, .aload_n 0, 1, 0, 0, [], 0) :: (388, .iload_n 3, 1, 3, 0, [], 0) :: (389, .iconst 1, 1, 0, 0, [], 1) :: (390, .iadd, 1, 0, 0, [], 0) :: (391, .iaload, 1, 0, 0, [], 0) :: (392, .aload_n 0, 1, 0, 0, [], 0) :: (393, .iload_n 3, 1, 3, 0, [], 0) :: (394, .iconst 2, 1, 0, 0, [], 2) :: (395, .iadd, 1, 0, 0, [], 0) :: (396, .iaload, 1, 0, 0, [], 0) :: (397, .invokevirtual 35, 3, 37, 3, [(0, 1), (0, 0), (0, 0), (0, 12), (0, 1413)], 0) :: (400, .if_icmp .eq 1236, 3, 1115, 0, [], 0) :: (403, .iconst 0, 1, 0, 0, [], 0) :: (404, .ireturn, 1, 1, 0, [], 0) :: uL_law_158
set_option maxRecDepth 100000 in
def uL_law_94 : List zEn := (329, .aload_n 1, 1, 1, 0, [], 0) :: (330, .aload_n 0, 1, 0, 0, [], 0) :: (331, .iload_n 3, 1, 3, 0, [], 0) :: (332, .iconst 1, 1, 0, 0, [], 1) :: (333, .iadd, 1, 0, 0, [], 0) :: (334, .iaload, 1, 0, 0, [], 0) :: (335, .aload_n 0, 1, 0, 0, [], 0) :: (336, .iload_n 3, 1, 3, 0, [], 0) :: (337, .iconst 2, 1, 0, 0, [], 2) :: (338, .iadd, 1, 0, 0, [], 0) :: (339, .iaload, 1, 0, 0, [], 0) :: (340, .aload_n 0, 1, 0, 0, [], 0) :: (341, .iload_n 3, 1, 3, 0, [], 0) :: (342, .iconst 3, 1, 0, 0, [], 3) :: (343, .iadd, 1, 0, 0, [], 0) :: (344, .iaload, 1, 0, 0, [], 0) :: (345, .invokevirtual 27, 3, 31, 4, [(0, 1), (0, 0), (0, 0), (0, 11), (0, 523)], 0) :: (348, .aload_n 2, 1, 2, 0, [], 0) :: (349, .aload_n 0, 1, 0, 0, [], 0) :: (350, .iload_n 3, 1, 3, 0, [], 0) :: (351, .iconst 1, 1, 0, 0, [], 1) :: (352, .iadd, 1, 0, 0, [], 0) :: (353, .iaload, 1, 0, 0, [], 0) :: (354, .aload_n 0, 1, 0, 0, [], 0) :: (355, .iload_n 3, 1, 3, 0, [], 0) :: (356, .iconst 2, 1, 0, 0, [], 2) :: (357, .iadd, 1, 0, 0, [], 0) :: (358, .iaload, 1, 0, 0, [], 0) :: (359, .aload_n 0, 1, 0, 0, [], 0) :: (360, .iload_n 3, 1, 3, 0, [], 0) :: (361, .iconst 3, 1, 0, 0, [], 3) :: (362, .iadd, 1, 0, 0, [], 0) :: (363, .iaload, 1, 0, 0, [], 0) :: (364, .invokevirtual 31, 3, 34, 4, [(0, 1), (0, 0), (0, 0), (0, 12), (0, 1399)], 0) :: (367, .if_icmp .eq 1269, 3, 1115, 0, [], 0) :: (370, .iconst 0, 1, 0, 0, [], 0) :: (371, .ireturn, 1, 1, 0, [], 0) :: uL_law_131
set_option maxRecDepth 100000 in
def uL_law_77 : List zEn := (306, .aload_n 1, 1, 1, 0, [], 0) :: (307, .aload_n 0, 1, 0, 0, [], 0) :: (308, .iload_n 3, 1, 3, 0, [], 0) :: (309, .iconst 1, 1, 0, 0, [], 1) :: (310, .iadd, 1, 0, 0, [], 0) :: (311, .iaload, 1, 0, 0, [], 0) :: (312, .invokevirtual 22, 3, 25, 2, [(0, 1), (0, 0), (0, 0), (0, 11), (0, 519)], 0) :: (315, .aload_n 2, 1, 2, 0, [], 0) :: (316, .aload_n 0, 1, 0, 0, [], 0) :: (317, .iload_n 3, 1, 3, 0, [], 0) :: (318, .iconst 1, 1, 0, 0, [], 1) :: (319, .iadd, 1, 0, 0, [], 0) :: (320, .iaload, 1, 0, 0, [], 0) :: (321, .invokevirtual 26, 3, 27, 2, [(0, 1), (0, 0), (0, 0), (0, 12), (0, 1391)], 0) :: (324, .if_icmp .eq 1312, 3, 1115, 0, [], 0) :: (327, .iconst 0, 1, 0, 0, [], 0) :: (328, .ireturn, 1, 1, 0, [], 0) :: uL_law_94
set_option maxRecDepth 100000 in
def uL_law_50 : List zEn := (273, .aload_n 1, 1, 1, 0, [], 0) :: (274, .aload_n 0, 1, 0, 0, [], 0) :: (275, .iload_n 3, 1, 3, 0, [], 0) :: (276, .iconst 1, 1, 0, 0, [], 1) :: (277, .iadd, 1, 0, 0, [], 0) :: (278, .iaload, 1, 0, 0, [], 0) :: (279, .aload_n 0, 1, 0, 0, [], 0) :: (280, .iload_n 3, 1, 3, 0, [], 0) :: (281, .iconst 2, 1, 0, 0, [], 2) :: (282, .iadd, 1, 0, 0, [], 0) :: (283, .iaload, 1, 0, 0, [], 0) :: (284, .invokevirtual 18, 3, 21, 3, [(0, 1), (0, 0), (0, 0), (0, 11), (0, 504)], 0) :: (287, .aload_n 2, 1, 2, 0, [], 0) :: (288, .aload_n 0, 1, 0, 0, [], 0) :: (289, .iload_n 3, 1, 3, 0, [], 0) :: (290, .iconst 1, 1, 0, 0, [], 1) :: (291, .iadd, 1, 0, 0, [], 0) :: (292, .iaload, 1, 0, 0, [], 0) :: (293, .aload_n 0, 1, 0, 0, [], 0) :: (294, .iload_n 3, 1, 3, 0, [], 0) :: (295, .iconst 2, 1, 0, 0, [], 2) :: (296, .iadd, 1, 0, 0, [], 0) :: (297, .iaload, 1, 0, 0, [], 0) :: (298, .invokevirtual 21, 3, 24, 3, [(0, 1), (0, 0), (0, 0), (0, 12), (0, 1378)], 0) :: (301, .if_icmp .eq 1335, 3, 1115, 0, [], 0) :: (304, .iconst 0, 1, 0, 0, [], 0) :: (305, .ireturn, 1, 1, 0, [], 0) :: uL_law_77
set_option maxRecDepth 100000 in
def uL_law_23 : List zEn := (240, .aload_n 1, 1, 1, 0, [], 0) :: (241, .aload_n 0, 1, 0, 0, [], 0) :: (242, .iload_n 3, 1, 3, 0, [], 0) :: (243, .iconst 1, 1, 0, 0, [], 1) :: (244, .iadd, 1, 0, 0, [], 0) :: (245, .iaload, 1, 0, 0, [], 0) :: (246, .aload_n 0, 1, 0, 0, [], 0) :: (247, .iload_n 3, 1, 3, 0, [], 0) :: (248, .iconst 2, 1, 0, 0, [], 2) :: (249, .iadd, 1, 0, 0, [], 0) :: (250, .iaload, 1, 0, 0, [], 0) :: (251, .invokevirtual 13, 3, 14, 3, [(0, 1), (0, 0), (0, 0), (0, 11), (0, 491)], 0) :: (254, .aload_n 2, 1, 2, 0, [], 0) :: (255, .aload_n 0, 1, 0, 0, [], 0) :: (256, .iload_n 3, 1, 3, 0, [], 0) :: (257, .iconst 1, 1, 0, 0, [], 1) :: (258, .iadd, 1, 0, 0, [], 0) :: (259, .iaload, 1, 0, 0, [], 0) :: (260, .aload_n 0, 1, 0, 0, [], 0) :: (261, .iload_n 3, 1, 3, 0, [], 0) :: (262, .iconst 2, 1, 0, 0, [], 2) :: (263, .iadd, 1, 0, 0, [], 0) :: (264, .iaload, 1, 0, 0, [], 0) :: (265, .invokevirtual 17, 3, 17, 3, [(0, 1), (0, 0), (0, 0), (0, 12), (0, 1362)], 0) :: (268, .if_icmp .eq 1368, 3, 1115, 0, [], 0) :: (271, .iconst 0, 1, 0, 0, [], 0) :: (272, .ireturn, 1, 1, 0, [], 0) :: uL_law_50
set_option maxRecDepth 100000 in
def uL_law_11 : List zEn := (18, .iload_n 3, 1, 3, 0, [], 0) :: (19, .aload_n 0, 1, 0, 0, [], 0) :: (20, .arraylength, 1, 0, 0, [], 0) :: (21, .bipush 6, 2, 0, 0, [], 6) :: (23, .isub, 1, 0, 0, [], 0) :: (24, .if_icmp .gt 1618, 3, 1117, 0, [], 0) :: (27, .aload_n 0, 1, 0, 0, [], 0) :: (28, .iload_n 3, 1, 3, 0, [], 0) :: (29, .iaload, 1, 0, 0, [], 0) :: (30, .bipush 63, 2, 0, 0, [], 63) :: (32, .iand, 1, 0, 0, [], 0) :: (33, .tableswitch 1603 0 47 #[207, 240, 273, 296, 339, 372, 415, 448, 481, 514, 573, 606, 639, 662, 685, 708, 731, 744, 767, 790, 833, 856, 869, 902, 925, 958, 981, 1030, 1043, 1056, 1069, 1092, 1115, 1128, 1151, 1194, 1237, 1270, 1303, 1366, 1409, 1442, 1475, 1508, 1531, 1554, 1567, 1580], 207, 1115, 0, [(0, 23), (1, 50), (2, 77), (3, 94), (4, 131), (5, 158), (6, 195), (7, 222), (8, 249), (9, 276), (10, 321), (11, 348), (12, 375), (13, 392), (14, 409), (15, 426), (16, 443), (17, 450), (18, 467), (19, 484), (20, 521), (21, 538), (22, 545), (23, 572), (24, 589), (25, 616), (26, 633), (27, 668), (28, 675), (29, 682), (30, 689), (31, 706), (32, 723), (33, 730), (34, 747), (35, 784), (36, 821), (37, 848), (38, 875), (39, 932), (40, 969), (41, 996), (42, 1023), (43, 1050), (44, 1067), (45, 1084), (46, 1091), (47, 1098)], 0) :: uL_law_23
set_option maxRecDepth 100000 in
def tL_law_11 : List zEn := uL_law_11
set_option maxRecDepth 100000 in
def uL_law_10 : List zEn := (18, .nop, 0, 0, 0, [], 0) :: tL_law_11
set_option maxRecDepth 100000 in
def uL_law_0 : List zEn := (0, .new 7, 3, 11, 11, [(0, 106)], 0) :: (3, .dup, 1, 0, 0, [], 0) :: (4, .invokespecial 9, 3, 10, 1, [(0, 0), (0, 148), (0, 2290), (0, 108)], 0) :: (7, .astore_n 1, 1, 1, 0, [], 0) :: (8, .new 10, 3, 12, 37, [(0, 1244)], 0) :: (11, .dup, 1, 0, 0, [], 0) :: (12, .invokespecial 12, 3, 11, 1, [(0, 0), (0, 22), (0, 11040), (0, 1246)], 0) :: (15, .astore_n 2, 1, 2, 0, [], 0) :: (16, .iconst 0, 1, 0, 0, [], 0) :: (17, .istore_n 3, 1, 3, 0, [], 0) :: uL_law_10
set_option maxRecDepth 100000 in
theorem jL_law_10 : zj pL_law 10 = uL_law_10 := rfl
set_option maxRecDepth 100000 in
theorem jL_law_23 : zj pL_law 23 = uL_law_23 := rfl
set_option maxRecDepth 100000 in
theorem jL_law_50 : zj pL_law 50 = uL_law_50 := rfl
set_option maxRecDepth 100000 in
theorem jL_law_77 : zj pL_law 77 = uL_law_77 := rfl
set_option maxRecDepth 100000 in
theorem jL_law_94 : zj pL_law 94 = uL_law_94 := rfl
set_option maxRecDepth 100000 in
theorem jL_law_131 : zj pL_law 131 = uL_law_131 := rfl
set_option maxRecDepth 100000 in
theorem jL_law_158 : zj pL_law 158 = uL_law_158 := rfl
set_option maxRecDepth 100000 in
theorem jL_law_195 : zj pL_law 195 = uL_law_195 := rfl
set_option maxRecDepth 100000 in
theorem jL_law_222 : zj pL_law 222 = uL_law_222 := rfl
set_option maxRecDepth 100000 in
theorem jL_law_249 : zj pL_law 249 = uL_law_249 := rfl
set_option maxRecDepth 100000 in
theorem jL_law_276 : zj pL_law 276 = uL_law_276 := rfl
set_option maxRecDepth 100000 in
theorem jL_law_295 : zj pL_law 295 = uL_law_295 := rfl
set_option maxRecDepth 100000 in
theorem jL_law_296 : zj pL_law 296 = uL_law_296 := rfl
set_option maxRecDepth 100000 in
theorem jL_law_316 : zj pL_law 316 = uL_law_316 := rfl
set_option maxRecDepth 100000 in
theorem jL_law_317 : zj pL_law 317 = uL_law_317 := rfl
set_option maxRecDepth 100000 in
theorem jL_law_321 : zj pL_law 321 = uL_law_321 := rfl
set_option maxRecDepth 100000 in
theorem jL_law_348 : zj pL_law 348 = uL_law_348 := rfl
set_option maxRecDepth 100000 in
theorem jL_law_375 : zj pL_law 375 = uL_law_375 := rfl
set_option maxRecDepth 100000 in
theorem jL_law_392 : zj pL_law 392 = uL_law_392 := rfl
set_option maxRecDepth 100000 in
theorem jL_law_409 : zj pL_law 409 = uL_law_409 := rfl
set_option maxRecDepth 100000 in
theorem jL_law_426 : zj pL_law 426 = uL_law_426 := rfl
set_option maxRecDepth 100000 in
theorem jL_law_443 : zj pL_law 443 = uL_law_443 := rfl
set_option maxRecDepth 100000 in
theorem jL_law_450 : zj pL_law 450 = uL_law_450 := rfl
set_option maxRecDepth 100000 in
theorem jL_law_467 : zj pL_law 467 = uL_law_467 := rfl
set_option maxRecDepth 100000 in
theorem jL_law_484 : zj pL_law 484 = uL_law_484 := rfl
set_option maxRecDepth 100000 in
theorem jL_law_521 : zj pL_law 521 = uL_law_521 := rfl
set_option maxRecDepth 100000 in
theorem jL_law_538 : zj pL_law 538 = uL_law_538 := rfl
set_option maxRecDepth 100000 in
theorem jL_law_545 : zj pL_law 545 = uL_law_545 := rfl
set_option maxRecDepth 100000 in
theorem jL_law_572 : zj pL_law 572 = uL_law_572 := rfl
set_option maxRecDepth 100000 in
theorem jL_law_589 : zj pL_law 589 = uL_law_589 := rfl
set_option maxRecDepth 100000 in
theorem jL_law_616 : zj pL_law 616 = uL_law_616 := rfl
set_option maxRecDepth 100000 in
theorem jL_law_633 : zj pL_law 633 = uL_law_633 := rfl
set_option maxRecDepth 100000 in
theorem jL_law_647 : zj pL_law 647 = uL_law_647 := rfl
set_option maxRecDepth 100000 in
theorem jL_law_648 : zj pL_law 648 = uL_law_648 := rfl
set_option maxRecDepth 100000 in
theorem jL_law_663 : zj pL_law 663 = uL_law_663 := rfl
set_option maxRecDepth 100000 in
theorem jL_law_664 : zj pL_law 664 = uL_law_664 := rfl
set_option maxRecDepth 100000 in
theorem jL_law_668 : zj pL_law 668 = uL_law_668 := rfl
set_option maxRecDepth 100000 in
theorem jL_law_675 : zj pL_law 675 = uL_law_675 := rfl
set_option maxRecDepth 100000 in
theorem jL_law_682 : zj pL_law 682 = uL_law_682 := rfl
set_option maxRecDepth 100000 in
theorem jL_law_689 : zj pL_law 689 = uL_law_689 := rfl
set_option maxRecDepth 100000 in
theorem jL_law_706 : zj pL_law 706 = uL_law_706 := rfl
set_option maxRecDepth 100000 in
theorem jL_law_723 : zj pL_law 723 = uL_law_723 := rfl
set_option maxRecDepth 100000 in
theorem jL_law_730 : zj pL_law 730 = uL_law_730 := rfl
set_option maxRecDepth 100000 in
theorem jL_law_747 : zj pL_law 747 = uL_law_747 := rfl
set_option maxRecDepth 100000 in
theorem jL_law_784 : zj pL_law 784 = uL_law_784 := rfl
set_option maxRecDepth 100000 in
theorem jL_law_821 : zj pL_law 821 = uL_law_821 := rfl
set_option maxRecDepth 100000 in
theorem jL_law_848 : zj pL_law 848 = uL_law_848 := rfl
set_option maxRecDepth 100000 in
theorem jL_law_875 : zj pL_law 875 = uL_law_875 := rfl
set_option maxRecDepth 100000 in
theorem jL_law_932 : zj pL_law 932 = uL_law_932 := rfl
set_option maxRecDepth 100000 in
theorem jL_law_969 : zj pL_law 969 = uL_law_969 := rfl
set_option maxRecDepth 100000 in
theorem jL_law_996 : zj pL_law 996 = uL_law_996 := rfl
set_option maxRecDepth 100000 in
theorem jL_law_1023 : zj pL_law 1023 = uL_law_1023 := rfl
set_option maxRecDepth 100000 in
theorem jL_law_1050 : zj pL_law 1050 = uL_law_1050 := rfl
set_option maxRecDepth 100000 in
theorem jL_law_1067 : zj pL_law 1067 = uL_law_1067 := rfl
set_option maxRecDepth 100000 in
theorem jL_law_1084 : zj pL_law 1084 = uL_law_1084 := rfl
set_option maxRecDepth 100000 in
theorem jL_law_1091 : zj pL_law 1091 = uL_law_1091 := rfl
set_option maxRecDepth 100000 in
theorem jL_law_1098 : zj pL_law 1098 = uL_law_1098 := rfl
set_option maxRecDepth 100000 in
theorem jL_law_1115 : zj pL_law 1115 = uL_law_1115 := rfl
set_option maxRecDepth 100000 in
theorem jL_law_1117 : zj pL_law 1117 = uL_law_1117 := rfl
