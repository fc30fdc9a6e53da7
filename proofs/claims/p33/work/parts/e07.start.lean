/-! The state behind the two constructors. -/
def zi_A0 : List zi_C := [
  .inl (0, [.inl (.ref 11), .inl (.ref 12), .inl (.ref 34), .inl (.ref 44), .inl (.ref 46), .inl (.ref 49), .inl (.ref 50), .inl (.ref 56), .inl (.ref 57), .inl (.ref 58), .inl (.ref 60), .inl (.ref 62), .inl (.ref 64), .inl (.ref 65), .inl (.ref 66), .inl (.ref 67), .inl (.ref 68), .inl (.int 0), .inl (.int 0)]),
  .inl (1, [.inl (.ref 12), .inl (.ref 18), .inl (.ref 19), .inl (.int 0), .inl (.int 0), .inl (.int 0), .inl (.ref 20), .inl (.int 0), .inl (.int 0), .inl (.int 0), .inl (.long 0), .inl (.int 0)]),
  .inl (2, [.inl (.ref 13), .inl (.ref 14), .inl (.ref 15), .inl (.ref 16), .inl (.ref 17), .inl (.int 0), .inl (.int 0)]),
  .inr (3, 1000, .inl (.int 0), []),
  .inr (0, 1001, .inl (.int 0), []),
  .inr (0, 1001, .inl (.int 0), []),
  .inr (1, 1001, .inl (.long 0), []),
  .inr (1, 29, .inl (.long 0), [(28, .inl (.long 498)), (28, .inl (.long 15)), (27, .inl (.long 1476)), (27, .inl (.long 46)), (27, .inl (.long 1)), (26, .inl (.long 14836)), (26, .inl (.long 463)), (26, .inl (.long 14)), (25, .inl (.long 24865546418)), (25, .inl (.long 777048325)), (25, .inl (.long 24282760)), (25, .inl (.long 758836)), (25, .inl (.long 23713)), (25, .inl (.long 741)), (25, .inl (.long 23)), (24, .inl (.long 7931332)), (24, .inl (.long 247854)), (24, .inl (.long 7745)), (24, .inl (.long 242)), (24, .inl (.long 7)), (23, .inl (.long 212460)), (23, .inl (.long 6639)), (23, .inl (.long 207)), (23, .inl (.long 6)), (22, .inl (.long 23109285)), (22, .inl (.long 722165)), (22, .inl (.long 22567)), (22, .inl (.long 705)), (22, .inl (.long 22)), (21, .inl (.long 17171758)), (21, .inl (.long 536617)), (21, .inl (.long 16769)), (21, .inl (.long 524)), (21, .inl (.long 16)), (20, .inl (.long 441972)), (20, .inl (.long 13811)), (20, .inl (.long 431)), (20, .inl (.long 13)), (19, .inl (.long 21279923)), (19, .inl (.long 664997)), (19, .inl (.long 20781)), (19, .inl (.long 649)), (19, .inl (.long 20)), (18, .inl (.long 14866610)), (18, .inl (.long 464581)), (18, .inl (.long 14518)), (18, .inl (.long 453)), (18, .inl (.long 14)), (17, .inl (.long 186546)), (17, .inl (.long 5829)), (17, .inl (.long 182)), (17, .inl (.long 5)), (16, .inl (.long 215533)), (16, .inl (.long 6735)), (16, .inl (.long 210)), (16, .inl (.long 6)), (15, .inl (.long 89)), (15, .inl (.long 2)), (14, .inl (.long 494)), (14, .inl (.long 15)), (13, .inl (.long 1315876)), (13, .inl (.long 41121)), (13, .inl (.long 1285)), (13, .inl (.long 40)), (13, .inl (.long 1)), (12, .inl (.long 703541682354)), (12, .inl (.long 21985677573)), (12, .inl (.long 687052424)), (12, .inl (.long 21470388)), (12, .inl (.long 670949)), (12, .inl (.long 20967)), (12, .inl (.long 655)), (12, .inl (.long 20)), (11, .inl (.long 1420)), (11, .inl (.long 44)), (11, .inl (.long 1)), (10, .inl (.long 638373)), (10, .inl (.long 19949)), (10, .inl (.long 623)), (10, .inl (.long 19)), (9, .inl (.long 17376357)), (9, .inl (.long 543011)), (9, .inl (.long 16969)), (9, .inl (.long 530)), (9, .inl (.long 16)), (8, .inl (.long 6642)), (8, .inl (.long 207)), (8, .inl (.long 6)), (7, .inl (.long 763496)), (7, .inl (.long 23859)), (7, .inl (.long 745)), (7, .inl (.long 23)), (6, .inl (.long 12343)), (6, .inl (.long 385)), (6, .inl (.long 12)), (5, .inl (.long 17484389)), (5, .inl (.long 546387)), (5, .inl (.long 17074)), (5, .inl (.long 533)), (5, .inl (.long 16)), (4, .inl (.long 17800110260)), (4, .inl (.long 556253445)), (4, .inl (.long 17382920)), (4, .inl (.long 543216)), (4, .inl (.long 16975)), (4, .inl (.long 530)), (4, .inl (.long 16)), (3, .inl (.long 5969364)), (3, .inl (.long 186542)), (3, .inl (.long 5829)), (3, .inl (.long 182)), (3, .inl (.long 5)), (2, .inl (.long 656780)), (2, .inl (.long 20524)), (2, .inl (.long 641)), (2, .inl (.long 20)), (1, .inl (.long 542723566)), (1, .inl (.long 16960111)), (1, .inl (.long 530003)), (1, .inl (.long 16562)), (1, .inl (.long 517)), (1, .inl (.long 16)), (0, .inl (.long 132915)), (0, .inl (.long 4153)), (0, .inl (.long 129)), (0, .inl (.long 4))]),
  .inr (1, 3, .inl (.long 0), [(2, .inl (.long 671108)), (2, .inl (.long 20972)), (2, .inl (.long 655)), (2, .inl (.long 20)), (1, .inl (.long 1265842)), (1, .inl (.long 39557)), (1, .inl (.long 1236)), (1, .inl (.long 38)), (1, .inl (.long 1)), (0, .inl (.long 72564293)), (0, .inl (.long 2267634)), (0, .inl (.long 70863)), (0, .inl (.long 2214)), (0, .inl (.long 69)), (0, .inl (.long 2))]),
  .inr (0, 1002, .inl (.int 0), []),
  .inl (3, [.inl (.ref 21), .inl (.ref 22), .inl (.ref 23), .inl (.ref 24), .inl (.ref 25), .inl (.ref 26), .inl (.ref 27), .inl (.ref 28), .inl (.ref 29), .inl (.ref 30), .inl (.ref 31), .inl (.ref 32), .inl (.ref 33), .inl (.int 0), .inl (.int 1), .inl (.int 0), .inl (.int 0), .inl (.int 0), .inl (.int 0), .inl (.int 0)]),
  .inr (1, 4, .inl (.long 0), []),
  .inr (1, 4, .inl (.long 0), []),
  .inr (1, 5, .inl (.long 0), []),
  .inr (0, 4, .inl (.int 0), []),
  .inr (0, 5, .inl (.int 0), []),
  .inr (0, 5, .inl (.int 0), []),
  .inr (0, 6, .inl (.int 0), []),
  .inr (0, 6, .inl (.int 0), []),
  .inr (0, 4, .inl (.int 0), []),
  .inr (0, 4, .inl (.int 0), []),
  .inr (0, 6, .inl (.int 0), []),
  .inr (0, 6, .inl (.int 0), []),
  .inr (0, 1, .inl (.int 0), [(0, .inl (.int 258))]),
  .inl (4, [.inl (.ref 35), .inl (.ref 37), .inl (.int 1), .inl (.ref 39), .inl (.ref 40), .inl (.ref 41), .inl (.ref 43), .inl (.int 1), .inl (.int 0), .inl (.int 1)]),
  .inl (5, [.inl (.ref 36), .inl (.int 1)]),
  .inr (1, 1, .inl (.long 0), [(0, .inl (.long 1))]),
  .inl (5, [.inl (.ref 38), .inl (.int 1)]),
  .inr (1, 1, .inl (.long 0), []),
  .inr (4, 96, .inl .null, []),
  .inr (4, 6, .inl .null, []),
  .inl (5, [.inl (.ref 42), .inl (.int 1)]),
  .inr (1, 1, .inl (.long 0), []),
  .inr (1, 64, .inl (.long 0), []),
  .inl (6, [.inl (.ref 45)]),
  .inr (0, 64, .inl (.int 0), []),
  .inl (7, [.inl (.ref 47), .inl (.ref 48), .inl (.int 0)]),
  .inr (4, 12, .inl .null, []),
  .inr (2, 1, .inl (.int 0), []),
  .inl (8, [.inl (.long 0)]),
  .inl (9, [.inl (.ref 51), .inl (.ref 52), .inl (.ref 53), .inl (.ref 54), .inl (.ref 55), .inl .null, .inl (.int 0), .inl (.int 1), .inl (.int 0)]),
  .inr (6, 12, .inl .null, []),
  .inr (0, 5, .inl (.int 0), []),
  .inr (0, 24, .inl (.int 0), [(23, .inl (.int (-1))), (22, .inl (.int (-1))), (21, .inl (.int (-1))), (20, .inl (.int (-1))), (19, .inl (.int (-1))), (18, .inl (.int (-1))), (17, .inl (.int (-1))), (16, .inl (.int (-1))), (15, .inl (.int (-1))), (14, .inl (.int (-1))), (13, .inl (.int (-1))), (12, .inl (.int (-1))), (11, .inl (.int (-1))), (10, .inl (.int (-1))), (9, .inl (.int (-1))), (8, .inl (.int (-1))), (7, .inl (.int (-1))), (6, .inl (.int (-1))), (5, .inl (.int (-1))), (4, .inl (.int (-1))), (3, .inl (.int (-1))), (2, .inl (.int (-1))), (1, .inl (.int (-1))), (0, .inl (.int (-1)))]),
  .inr (0, 20, .inl (.int 0), []),
  .inr (0, 20, .inl (.int 0), []),
  .inr (5, 16, .inl .null, []),
  .inr (5, 4, .inl .null, []),
  .inl (5, [.inl (.ref 59), .inl (.int 1)]),
  .inr (1, 1, .inl (.long 0), [(0, .inl (.long 1))]),
  .inl (5, [.inl (.ref 61), .inl (.int 1)]),
  .inr (1, 1, .inl (.long 0), []),
  .inl (5, [.inl (.ref 63), .inl (.int 1)]),
  .inr (1, 1, .inl (.long 0), []),
  .inr (0, 96, .inl (.int 0), []),
  .inr (0, 2, .inl (.int 0), []),
  .inr (0, 5, .inl (.int 0), []),
  .inr (2, 64, .inl (.int 0), []),
  .inl (3, [.inl (.ref 69), .inl (.ref 70), .inl (.ref 71), .inl (.ref 72), .inl (.ref 73), .inl (.ref 74), .inl (.ref 75), .inl (.ref 76), .inl (.ref 77), .inl (.ref 78), .inl (.ref 79), .inl (.ref 80), .inl (.ref 81), .inl (.int 0), .inl (.int 1), .inl (.int 0), .inl (.int 0), .inl (.int 0), .inl (.int 0), .inl (.int 0)]),
  .inr (1, 4, .inl (.long 0), []),
  .inr (1, 4, .inl (.long 0), []),
  .inr (1, 5, .inl (.long 0), []),
  .inr (0, 4, .inl (.int 0), []),
  .inr (0, 5, .inl (.int 0), []),
  .inr (0, 5, .inl (.int 0), []),
  .inr (0, 6, .inl (.int 0), []),
  .inr (0, 6, .inl (.int 0), []),
  .inr (0, 4, .inl (.int 0), []),
  .inr (0, 4, .inl (.int 0), []),
  .inr (0, 6, .inl (.int 0), []),
  .inr (0, 6, .inl (.int 0), []),
  .inr (0, 1, .inl (.int 0), [(0, .inl (.int 258))]),
  .inl (11, [.inl (.int 0), .inl (.ref 83), .inl (.int 0), .inl (.int 0), .inl (.ref 84), .inl (.ref 85), .inl (.ref 86), .inl (.int 0), .inl (.int 0), .inl (.ref 87), .inl (.ref 88), .inl (.ref 89), .inl (.ref 90), .inl (.int 0), .inl (.ref 91), .inl (.ref 92), .inl (.ref 93), .inl (.ref 94), .inl (.int 0), .inl (.int 0), .inl (.int 0), .inl (.ref 95), .inl (.ref 96), .inl (.ref 97), .inl (.int 1), .inl (.int 1), .inl (.ref 98), .inl (.ref 99), .inl (.int 0), .inl (.ref 100), .inl (.int 0), .inl (.ref 101), .inl (.ref 102), .inl (.int 0), .inl (.int 0), .inl (.int 0), .inl (.ref 103), .inl (.int 0), .inl (.ref 104), .inl (.ref 105), .inl (.int 0), .inl (.ref 106), .inl (.ref 107), .inl (.long 0), .inl (.ref 108)]),
  .inr (0, 1000, .inl (.int 0), []),
  .inr (0, 1002, .inl (.int 0), []),
  .inr (0, 1002, .inl (.int 0), []),
  .inr (1, 1002, .inl (.long 0), []),
  .inr (1, 32, .inl (.long 0), [(31, .inl (.long 1034043)), (30, .inl (.long 2205662)), (29, .inl (.long 148383843)), (28, .inl (.long 573)), (27, .inl (.long 1891)), (26, .inl (.long 19741)), (25, .inl (.long 59361325568)), (24, .inl (.long 14032772)), (23, .inl (.long 325020)), (22, .inl (.long 41292560)), (21, .inl (.long 30596128)), (20, .inl (.long 679747)), (19, .inl (.long 37957098)), (18, .inl (.long 26521840)), (17, .inl (.long 283586)), (16, .inl (.long 329128)), (15, .inl (.long 99)), (14, .inl (.long 569)), (13, .inl (.long 2286271)), (12, .inl (.long 1937619241514)), (11, .inl (.long 1825)), (10, .inl (.long 983428)), (9, .inl (.long 30910767)), (8, .inl (.long 8787)), (7, .inl (.long 1178051)), (6, .inl (.long 16488)), (5, .inl (.long 31075639)), (4, .inl (.long 42328747790)), (3, .inl (.long 10492554)), (2, .inl (.long 1014885)), (1, .inl (.long 1119812451)), (0, .inl (.long 204925))]),
  .inr (0, 100, .inl (.int 0), [(0, .inl (.int 1)), (6, .inl (.int (-1))), (49, .inl (.int 0)), (48, .inl (.int 0)), (47, .inl (.int 0)), (46, .inl (.int 0)), (45, .inl (.int 0)), (44, .inl (.int 0)), (43, .inl (.int 0)), (42, .inl (.int 0)), (41, .inl (.int 0)), (40, .inl (.int 0)), (39, .inl (.int 0)), (38, .inl (.int 0)), (37, .inl (.int 0)), (36, .inl (.int 0)), (35, .inl (.int 0)), (34, .inl (.int 0)), (33, .inl (.int 0)), (32, .inl (.int 0)), (31, .inl (.int 0)), (30, .inl (.int 0)), (29, .inl (.int 0)), (28, .inl (.int 0)), (27, .inl (.int 0)), (26, .inl (.int 0)), (25, .inl (.int 0)), (24, .inl (.int 0)), (23, .inl (.int 0)), (22, .inl (.int 0)), (21, .inl (.int 0)), (20, .inl (.int 0)), (19, .inl (.int 0)), (18, .inl (.int 0)), (17, .inl (.int 0)), (16, .inl (.int 0)), (15, .inl (.int 0)), (14, .inl (.int 0)), (13, .inl (.int 0)), (12, .inl (.int 0)), (11, .inl (.int 0)), (10, .inl (.int 0)), (9, .inl (.int 0)), (8, .inl (.int 0)), (7, .inl (.int 0)), (6, .inl (.int 0)), (5, .inl (.int 0)), (4, .inl (.int 0)), (3, .inl (.int 0)), (2, .inl (.int 0)), (1, .inl (.int 0)), (0, .inl (.int 0))]),
  .inr (0, 2200, .inl (.int 0), []),
  .inr (0, 2200, .inl (.int 0), []),
  .inr (1, 13, .inl (.long 0), []),
  .inr (1, 13, .inl (.long 0), []),
  .inr (0, 13, .inl (.int 0), []),
  .inr (0, 13, .inl (.int 0), []),
  .inr (0, 3, .inl (.int 0), []),
  .inr (0, 1100, .inl (.int 0), []),
  .inr (1, 159744, .inl (.long 0), [(16384, .inl (.long 1)), (16384, .inl (.long 0)), (15872, .inl (.long 0)), (15360, .inl (.long 0)), (14848, .inl (.long 0)), (14336, .inl (.long 0)), (13824, .inl (.long 0)), (13312, .inl (.long 0)), (12800, .inl (.long 0)), (12288, .inl (.long 0)), (11776, .inl (.long 0)), (11264, .inl (.long 0)), (10752, .inl (.long 0)), (10240, .inl (.long 0)), (9728, .inl (.long 0)), (9216, .inl (.long 0)), (8704, .inl (.long 0)), (8192, .inl (.long 0)), (7680, .inl (.long 0)), (7168, .inl (.long 0)), (6656, .inl (.long 0)), (6144, .inl (.long 0)), (5632, .inl (.long 0)), (5120, .inl (.long 0)), (4608, .inl (.long 0)), (4096, .inl (.long 0)), (3584, .inl (.long 0)), (3072, .inl (.long 0)), (2560, .inl (.long 0)), (2048, .inl (.long 0)), (1536, .inl (.long 0)), (1024, .inl (.long 0)), (512, .inl (.long 0)), (0, .inl (.long 0))]),
  .inr (0, 25, .inl (.int 0), []),
  .inr (0, 24, .inl (.int 0), []),
  .inr (0, 2310, .inl (.int 0), [(7, .inl (.int 0)), (6, .inl (.int 0)), (5, .inl (.int 0)), (4, .inl (.int 0)), (3, .inl (.int 0)), (1, .inl (.int 1)), (109, .inl (.int 0)), (108, .inl (.int 0)), (107, .inl (.int 0)), (106, .inl (.int 0)), (105, .inl (.int 0)), (104, .inl (.int 0)), (103, .inl (.int 0)), (102, .inl (.int 0)), (101, .inl (.int 0)), (100, .inl (.int 0)), (99, .inl (.int 0)), (98, .inl (.int 0)), (97, .inl (.int 0)), (96, .inl (.int 0)), (95, .inl (.int 0)), (94, .inl (.int 0)), (93, .inl (.int 0)), (92, .inl (.int 0)), (91, .inl (.int 0)), (90, .inl (.int 0)), (89, .inl (.int 0)), (88, .inl (.int 0)), (87, .inl (.int 0)), (86, .inl (.int 0)), (85, .inl (.int 0)), (84, .inl (.int 0)), (83, .inl (.int 0)), (82, .inl (.int 0)), (81, .inl (.int 0)), (80, .inl (.int 0)), (79, .inl (.int 0)), (78, .inl (.int 0)), (77, .inl (.int 0)), (76, .inl (.int 0)), (75, .inl (.int 0)), (74, .inl (.int 0)), (73, .inl (.int 0)), (72, .inl (.int 0)), (71, .inl (.int 0)), (70, .inl (.int 0)), (69, .inl (.int 0)), (68, .inl (.int 0)), (67, .inl (.int (-1))), (66, .inl (.int (-1))), (65, .inl (.int (-1))), (64, .inl (.int (-1))), (63, .inl (.int (-1))), (62, .inl (.int (-1))), (61, .inl (.int (-1))), (60, .inl (.int (-1))), (59, .inl (.int (-1))), (58, .inl (.int (-1))), (57, .inl (.int (-1))), (56, .inl (.int (-1))), (55, .inl (.int (-1))), (54, .inl (.int (-1))), (53, .inl (.int (-1))), (52, .inl (.int (-1))), (51, .inl (.int (-1))), (50, .inl (.int (-1))), (49, .inl (.int (-1))), (48, .inl (.int (-1))), (47, .inl (.int (-1))), (46, .inl (.int (-1))), (45, .inl (.int (-1))), (44, .inl (.int (-1))), (43, .inl (.int 0)), (42, .inl (.int 0)), (41, .inl (.int 0)), (40, .inl (.int 0)), (39, .inl (.int 0)), (38, .inl (.int 0)), (37, .inl (.int 0)), (36, .inl (.int 0)), (35, .inl (.int 0)), (34, .inl (.int 0)), (33, .inl (.int 0)), (32, .inl (.int 0)), (31, .inl (.int 0)), (30, .inl (.int 0)), (29, .inl (.int 0)), (28, .inl (.int 0)), (27, .inl (.int 0)), (26, .inl (.int 0)), (25, .inl (.int 0)), (24, .inl (.int 0)), (23, .inl (.int 0)), (22, .inl (.int 0)), (21, .inl (.int 0)), (20, .inl (.int 0)), (19, .inl (.int 0)), (18, .inl (.int 0)), (17, .inl (.int 0)), (16, .inl (.int 0)), (15, .inl (.int 0)), (14, .inl (.int 0)), (13, .inl (.int 0)), (12, .inl (.int 0)), (11, .inl (.int 0)), (10, .inl (.int 0)), (9, .inl (.int 0)), (8, .inl (.int 0)), (7, .inl (.int 0)), (6, .inl (.int 0)), (5, .inl (.int 0)), (4, .inl (.int 0)), (3, .inl (.int 0)), (2, .inl (.int 0)), (1, .inl (.int 0)), (0, .inl (.int 0))]),
  .inr (2, 5, .inl (.int 0), [(4, .inl (.int 0)), (3, .inl (.int 0)), (2, .inl (.int 0)), (1, .inl (.int 0)), (0, .inl (.int 0))]),
  .inr (2, 5, .inl (.int 0), [(4, .inl (.int 0)), (3, .inl (.int 0)), (2, .inl (.int 0)), (1, .inl (.int 0)), (0, .inl (.int 0))]),
  .inr (0, 96, .inl (.int 0), []),
  .inr (0, 2, .inl (.int 0), []),
  .inr (0, 30, .inl (.int 0), []),
  .inr (0, 20, .inl (.int 0), []),
  .inr (2, 4, .inl (.int 0), []),
  .inr (0, 5, .inl (.int 0), []),
  .inr (1, 1, .inl (.long 0), [])]
def zi_al0 : List (Nat × zi_V) := [(4, .inl (.int 0)), (3, .inl (.ref 109)), (2, .inl (.ref 82)), (1, .inl (.ref 10)), (0, .inl (.ref 8))]
def zi_f0 : zi_F := (23, zi_al0, [], zi_A0, 100, 177797)
noncomputable def zi_call : zi_K := zi_ev zi_Ms 100000 60
def zi_vb (v w : zi_V) : Bool := match v, w with
  | .inl a, .inl b => decide (a = b)
  | .inr a, .inr b => decide (a = b)
  | _, _ => false
theorem zi_vb_ok {v w : zi_V} (h : zi_vb v w = true) : v = w := by
  cases v with
  | inl a => cases w with
    | inl b => rw [show a = b from of_decide_eq_true h]
    | inr b => exact Bool.noConfusion (show false = true from h)
  | inr a => cases w with
    | inl b => exact Bool.noConfusion (show false = true from h)
    | inr b => rw [show a = b from of_decide_eq_true h]
noncomputable def zi_lb {α : Type} (r : α → α → Bool) (l : List α) : List α → Bool := List.rec (motive := fun _ => List α → Bool) (fun m => match m with | [] => true | _ :: _ => false) (fun a _ ih m => match m with | [] => false | b :: bs => r a b && ih bs) l
theorem zi_lb_ok {α : Type} {r : α → α → Bool} (hr : ∀ a b, r a b = true → a = b) : ∀ {l m : List α}, zi_lb r l m = true → l = m
  | [], [], _ => rfl
  | [], _ :: _, h => Bool.noConfusion (show false = true from h)
  | _ :: _, [], h => Bool.noConfusion (show false = true from h)
  | a :: as, b :: bs, h => by
    have h : (r a b && zi_lb r as bs) = true := h
    rw [Bool.and_eq_true] at h
    rw [hr a b h.1, zi_lb_ok hr h.2]
def zi_pb (p q : Nat × zi_V) : Bool := Nat.beq p.1 q.1 && zi_vb p.2 q.2
theorem zi_pb_ok (p q : Nat × zi_V) (h : zi_pb p q = true) : p = q := by
  unfold zi_pb at h
  rw [Bool.and_eq_true] at h
  exact Prod.ext (Nat.eq_of_beq_eq_true h.1) (zi_vb_ok h.2)
noncomputable def zi_ceq (c e : zi_C) : Bool := match c, e with
  | .inl p, .inl q => Nat.beq p.1 q.1 && zi_lb zi_vb p.2 q.2
  | .inr p, .inr q => Nat.beq p.1 q.1 && Nat.beq p.2.1 q.2.1 && zi_vb p.2.2.1 q.2.2.1 && zi_lb zi_pb p.2.2.2 q.2.2.2
  | _, _ => false
theorem zi_ceq_ok (c e : zi_C) (h : zi_ceq c e = true) : c = e := by
  cases c with
  | inl p => cases e with
    | inl q =>
      have h : (Nat.beq p.1 q.1 && zi_lb zi_vb p.2 q.2) = true := h
      rw [Bool.and_eq_true] at h
      rw [show p = q from Prod.ext (Nat.eq_of_beq_eq_true h.1) (zi_lb_ok (fun _ _ => zi_vb_ok) h.2)]
    | inr q => exact Bool.noConfusion (show false = true from h)
  | inr p => cases e with
    | inl q => exact Bool.noConfusion (show false = true from h)
    | inr q =>
      have h : (Nat.beq p.1 q.1 && Nat.beq p.2.1 q.2.1 && zi_vb p.2.2.1 q.2.2.1 && zi_lb zi_pb p.2.2.2 q.2.2.2) = true := h
      simp only [Bool.and_eq_true] at h
      rw [show p = q from Prod.ext (Nat.eq_of_beq_eq_true h.1.1.1) (Prod.ext (Nat.eq_of_beq_eq_true h.1.1.2) (Prod.ext (zi_vb_ok h.1.2) (zi_lb_ok zi_pb_ok h.2)))]
noncomputable def zi_feq (f : Option zi_F) (g : zi_F) : Bool := match f with
  | some f => Nat.beq f.1 g.1 && zi_lb zi_pb f.2.1 g.2.1 && zi_lb zi_vb f.2.2.1 g.2.2.1 && zi_lb zi_ceq f.2.2.2.1 g.2.2.2.1 && Nat.beq f.2.2.2.2.1 g.2.2.2.2.1 && Nat.beq f.2.2.2.2.2 g.2.2.2.2.2
  | none => false
theorem zi_feq_ok {f : Option zi_F} {g : zi_F} (h : zi_feq f g = true) : f = some g := by
  cases f with
  | none => exact Bool.noConfusion (show false = true from h)
  | some f =>
    have h : (Nat.beq f.1 g.1 && zi_lb zi_pb f.2.1 g.2.1 && zi_lb zi_vb f.2.2.1 g.2.2.1 && zi_lb zi_ceq f.2.2.2.1 g.2.2.2.1 && Nat.beq f.2.2.2.2.1 g.2.2.2.2.1 && Nat.beq f.2.2.2.2.2 g.2.2.2.2.2) = true := h
    simp only [Bool.and_eq_true] at h
    rw [show f = g from Prod.ext (Nat.eq_of_beq_eq_true h.1.1.1.1.1) (Prod.ext (zi_lb_ok zi_pb_ok h.1.1.1.1.2) (Prod.ext (zi_lb_ok (fun _ _ => zi_vb_ok) h.1.1.1.2) (Prod.ext (zi_lb_ok zi_ceq_ok h.1.1.2) (Prod.ext (Nat.eq_of_beq_eq_true h.1.2) (Nat.eq_of_beq_eq_true h.2)))))]
