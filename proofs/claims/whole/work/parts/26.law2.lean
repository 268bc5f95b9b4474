def kl_20 : List mx_I := [
  (796, .iaload, false, [], 0, 0, 0, 0, 0, []),
  (797, .invokevirtual 91, false, [], 179, 2, 1, 7, 0, []),
  (800, .if_icmp .eq 608, false, [], 1408, 0, 0, 0, 0, []),
  (803, .iconst 0, false, [], 0, 0, 0, 0, 0, []),
  (804, .ireturn, false, [], 0, 0, 0, 1, 0, []),
  (805, .aload_n 1, false, [], 0, 0, 0, 0, 0, []),
  (806, .invokevirtual 92, false, [], 104, 0, 1, 6, 0, []),
  (809, .aload_n 2, false, [], 0, 0, 0, 0, 0, []),
  (810, .invokevirtual 96, false, [], 180, 0, 1, 7, 0, []),
  (813, .if_icmp .eq 595, false, [], 1408, 0, 0, 0, 0, []),
  (816, .iconst 0, false, [], 0, 0, 0, 0, 0, []),
  (817, .ireturn, false, [], 0, 0, 0, 1, 0, []),
  (818, .aload_n 1, false, [], 0, 0, 0, 0, 0, []),
  (819, .aload_n 0, false, [], 0, 0, 0, 0, 0, []),
  (820, .iload_n 3, false, [], 0, 0, 0, 0, 0, []),
  (821, .iconst 1, false, [], 0, 0, 0, 0, 1, []),
  (822, .iadd, false, [], 0, 0, 0, 0, 0, []),
  (823, .iaload, false, [], 0, 0, 0, 0, 0, []),
  (824, .invokevirtual 97, false, [], 105, 1, 1, 6, 0, []),
  (827, .aload_n 2, false, [], 0, 0, 0, 0, 0, []),
  (828, .aload_n 0, false, [], 0, 0, 0, 0, 0, []),
  (829, .iload_n 3, false, [], 0, 0, 0, 0, 0, []),
  (830, .iconst 1, false, [], 0, 0, 0, 0, 1, []),
  (831, .iadd, false, [], 0, 0, 0, 0, 0, []),
  (832, .iaload, false, [], 0, 0, 0, 0, 0, [])]
set_option maxRecDepth 100000 in
theorem ckl_20 : kl_20.all (mx_ok mx_P yL_law cL_law 4 (some .boolean)) = true := by decide +kernel
set_option maxRecDepth 100000 in
theorem cwl_20 : (kl_20.flatMap (mx_need mx_P yL_law.cls)).all (fun w => decide (w ∈ lw_tbl) && goodWord w) = true := by decide +kernel
def kl_21 : List mx_I := [
  (833, .invokevirtual 100, false, [], 181, 1, 1, 7, 0, []),
  (836, .if_icmp .eq 572, false, [], 1408, 0, 0, 0, 0, []),
  (839, .iconst 0, false, [], 0, 0, 0, 0, 0, []),
  (840, .ireturn, false, [], 0, 0, 0, 1, 0, []),
  (841, .aload_n 1, false, [], 0, 0, 0, 0, 0, []),
  (842, .aload_n 0, false, [], 0, 0, 0, 0, 0, []),
  (843, .iload_n 3, false, [], 0, 0, 0, 0, 0, []),
  (844, .iconst 1, false, [], 0, 0, 0, 0, 1, []),
  (845, .iadd, false, [], 0, 0, 0, 0, 0, []),
  (846, .iaload, false, [], 0, 0, 0, 0, 0, []),
  (847, .aload_n 0, false, [], 0, 0, 0, 0, 0, []),
  (848, .iload_n 3, false, [], 0, 0, 0, 0, 0, []),
  (849, .iconst 2, false, [], 0, 0, 0, 0, 2, []),
  (850, .iadd, false, [], 0, 0, 0, 0, 0, []),
  (851, .iaload, false, [], 0, 0, 0, 0, 0, []),
  (852, .aload_n 0, false, [], 0, 0, 0, 0, 0, []),
  (853, .iload_n 3, false, [], 0, 0, 0, 0, 0, []),
  (854, .iconst 3, false, [], 0, 0, 0, 0, 3, []),
  (855, .iadd, false, [], 0, 0, 0, 0, 0, []),
  (856, .iaload, false, [], 0, 0, 0, 0, 0, []),
  (857, .invokevirtual 101, false, [], 106, 3, 1, 6, 0, []),
  (860, .aload_n 2, false, [], 0, 0, 0, 0, 0, []),
  (861, .aload_n 0, false, [], 0, 0, 0, 0, 0, []),
  (862, .iload_n 3, false, [], 0, 0, 0, 0, 0, []),
  (863, .iconst 1, false, [], 0, 0, 0, 0, 1, [])]
set_option maxRecDepth 100000 in
theorem ckl_21 : kl_21.all (mx_ok mx_P yL_law cL_law 4 (some .boolean)) = true := by decide +kernel
set_option maxRecDepth 100000 in
theorem cwl_21 : (kl_21.flatMap (mx_need mx_P yL_law.cls)).all (fun w => decide (w ∈ lw_tbl) && goodWord w) = true := by decide +kernel
def kl_22 : List mx_I := [
  (864, .iadd, false, [], 0, 0, 0, 0, 0, []),
  (865, .iaload, false, [], 0, 0, 0, 0, 0, []),
  (866, .aload_n 0, false, [], 0, 0, 0, 0, 0, []),
  (867, .iload_n 3, false, [], 0, 0, 0, 0, 0, []),
  (868, .iconst 2, false, [], 0, 0, 0, 0, 2, []),
  (869, .iadd, false, [], 0, 0, 0, 0, 0, []),
  (870, .iaload, false, [], 0, 0, 0, 0, 0, []),
  (871, .aload_n 0, false, [], 0, 0, 0, 0, 0, []),
  (872, .iload_n 3, false, [], 0, 0, 0, 0, 0, []),
  (873, .iconst 3, false, [], 0, 0, 0, 0, 3, []),
  (874, .iadd, false, [], 0, 0, 0, 0, 0, []),
  (875, .iaload, false, [], 0, 0, 0, 0, 0, []),
  (876, .invokevirtual 104, false, [], 182, 3, 1, 7, 0, []),
  (879, .if_icmp .eq 529, false, [], 1408, 0, 0, 0, 0, []),
  (882, .iconst 0, false, [], 0, 0, 0, 0, 0, []),
  (883, .ireturn, false, [], 0, 0, 0, 1, 0, []),
  (884, .aload_n 1, false, [], 0, 0, 0, 0, 0, []),
  (885, .aload_n 0, false, [], 0, 0, 0, 0, 0, []),
  (886, .iload_n 3, false, [], 0, 0, 0, 0, 0, []),
  (887, .iconst 1, false, [], 0, 0, 0, 0, 1, []),
  (888, .iadd, false, [], 0, 0, 0, 0, 0, []),
  (889, .iaload, false, [], 0, 0, 0, 0, 0, []),
  (890, .invokevirtual 105, false, [], 108, 1, 1, 6, 0, []),
  (893, .aload_n 2, false, [], 0, 0, 0, 0, 0, []),
  (894, .aload_n 0, false, [], 0, 0, 0, 0, 0, [])]
set_option maxRecDepth 100000 in
theorem ckl_22 : kl_22.all (mx_ok mx_P yL_law cL_law 4 (some .boolean)) = true := by decide +kernel
set_option maxRecDepth 100000 in
theorem cwl_22 : (kl_22.flatMap (mx_need mx_P yL_law.cls)).all (fun w => decide (w ∈ lw_tbl) && goodWord w) = true := by decide +kernel
def kl_23 : List mx_I := [
  (895, .iload_n 3, false, [], 0, 0, 0, 0, 0, []),
  (896, .iconst 1, false, [], 0, 0, 0, 0, 1, []),
  (897, .iadd, false, [], 0, 0, 0, 0, 0, []),
  (898, .iaload, false, [], 0, 0, 0, 0, 0, []),
  (899, .invokevirtual 108, false, [], 183, 1, 1, 7, 0, []),
  (902, .if_icmp .eq 506, false, [], 1408, 0, 0, 0, 0, []),
  (905, .iconst 0, false, [], 0, 0, 0, 0, 0, []),
  (906, .ireturn, false, [], 0, 0, 0, 1, 0, []),
  (907, .aload_n 1, false, [], 0, 0, 0, 0, 0, []),
  (908, .invokevirtual 109, false, [], 109, 0, 1, 6, 0, []),
  (911, .aload_n 2, false, [], 0, 0, 0, 0, 0, []),
  (912, .invokevirtual 112, false, [], 195, 0, 1, 7, 0, []),
  (915, .if_icmp .eq 493, false, [], 1408, 0, 0, 0, 0, []),
  (918, .iconst 0, false, [], 0, 0, 0, 0, 0, []),
  (919, .ireturn, false, [], 0, 0, 0, 1, 0, []),
  (920, .aload_n 1, false, [], 0, 0, 0, 0, 0, []),
  (921, .aload_n 0, false, [], 0, 0, 0, 0, 0, []),
  (922, .iload_n 3, false, [], 0, 0, 0, 0, 0, []),
  (923, .iconst 1, false, [], 0, 0, 0, 0, 1, []),
  (924, .iadd, false, [], 0, 0, 0, 0, 0, []),
  (925, .iaload, false, [], 0, 0, 0, 0, 0, []),
  (926, .aload_n 0, false, [], 0, 0, 0, 0, 0, []),
  (927, .iload_n 3, false, [], 0, 0, 0, 0, 0, []),
  (928, .iconst 2, false, [], 0, 0, 0, 0, 2, []),
  (929, .iadd, false, [], 0, 0, 0, 0, 0, [])]
set_option maxRecDepth 100000 in
theorem ckl_23 : kl_23.all (mx_ok mx_P yL_law cL_law 4 (some .boolean)) = true := by decide +kernel
set_option maxRecDepth 100000 in
theorem cwl_23 : (kl_23.flatMap (mx_need mx_P yL_law.cls)).all (fun w => decide (w ∈ lw_tbl) && goodWord w) = true := by decide +kernel
def kl_24 : List mx_I := [
  (930, .iaload, false, [], 0, 0, 0, 0, 0, []),
  (931, .invokevirtual 113, false, [], 110, 2, 1, 6, 0, []),
  (934, .aload_n 2, false, [], 0, 0, 0, 0, 0, []),
  (935, .aload_n 0, false, [], 0, 0, 0, 0, 0, []),
  (936, .iload_n 3, false, [], 0, 0, 0, 0, 0, []),
  (937, .iconst 1, false, [], 0, 0, 0, 0, 1, []),
  (938, .iadd, false, [], 0, 0, 0, 0, 0, []),
  (939, .iaload, false, [], 0, 0, 0, 0, 0, []),
  (940, .aload_n 0, false, [], 0, 0, 0, 0, 0, []),
  (941, .iload_n 3, false, [], 0, 0, 0, 0, 0, []),
  (942, .iconst 2, false, [], 0, 0, 0, 0, 2, []),
  (943, .iadd, false, [], 0, 0, 0, 0, 0, []),
  (944, .iaload, false, [], 0, 0, 0, 0, 0, []),
  (945, .invokevirtual 116, false, [], 196, 2, 1, 7, 0, []),
  (948, .if_icmp .eq 460, false, [], 1408, 0, 0, 0, 0, []),
  (951, .iconst 0, false, [], 0, 0, 0, 0, 0, []),
  (952, .ireturn, false, [], 0, 0, 0, 1, 0, []),
  (953, .aload_n 1, false, [], 0, 0, 0, 0, 0, []),
  (954, .aload_n 0, false, [], 0, 0, 0, 0, 0, []),
  (955, .iload_n 3, false, [], 0, 0, 0, 0, 0, []),
  (956, .iconst 1, false, [], 0, 0, 0, 0, 1, []),
  (957, .iadd, false, [], 0, 0, 0, 0, 0, []),
  (958, .iaload, false, [], 0, 0, 0, 0, 0, []),
  (959, .invokevirtual 117, false, [], 111, 1, 1, 6, 0, []),
  (962, .aload_n 2, false, [], 0, 0, 0, 0, 0, [])]
set_option maxRecDepth 100000 in
theorem ckl_24 : kl_24.all (mx_ok mx_P yL_law cL_law 4 (some .boolean)) = true := by decide +kernel
set_option maxRecDepth 100000 in
theorem cwl_24 : (kl_24.flatMap (mx_need mx_P yL_law.cls)).all (fun w => decide (w ∈ lw_tbl) && goodWord w) = true := by decide +kernel
def kl_25 : List mx_I := [
  (963, .aload_n 0, false, [], 0, 0, 0, 0, 0, []),
  (964, .iload_n 3, false, [], 0, 0, 0, 0, 0, []),
  (965, .iconst 1, false, [], 0, 0, 0, 0, 1, []),
  (966, .iadd, false, [], 0, 0, 0, 0, 0, []),
  (967, .iaload, false, [], 0, 0, 0, 0, 0, []),
  (968, .invokevirtual 120, false, [], 198, 1, 1, 7, 0, []),
  (971, .if_icmp .eq 437, false, [], 1408, 0, 0, 0, 0, []),
  (974, .iconst 0, false, [], 0, 0, 0, 0, 0, []),
  (975, .ireturn, false, [], 0, 0, 0, 1, 0, []),
  (976, .aload_n 1, false, [], 0, 0, 0, 0, 0, []),
  (977, .aload_n 0, false, [], 0, 0, 0, 0, 0, []),
  (978, .iload_n 3, false, [], 0, 0, 0, 0, 0, []),
  (979, .iconst 1, false, [], 0, 0, 0, 0, 1, []),
  (980, .iadd, false, [], 0, 0, 0, 0, 0, []),
  (981, .iaload, false, [], 0, 0, 0, 0, 0, []),
  (982, .aload_n 0, false, [], 0, 0, 0, 0, 0, []),
  (983, .iload_n 3, false, [], 0, 0, 0, 0, 0, []),
  (984, .iconst 2, false, [], 0, 0, 0, 0, 2, []),
  (985, .iadd, false, [], 0, 0, 0, 0, 0, []),
  (986, .iaload, false, [], 0, 0, 0, 0, 0, []),
  (987, .aload_n 0, false, [], 0, 0, 0, 0, 0, []),
  (988, .iload_n 3, false, [], 0, 0, 0, 0, 0, []),
  (989, .iconst 3, false, [], 0, 0, 0, 0, 3, []),
  (990, .iadd, false, [], 0, 0, 0, 0, 0, []),
  (991, .iaload, false, [], 0, 0, 0, 0, 0, [])]
set_option maxRecDepth 100000 in
theorem ckl_25 : kl_25.all (mx_ok mx_P yL_law cL_law 4 (some .boolean)) = true := by decide +kernel
set_option maxRecDepth 100000 in
theorem cwl_25 : (kl_25.flatMap (mx_need mx_P yL_law.cls)).all (fun w => decide (w ∈ lw_tbl) && goodWord w) = true := by decide +kernel
def kl_26 : List mx_I := [
  (992, .invokevirtual 121, false, [], 112, 3, 1, 6, 0, []),
  (995, .aload_n 2, false, [], 0, 0, 0, 0, 0, []),
  (996, .aload_n 0, false, [], 0, 0, 0, 0, 0, []),
  (997, .iload_n 3, false, [], 0, 0, 0, 0, 0, []),
  (998, .iconst 1, false, [], 0, 0, 0, 0, 1, []),
  (999, .iadd, false, [], 0, 0, 0, 0, 0, []),
  (1000, .iaload, false, [], 0, 0, 0, 0, 0, []),
  (1001, .aload_n 0, false, [], 0, 0, 0, 0, 0, []),
  (1002, .iload_n 3, false, [], 0, 0, 0, 0, 0, []),
  (1003, .iconst 2, false, [], 0, 0, 0, 0, 2, []),
  (1004, .iadd, false, [], 0, 0, 0, 0, 0, []),
  (1005, .iaload, false, [], 0, 0, 0, 0, 0, []),
  (1006, .aload_n 0, false, [], 0, 0, 0, 0, 0, []),
  (1007, .iload_n 3, false, [], 0, 0, 0, 0, 0, []),
  (1008, .iconst 3, false, [], 0, 0, 0, 0, 3, []),
  (1009, .iadd, false, [], 0, 0, 0, 0, 0, []),
  (1010, .iaload, false, [], 0, 0, 0, 0, 0, []),
  (1011, .invokevirtual 124, false, [], 203, 3, 1, 7, 0, []),
  (1014, .if_icmp .eq 394, false, [], 1408, 0, 0, 0, 0, []),
  (1017, .iconst 0, false, [], 0, 0, 0, 0, 0, []),
  (1018, .ireturn, false, [], 0, 0, 0, 1, 0, []),
  (1019, .aload_n 1, false, [], 0, 0, 0, 0, 0, []),
  (1020, .aload_n 0, false, [], 0, 0, 0, 0, 0, []),
  (1021, .iload_n 3, false, [], 0, 0, 0, 0, 0, []),
  (1022, .iconst 1, false, [], 0, 0, 0, 0, 1, [])]
set_option maxRecDepth 100000 in
theorem ckl_26 : kl_26.all (mx_ok mx_P yL_law cL_law 4 (some .boolean)) = true := by decide +kernel
set_option maxRecDepth 100000 in
theorem cwl_26 : (kl_26.flatMap (mx_need mx_P yL_law.cls)).all (fun w => decide (w ∈ lw_tbl) && goodWord w) = true := by decide +kernel
def kl_27 : List mx_I := [
  (1023, .iadd, false, [], 0, 0, 0, 0, 0, []),
  (1024, .iaload, false, [], 0, 0, 0, 0, 0, []),
  (1025, .aload_n 0, false, [], 0, 0, 0, 0, 0, []),
  (1026, .iload_n 3, false, [], 0, 0, 0, 0, 0, []),
  (1027, .iconst 2, false, [], 0, 0, 0, 0, 2, []),
  (1028, .iadd, false, [], 0, 0, 0, 0, 0, []),
  (1029, .iaload, false, [], 0, 0, 0, 0, 0, []),
  (1030, .aload_n 0, false, [], 0, 0, 0, 0, 0, []),
  (1031, .iload_n 3, false, [], 0, 0, 0, 0, 0, []),
  (1032, .iconst 3, false, [], 0, 0, 0, 0, 3, []),
  (1033, .iadd, false, [], 0, 0, 0, 0, 0, []),
  (1034, .iaload, false, [], 0, 0, 0, 0, 0, []),
  (1035, .invokevirtual 125, false, [], 113, 3, 1, 6, 0, []),
  (1038, .aload_n 2, false, [], 0, 0, 0, 0, 0, []),
  (1039, .aload_n 0, false, [], 0, 0, 0, 0, 0, []),
  (1040, .iload_n 3, false, [], 0, 0, 0, 0, 0, []),
  (1041, .iconst 1, false, [], 0, 0, 0, 0, 1, []),
  (1042, .iadd, false, [], 0, 0, 0, 0, 0, []),
  (1043, .iaload, false, [], 0, 0, 0, 0, 0, []),
  (1044, .aload_n 0, false, [], 0, 0, 0, 0, 0, []),
  (1045, .iload_n 3, false, [], 0, 0, 0, 0, 0, []),
  (1046, .iconst 2, false, [], 0, 0, 0, 0, 2, []),
  (1047, .iadd, false, [], 0, 0, 0, 0, 0, []),
  (1048, .iaload, false, [], 0, 0, 0, 0, 0, []),
  (1049, .aload_n 0, false, [], 0, 0, 0, 0, 0, [])]
set_option maxRecDepth 100000 in
theorem ckl_27 : kl_27.all (mx_ok mx_P yL_law cL_law 4 (some .boolean)) = true := by decide +kernel
set_option maxRecDepth 100000 in
theorem cwl_27 : (kl_27.flatMap (mx_need mx_P yL_law.cls)).all (fun w => decide (w ∈ lw_tbl) && goodWord w) = true := by decide +kernel
def kl_28 : List mx_I := [
  (1050, .iload_n 3, false, [], 0, 0, 0, 0, 0, []),
  (1051, .iconst 3, false, [], 0, 0, 0, 0, 3, []),
  (1052, .iadd, false, [], 0, 0, 0, 0, 0, []),
  (1053, .iaload, false, [], 0, 0, 0, 0, 0, []),
  (1054, .invokevirtual 128, false, [], 204, 3, 1, 7, 0, []),
  (1057, .if_icmp .eq 351, false, [], 1408, 0, 0, 0, 0, []),
  (1060, .iconst 0, false, [], 0, 0, 0, 0, 0, []),
  (1061, .ireturn, false, [], 0, 0, 0, 1, 0, []),
  (1062, .aload_n 1, false, [], 0, 0, 0, 0, 0, []),
  (1063, .aload_n 0, false, [], 0, 0, 0, 0, 0, []),
  (1064, .iload_n 3, false, [], 0, 0, 0, 0, 0, []),
  (1065, .iconst 1, false, [], 0, 0, 0, 0, 1, []),
  (1066, .iadd, false, [], 0, 0, 0, 0, 0, []),
  (1067, .iaload, false, [], 0, 0, 0, 0, 0, []),
  (1068, .invokevirtual 129, false, [], 114, 1, 1, 6, 0, []),
  (1071, .aload_n 2, false, [], 0, 0, 0, 0, 0, []),
  (1072, .aload_n 0, false, [], 0, 0, 0, 0, 0, []),
  (1073, .iload_n 3, false, [], 0, 0, 0, 0, 0, []),
  (1074, .iconst 1, false, [], 0, 0, 0, 0, 1, []),
  (1075, .iadd, false, [], 0, 0, 0, 0, 0, []),
  (1076, .iaload, false, [], 0, 0, 0, 0, 0, []),
  (1077, .invokevirtual 132, false, [], 205, 1, 1, 7, 0, []),
  (1080, .if_icmp .eq 328, false, [], 1408, 0, 0, 0, 0, []),
  (1083, .iconst 0, false, [], 0, 0, 0, 0, 0, []),
  (1084, .ireturn, false, [], 0, 0, 0, 1, 0, [])]
set_option maxRecDepth 100000 in
theorem ckl_28 : kl_28.all (mx_ok mx_P yL_law cL_law 4 (some .boolean)) = true := by decide +kernel
set_option maxRecDepth 100000 in
theorem cwl_28 : (kl_28.flatMap (mx_need mx_P yL_law.cls)).all (fun w => decide (w ∈ lw_tbl) && goodWord w) = true := by decide +kernel
def kl_29 : List mx_I := [
  (1085, .aload_n 1, false, [], 0, 0, 0, 0, 0, []),
  (1086, .aload_n 0, false, [], 0, 0, 0, 0, 0, []),
  (1087, .iload_n 3, false, [], 0, 0, 0, 0, 0, []),
  (1088, .iconst 1, false, [], 0, 0, 0, 0, 1, []),
  (1089, .iadd, false, [], 0, 0, 0, 0, 0, []),
  (1090, .iaload, false, [], 0, 0, 0, 0, 0, []),
  (1091, .invokevirtual 133, false, [], 115, 1, 1, 6, 0, []),
  (1094, .aload_n 2, false, [], 0, 0, 0, 0, 0, []),
  (1095, .aload_n 0, false, [], 0, 0, 0, 0, 0, []),
  (1096, .iload_n 3, false, [], 0, 0, 0, 0, 0, []),
  (1097, .iconst 1, false, [], 0, 0, 0, 0, 1, []),
  (1098, .iadd, false, [], 0, 0, 0, 0, 0, []),
  (1099, .iaload, false, [], 0, 0, 0, 0, 0, []),
  (1100, .invokevirtual 136, false, [], 206, 1, 1, 7, 0, []),
  (1103, .if_icmp .eq 305, false, [], 1408, 0, 0, 0, 0, []),
  (1106, .iconst 0, false, [], 0, 0, 0, 0, 0, []),
  (1107, .ireturn, false, [], 0, 0, 0, 1, 0, []),
  (1108, .aload_n 1, false, [], 0, 0, 0, 0, 0, []),
  (1109, .aload_n 0, false, [], 0, 0, 0, 0, 0, []),
  (1110, .iload_n 3, false, [], 0, 0, 0, 0, 0, []),
  (1111, .iconst 1, false, [], 0, 0, 0, 0, 1, []),
  (1112, .iadd, false, [], 0, 0, 0, 0, 0, []),
  (1113, .iaload, false, [], 0, 0, 0, 0, 0, []),
  (1114, .aload_n 0, false, [], 0, 0, 0, 0, 0, []),
  (1115, .iload_n 3, false, [], 0, 0, 0, 0, 0, [])]
set_option maxRecDepth 100000 in
theorem ckl_29 : kl_29.all (mx_ok mx_P yL_law cL_law 4 (some .boolean)) = true := by decide +kernel
set_option maxRecDepth 100000 in
theorem cwl_29 : (kl_29.flatMap (mx_need mx_P yL_law.cls)).all (fun w => decide (w ∈ lw_tbl) && goodWord w) = true := by decide +kernel
