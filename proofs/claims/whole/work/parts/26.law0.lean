/-! ===== the law, in pieces ===== -/
def kl_0 : List mx_I := [
  (0, .new 7, false, [], 6, 0, 0, 0, 0, []),
  (3, .dup, false, [], 0, 0, 0, 0, 0, []),
  (4, .invokespecial 9, false, [], 82, 0, 0, 0, 0, []),
  (7, .astore_n 1, false, [], 0, 0, 0, 0, 0, []),
  (8, .new 10, false, [], 7, 0, 0, 0, 0, []),
  (11, .dup, false, [], 0, 0, 0, 0, 0, []),
  (12, .invokespecial 12, false, [], 132, 0, 0, 0, 0, []),
  (15, .astore_n 2, false, [], 0, 0, 0, 0, 0, []),
  (16, .iconst 0, false, [], 0, 0, 0, 0, 0, []),
  (17, .istore_n 3, false, [], 0, 0, 0, 0, 0, []),
  (18, .iload_n 3, true, [0, 1, 2, 3], 0, 0, 0, 0, 0, []),
  (19, .aload_n 0, false, [], 0, 0, 0, 0, 0, []),
  (20, .arraylength, false, [], 0, 0, 0, 0, 0, []),
  (21, .bipush 6, false, [], 0, 0, 0, 0, 6, []),
  (23, .isub, false, [], 0, 0, 0, 0, 0, []),
  (24, .if_icmp .gt 1390, false, [], 1414, 0, 0, 0, 0, []),
  (27, .aload_n 0, false, [], 0, 0, 0, 0, 0, []),
  (28, .iload_n 3, false, [], 0, 0, 0, 0, 0, []),
  (29, .iaload, false, [], 0, 0, 0, 0, 0, []),
  (30, .bipush 63, false, [], 0, 0, 0, 0, 63, []),
  (32, .iand, false, [], 0, 0, 0, 0, 0, []),
  (33, .tableswitch 1375 0 39 #[175, 218, 251, 284, 317, 360, 393, 426, 449, 472, 495, 518, 551, 584, 607, 630, 663, 696, 739, 772, 785, 808, 851, 874, 887, 920, 943, 986, 1029, 1052, 1075, 1138, 1181, 1214, 1247, 1280, 1303, 1326, 1339, 1352], false, [], 1408, 175, 0, 0, 0, [(0, 208), (1, 251), (2, 284), (3, 317), (4, 350), (5, 393), (6, 426), (7, 459), (8, 482), (9, 505), (10, 528), (11, 551), (12, 584), (13, 617), (14, 640), (15, 663), (16, 696), (17, 729), (18, 772), (19, 805), (20, 818), (21, 841), (22, 884), (23, 907), (24, 920), (25, 953), (26, 976), (27, 1019), (28, 1062), (29, 1085), (30, 1108), (31, 1171), (32, 1214), (33, 1247), (34, 1280), (35, 1313), (36, 1336), (37, 1359), (38, 1372), (39, 1385)]),
  (208, .aload_n 1, false, [], 0, 0, 0, 0, 0, []),
  (209, .aload_n 0, false, [], 0, 0, 0, 0, 0, []),
  (210, .iload_n 3, false, [], 0, 0, 0, 0, 0, [])]
set_option maxRecDepth 100000 in
theorem ckl_0 : kl_0.all (mx_ok mx_P yL_law cL_law 4 (some .boolean)) = true := by decide +kernel
set_option maxRecDepth 100000 in
theorem cwl_0 : (kl_0.flatMap (mx_need mx_P yL_law.cls)).all (fun w => decide (w ∈ lw_tbl) && goodWord w) = true := by decide +kernel
def kl_1 : List mx_I := [
  (211, .iconst 1, false, [], 0, 0, 0, 0, 1, []),
  (212, .iadd, false, [], 0, 0, 0, 0, 0, []),
  (213, .iaload, false, [], 0, 0, 0, 0, 0, []),
  (214, .aload_n 0, false, [], 0, 0, 0, 0, 0, []),
  (215, .iload_n 3, false, [], 0, 0, 0, 0, 0, []),
  (216, .iconst 2, false, [], 0, 0, 0, 0, 2, []),
  (217, .iadd, false, [], 0, 0, 0, 0, 0, []),
  (218, .iaload, false, [], 0, 0, 0, 0, 0, []),
  (219, .aload_n 0, false, [], 0, 0, 0, 0, 0, []),
  (220, .iload_n 3, false, [], 0, 0, 0, 0, 0, []),
  (221, .iconst 3, false, [], 0, 0, 0, 0, 3, []),
  (222, .iadd, false, [], 0, 0, 0, 0, 0, []),
  (223, .iaload, false, [], 0, 0, 0, 0, 0, []),
  (224, .invokevirtual 13, false, [], 83, 3, 1, 6, 0, []),
  (227, .aload_n 2, false, [], 0, 0, 0, 0, 0, []),
  (228, .aload_n 0, false, [], 0, 0, 0, 0, 0, []),
  (229, .iload_n 3, false, [], 0, 0, 0, 0, 0, []),
  (230, .iconst 1, false, [], 0, 0, 0, 0, 1, []),
  (231, .iadd, false, [], 0, 0, 0, 0, 0, []),
  (232, .iaload, false, [], 0, 0, 0, 0, 0, []),
  (233, .aload_n 0, false, [], 0, 0, 0, 0, 0, []),
  (234, .iload_n 3, false, [], 0, 0, 0, 0, 0, []),
  (235, .iconst 2, false, [], 0, 0, 0, 0, 2, []),
  (236, .iadd, false, [], 0, 0, 0, 0, 0, []),
  (237, .iaload, false, [], 0, 0, 0, 0, 0, [])]
set_option maxRecDepth 100000 in
theorem ckl_1 : kl_1.all (mx_ok mx_P yL_law cL_law 4 (some .boolean)) = true := by decide +kernel
set_option maxRecDepth 100000 in
theorem cwl_1 : (kl_1.flatMap (mx_need mx_P yL_law.cls)).all (fun w => decide (w ∈ lw_tbl) && goodWord w) = true := by decide +kernel
def kl_2 : List mx_I := [
  (238, .aload_n 0, false, [], 0, 0, 0, 0, 0, []),
  (239, .iload_n 3, false, [], 0, 0, 0, 0, 0, []),
  (240, .iconst 3, false, [], 0, 0, 0, 0, 3, []),
  (241, .iadd, false, [], 0, 0, 0, 0, 0, []),
  (242, .iaload, false, [], 0, 0, 0, 0, 0, []),
  (243, .invokevirtual 17, false, [], 148, 3, 1, 7, 0, []),
  (246, .if_icmp .eq 1162, false, [], 1408, 0, 0, 0, 0, []),
  (249, .iconst 0, false, [], 0, 0, 0, 0, 0, []),
  (250, .ireturn, false, [], 0, 0, 0, 1, 0, []),
  (251, .aload_n 1, false, [], 0, 0, 0, 0, 0, []),
  (252, .aload_n 0, false, [], 0, 0, 0, 0, 0, []),
  (253, .iload_n 3, false, [], 0, 0, 0, 0, 0, []),
  (254, .iconst 1, false, [], 0, 0, 0, 0, 1, []),
  (255, .iadd, false, [], 0, 0, 0, 0, 0, []),
  (256, .iaload, false, [], 0, 0, 0, 0, 0, []),
  (257, .aload_n 0, false, [], 0, 0, 0, 0, 0, []),
  (258, .iload_n 3, false, [], 0, 0, 0, 0, 0, []),
  (259, .iconst 2, false, [], 0, 0, 0, 0, 2, []),
  (260, .iadd, false, [], 0, 0, 0, 0, 0, []),
  (261, .iaload, false, [], 0, 0, 0, 0, 0, []),
  (262, .invokevirtual 18, false, [], 84, 2, 1, 6, 0, []),
  (265, .aload_n 2, false, [], 0, 0, 0, 0, 0, []),
  (266, .aload_n 0, false, [], 0, 0, 0, 0, 0, []),
  (267, .iload_n 3, false, [], 0, 0, 0, 0, 0, []),
  (268, .iconst 1, false, [], 0, 0, 0, 0, 1, [])]
set_option maxRecDepth 100000 in
theorem ckl_2 : kl_2.all (mx_ok mx_P yL_law cL_law 4 (some .boolean)) = true := by decide +kernel
set_option maxRecDepth 100000 in
theorem cwl_2 : (kl_2.flatMap (mx_need mx_P yL_law.cls)).all (fun w => decide (w ∈ lw_tbl) && goodWord w) = true := by decide +kernel
def kl_3 : List mx_I := [
  (269, .iadd, false, [], 0, 0, 0, 0, 0, []),
  (270, .iaload, false, [], 0, 0, 0, 0, 0, []),
  (271, .aload_n 0, false, [], 0, 0, 0, 0, 0, []),
  (272, .iload_n 3, false, [], 0, 0, 0, 0, 0, []),
  (273, .iconst 2, false, [], 0, 0, 0, 0, 2, []),
  (274, .iadd, false, [], 0, 0, 0, 0, 0, []),
  (275, .iaload, false, [], 0, 0, 0, 0, 0, []),
  (276, .invokevirtual 22, false, [], 149, 2, 1, 7, 0, []),
  (279, .if_icmp .eq 1129, false, [], 1408, 0, 0, 0, 0, []),
  (282, .iconst 0, false, [], 0, 0, 0, 0, 0, []),
  (283, .ireturn, false, [], 0, 0, 0, 1, 0, []),
  (284, .aload_n 1, false, [], 0, 0, 0, 0, 0, []),
  (285, .aload_n 0, false, [], 0, 0, 0, 0, 0, []),
  (286, .iload_n 3, false, [], 0, 0, 0, 0, 0, []),
  (287, .iconst 1, false, [], 0, 0, 0, 0, 1, []),
  (288, .iadd, false, [], 0, 0, 0, 0, 0, []),
  (289, .iaload, false, [], 0, 0, 0, 0, 0, []),
  (290, .aload_n 0, false, [], 0, 0, 0, 0, 0, []),
  (291, .iload_n 3, false, [], 0, 0, 0, 0, 0, []),
  (292, .iconst 2, false, [], 0, 0, 0, 0, 2, []),
  (293, .iadd, false, [], 0, 0, 0, 0, 0, []),
  (294, .iaload, false, [], 0, 0, 0, 0, 0, []),
  (295, .invokevirtual 23, false, [], 85, 2, 1, 6, 0, []),
  (298, .aload_n 2, false, [], 0, 0, 0, 0, 0, []),
  (299, .aload_n 0, false, [], 0, 0, 0, 0, 0, [])]
set_option maxRecDepth 100000 in
theorem ckl_3 : kl_3.all (mx_ok mx_P yL_law cL_law 4 (some .boolean)) = true := by decide +kernel
set_option maxRecDepth 100000 in
theorem cwl_3 : (kl_3.flatMap (mx_need mx_P yL_law.cls)).all (fun w => decide (w ∈ lw_tbl) && goodWord w) = true := by decide +kernel
def kl_4 : List mx_I := [
  (300, .iload_n 3, false, [], 0, 0, 0, 0, 0, []),
  (301, .iconst 1, false, [], 0, 0, 0, 0, 1, []),
  (302, .iadd, false, [], 0, 0, 0, 0, 0, []),
  (303, .iaload, false, [], 0, 0, 0, 0, 0, []),
  (304, .aload_n 0, false, [], 0, 0, 0, 0, 0, []),
  (305, .iload_n 3, false, [], 0, 0, 0, 0, 0, []),
  (306, .iconst 2, false, [], 0, 0, 0, 0, 2, []),
  (307, .iadd, false, [], 0, 0, 0, 0, 0, []),
  (308, .iaload, false, [], 0, 0, 0, 0, 0, []),
  (309, .invokevirtual 26, false, [], 151, 2, 1, 7, 0, []),
  (312, .if_icmp .eq 1096, false, [], 1408, 0, 0, 0, 0, []),
  (315, .iconst 0, false, [], 0, 0, 0, 0, 0, []),
  (316, .ireturn, false, [], 0, 0, 0, 1, 0, []),
  (317, .aload_n 1, false, [], 0, 0, 0, 0, 0, []),
  (318, .aload_n 0, false, [], 0, 0, 0, 0, 0, []),
  (319, .iload_n 3, false, [], 0, 0, 0, 0, 0, []),
  (320, .iconst 1, false, [], 0, 0, 0, 0, 1, []),
  (321, .iadd, false, [], 0, 0, 0, 0, 0, []),
  (322, .iaload, false, [], 0, 0, 0, 0, 0, []),
  (323, .aload_n 0, false, [], 0, 0, 0, 0, 0, []),
  (324, .iload_n 3, false, [], 0, 0, 0, 0, 0, []),
  (325, .iconst 2, false, [], 0, 0, 0, 0, 2, []),
  (326, .iadd, false, [], 0, 0, 0, 0, 0, []),
  (327, .iaload, false, [], 0, 0, 0, 0, 0, []),
  (328, .invokevirtual 27, false, [], 86, 2, 1, 6, 0, [])]
set_option maxRecDepth 100000 in
theorem ckl_4 : kl_4.all (mx_ok mx_P yL_law cL_law 4 (some .boolean)) = true := by decide +kernel
set_option maxRecDepth 100000 in
theorem cwl_4 : (kl_4.flatMap (mx_need mx_P yL_law.cls)).all (fun w => decide (w ∈ lw_tbl) && goodWord w) = true := by decide +kernel
def kl_5 : List mx_I := [
  (331, .aload_n 2, false, [], 0, 0, 0, 0, 0, []),
  (332, .aload_n 0, false, [], 0, 0, 0, 0, 0, []),
  (333, .iload_n 3, false, [], 0, 0, 0, 0, 0, []),
  (334, .iconst 1, false, [], 0, 0, 0, 0, 1, []),
  (335, .iadd, false, [], 0, 0, 0, 0, 0, []),
  (336, .iaload, false, [], 0, 0, 0, 0, 0, []),
  (337, .aload_n 0, false, [], 0, 0, 0, 0, 0, []),
  (338, .iload_n 3, false, [], 0, 0, 0, 0, 0, []),
  (339, .iconst 2, false, [], 0, 0, 0, 0, 2, []),
  (340, .iadd, false, [], 0, 0, 0, 0, 0, []),
  (341, .iaload, false, [], 0, 0, 0, 0, 0, []),
  (342, .invokevirtual 30, false, [], 152, 2, 1, 7, 0, []),
  (345, .if_icmp .eq 1063, false, [], 1408, 0, 0, 0, 0, []),
  (348, .iconst 0, false, [], 0, 0, 0, 0, 0, []),
  (349, .ireturn, false, [], 0, 0, 0, 1, 0, []),
  (350, .aload_n 1, false, [], 0, 0, 0, 0, 0, []),
  (351, .aload_n 0, false, [], 0, 0, 0, 0, 0, []),
  (352, .iload_n 3, false, [], 0, 0, 0, 0, 0, []),
  (353, .iconst 1, false, [], 0, 0, 0, 0, 1, []),
  (354, .iadd, false, [], 0, 0, 0, 0, 0, []),
  (355, .iaload, false, [], 0, 0, 0, 0, 0, []),
  (356, .aload_n 0, false, [], 0, 0, 0, 0, 0, []),
  (357, .iload_n 3, false, [], 0, 0, 0, 0, 0, []),
  (358, .iconst 2, false, [], 0, 0, 0, 0, 2, []),
  (359, .iadd, false, [], 0, 0, 0, 0, 0, [])]
set_option maxRecDepth 100000 in
theorem ckl_5 : kl_5.all (mx_ok mx_P yL_law cL_law 4 (some .boolean)) = true := by decide +kernel
set_option maxRecDepth 100000 in
theorem cwl_5 : (kl_5.flatMap (mx_need mx_P yL_law.cls)).all (fun w => decide (w ∈ lw_tbl) && goodWord w) = true := by decide +kernel
def kl_6 : List mx_I := [
  (360, .iaload, false, [], 0, 0, 0, 0, 0, []),
  (361, .aload_n 0, false, [], 0, 0, 0, 0, 0, []),
  (362, .iload_n 3, false, [], 0, 0, 0, 0, 0, []),
  (363, .iconst 3, false, [], 0, 0, 0, 0, 3, []),
  (364, .iadd, false, [], 0, 0, 0, 0, 0, []),
  (365, .iaload, false, [], 0, 0, 0, 0, 0, []),
  (366, .invokevirtual 31, false, [], 87, 3, 1, 6, 0, []),
  (369, .aload_n 2, false, [], 0, 0, 0, 0, 0, []),
  (370, .aload_n 0, false, [], 0, 0, 0, 0, 0, []),
  (371, .iload_n 3, false, [], 0, 0, 0, 0, 0, []),
  (372, .iconst 1, false, [], 0, 0, 0, 0, 1, []),
  (373, .iadd, false, [], 0, 0, 0, 0, 0, []),
  (374, .iaload, false, [], 0, 0, 0, 0, 0, []),
  (375, .aload_n 0, false, [], 0, 0, 0, 0, 0, []),
  (376, .iload_n 3, false, [], 0, 0, 0, 0, 0, []),
  (377, .iconst 2, false, [], 0, 0, 0, 0, 2, []),
  (378, .iadd, false, [], 0, 0, 0, 0, 0, []),
  (379, .iaload, false, [], 0, 0, 0, 0, 0, []),
  (380, .aload_n 0, false, [], 0, 0, 0, 0, 0, []),
  (381, .iload_n 3, false, [], 0, 0, 0, 0, 0, []),
  (382, .iconst 3, false, [], 0, 0, 0, 0, 3, []),
  (383, .iadd, false, [], 0, 0, 0, 0, 0, []),
  (384, .iaload, false, [], 0, 0, 0, 0, 0, []),
  (385, .invokevirtual 34, false, [], 153, 3, 1, 7, 0, []),
  (388, .if_icmp .eq 1020, false, [], 1408, 0, 0, 0, 0, [])]
set_option maxRecDepth 100000 in
theorem ckl_6 : kl_6.all (mx_ok mx_P yL_law cL_law 4 (some .boolean)) = true := by decide +kernel
set_option maxRecDepth 100000 in
theorem cwl_6 : (kl_6.flatMap (mx_need mx_P yL_law.cls)).all (fun w => decide (w ∈ lw_tbl) && goodWord w) = true := by decide +kernel
def kl_7 : List mx_I := [
  (391, .iconst 0, false, [], 0, 0, 0, 0, 0, []),
  (392, .ireturn, false, [], 0, 0, 0, 1, 0, []),
  (393, .aload_n 1, false, [], 0, 0, 0, 0, 0, []),
  (394, .aload_n 0, false, [], 0, 0, 0, 0, 0, []),
  (395, .iload_n 3, false, [], 0, 0, 0, 0, 0, []),
  (396, .iconst 1, false, [], 0, 0, 0, 0, 1, []),
  (397, .iadd, false, [], 0, 0, 0, 0, 0, []),
  (398, .iaload, false, [], 0, 0, 0, 0, 0, []),
  (399, .aload_n 0, false, [], 0, 0, 0, 0, 0, []),
  (400, .iload_n 3, false, [], 0, 0, 0, 0, 0, []),
  (401, .iconst 2, false, [], 0, 0, 0, 0, 2, []),
  (402, .iadd, false, [], 0, 0, 0, 0, 0, []),
  (403, .iaload, false, [], 0, 0, 0, 0, 0, []),
  (404, .invokevirtual 35, false, [], 89, 2, 1, 6, 0, []),
  (407, .aload_n 2, false, [], 0, 0, 0, 0, 0, []),
  (408, .aload_n 0, false, [], 0, 0, 0, 0, 0, []),
  (409, .iload_n 3, false, [], 0, 0, 0, 0, 0, []),
  (410, .iconst 1, false, [], 0, 0, 0, 0, 1, []),
  (411, .iadd, false, [], 0, 0, 0, 0, 0, []),
  (412, .iaload, false, [], 0, 0, 0, 0, 0, []),
  (413, .aload_n 0, false, [], 0, 0, 0, 0, 0, []),
  (414, .iload_n 3, false, [], 0, 0, 0, 0, 0, []),
  (415, .iconst 2, false, [], 0, 0, 0, 0, 2, []),
  (416, .iadd, false, [], 0, 0, 0, 0, 0, []),
  (417, .iaload, false, [], 0, 0, 0, 0, 0, [])]
set_option maxRecDepth 100000 in
theorem ckl_7 : kl_7.all (mx_ok mx_P yL_law cL_law 4 (some .boolean)) = true := by decide +kernel
set_option maxRecDepth 100000 in
theorem cwl_7 : (kl_7.flatMap (mx_need mx_P yL_law.cls)).all (fun w => decide (w ∈ lw_tbl) && goodWord w) = true := by decide +kernel
def kl_8 : List mx_I := [
  (418, .invokevirtual 38, false, [], 155, 2, 1, 7, 0, []),
  (421, .if_icmp .eq 987, false, [], 1408, 0, 0, 0, 0, []),
  (424, .iconst 0, false, [], 0, 0, 0, 0, 0, []),
  (425, .ireturn, false, [], 0, 0, 0, 1, 0, []),
  (426, .aload_n 1, false, [], 0, 0, 0, 0, 0, []),
  (427, .aload_n 0, false, [], 0, 0, 0, 0, 0, []),
  (428, .iload_n 3, false, [], 0, 0, 0, 0, 0, []),
  (429, .iconst 1, false, [], 0, 0, 0, 0, 1, []),
  (430, .iadd, false, [], 0, 0, 0, 0, 0, []),
  (431, .iaload, false, [], 0, 0, 0, 0, 0, []),
  (432, .aload_n 0, false, [], 0, 0, 0, 0, 0, []),
  (433, .iload_n 3, false, [], 0, 0, 0, 0, 0, []),
  (434, .iconst 2, false, [], 0, 0, 0, 0, 2, []),
  (435, .iadd, false, [], 0, 0, 0, 0, 0, []),
  (436, .iaload, false, [], 0, 0, 0, 0, 0, []),
  (437, .invokevirtual 39, false, [], 90, 2, 1, 6, 0, []),
  (440, .aload_n 2, false, [], 0, 0, 0, 0, 0, []),
  (441, .aload_n 0, false, [], 0, 0, 0, 0, 0, []),
  (442, .iload_n 3, false, [], 0, 0, 0, 0, 0, []),
  (443, .iconst 1, false, [], 0, 0, 0, 0, 1, []),
  (444, .iadd, false, [], 0, 0, 0, 0, 0, []),
  (445, .iaload, false, [], 0, 0, 0, 0, 0, []),
  (446, .aload_n 0, false, [], 0, 0, 0, 0, 0, []),
  (447, .iload_n 3, false, [], 0, 0, 0, 0, 0, []),
  (448, .iconst 2, false, [], 0, 0, 0, 0, 2, [])]
set_option maxRecDepth 100000 in
theorem ckl_8 : kl_8.all (mx_ok mx_P yL_law cL_law 4 (some .boolean)) = true := by decide +kernel
set_option maxRecDepth 100000 in
theorem cwl_8 : (kl_8.flatMap (mx_need mx_P yL_law.cls)).all (fun w => decide (w ∈ lw_tbl) && goodWord w) = true := by decide +kernel
def kl_9 : List mx_I := [
  (449, .iadd, false, [], 0, 0, 0, 0, 0, []),
  (450, .iaload, false, [], 0, 0, 0, 0, 0, []),
  (451, .invokevirtual 42, false, [], 156, 2, 1, 7, 0, []),
  (454, .if_icmp .eq 954, false, [], 1408, 0, 0, 0, 0, []),
  (457, .iconst 0, false, [], 0, 0, 0, 0, 0, []),
  (458, .ireturn, false, [], 0, 0, 0, 1, 0, []),
  (459, .aload_n 1, false, [], 0, 0, 0, 0, 0, []),
  (460, .aload_n 0, false, [], 0, 0, 0, 0, 0, []),
  (461, .iload_n 3, false, [], 0, 0, 0, 0, 0, []),
  (462, .iconst 1, false, [], 0, 0, 0, 0, 1, []),
  (463, .iadd, false, [], 0, 0, 0, 0, 0, []),
  (464, .iaload, false, [], 0, 0, 0, 0, 0, []),
  (465, .invokevirtual 43, false, [], 91, 1, 1, 6, 0, []),
  (468, .aload_n 2, false, [], 0, 0, 0, 0, 0, []),
  (469, .aload_n 0, false, [], 0, 0, 0, 0, 0, []),
  (470, .iload_n 3, false, [], 0, 0, 0, 0, 0, []),
  (471, .iconst 1, false, [], 0, 0, 0, 0, 1, []),
  (472, .iadd, false, [], 0, 0, 0, 0, 0, []),
  (473, .iaload, false, [], 0, 0, 0, 0, 0, []),
  (474, .invokevirtual 47, false, [], 158, 1, 1, 7, 0, []),
  (477, .if_icmp .eq 931, false, [], 1408, 0, 0, 0, 0, []),
  (480, .iconst 0, false, [], 0, 0, 0, 0, 0, []),
  (481, .ireturn, false, [], 0, 0, 0, 1, 0, []),
  (482, .aload_n 1, false, [], 0, 0, 0, 0, 0, []),
  (483, .aload_n 0, false, [], 0, 0, 0, 0, 0, [])]
set_option maxRecDepth 100000 in
theorem ckl_9 : kl_9.all (mx_ok mx_P yL_law cL_law 4 (some .boolean)) = true := by decide +kernel
set_option maxRecDepth 100000 in
theorem cwl_9 : (kl_9.flatMap (mx_need mx_P yL_law.cls)).all (fun w => decide (w ∈ lw_tbl) && goodWord w) = true := by decide +kernel
