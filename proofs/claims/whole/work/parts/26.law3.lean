def kl_30 : List mx_I := [
  (1116, .iconst 2, false, [], 0, 0, 0, 0, 2, []),
  (1117, .iadd, false, [], 0, 0, 0, 0, 0, []),
  (1118, .iaload, false, [], 0, 0, 0, 0, 0, []),
  (1119, .aload_n 0, false, [], 0, 0, 0, 0, 0, []),
  (1120, .iload_n 3, false, [], 0, 0, 0, 0, 0, []),
  (1121, .iconst 3, false, [], 0, 0, 0, 0, 3, []),
  (1122, .iadd, false, [], 0, 0, 0, 0, 0, []),
  (1123, .iaload, false, [], 0, 0, 0, 0, 0, []),
  (1124, .aload_n 0, false, [], 0, 0, 0, 0, 0, []),
  (1125, .iload_n 3, false, [], 0, 0, 0, 0, 0, []),
  (1126, .iconst 4, false, [], 0, 0, 0, 0, 4, []),
  (1127, .iadd, false, [], 0, 0, 0, 0, 0, []),
  (1128, .iaload, false, [], 0, 0, 0, 0, 0, []),
  (1129, .aload_n 0, false, [], 0, 0, 0, 0, 0, []),
  (1130, .iload_n 3, false, [], 0, 0, 0, 0, 0, []),
  (1131, .iconst 5, false, [], 0, 0, 0, 0, 5, []),
  (1132, .iadd, false, [], 0, 0, 0, 0, 0, []),
  (1133, .iaload, false, [], 0, 0, 0, 0, 0, []),
  (1134, .invokevirtual 137, false, [], 116, 5, 1, 6, 0, []),
  (1137, .aload_n 2, false, [], 0, 0, 0, 0, 0, []),
  (1138, .aload_n 0, false, [], 0, 0, 0, 0, 0, []),
  (1139, .iload_n 3, false, [], 0, 0, 0, 0, 0, []),
  (1140, .iconst 1, false, [], 0, 0, 0, 0, 1, []),
  (1141, .iadd, false, [], 0, 0, 0, 0, 0, []),
  (1142, .iaload, false, [], 0, 0, 0, 0, 0, [])]
set_option maxRecDepth 100000 in
theorem ckl_30 : kl_30.all (mx_ok mx_P yL_law cL_law 4 (some .boolean)) = true := by decide +kernel
set_option maxRecDepth 100000 in
theorem cwl_30 : (kl_30.flatMap (mx_need mx_P yL_law.cls)).all (fun w => decide (w ∈ lw_tbl) && goodWord w) = true := by decide +kernel
def kl_31 : List mx_I := [
  (1143, .aload_n 0, false, [], 0, 0, 0, 0, 0, []),
  (1144, .iload_n 3, false, [], 0, 0, 0, 0, 0, []),
  (1145, .iconst 2, false, [], 0, 0, 0, 0, 2, []),
  (1146, .iadd, false, [], 0, 0, 0, 0, 0, []),
  (1147, .iaload, false, [], 0, 0, 0, 0, 0, []),
  (1148, .aload_n 0, false, [], 0, 0, 0, 0, 0, []),
  (1149, .iload_n 3, false, [], 0, 0, 0, 0, 0, []),
  (1150, .iconst 3, false, [], 0, 0, 0, 0, 3, []),
  (1151, .iadd, false, [], 0, 0, 0, 0, 0, []),
  (1152, .iaload, false, [], 0, 0, 0, 0, 0, []),
  (1153, .aload_n 0, false, [], 0, 0, 0, 0, 0, []),
  (1154, .iload_n 3, false, [], 0, 0, 0, 0, 0, []),
  (1155, .iconst 4, false, [], 0, 0, 0, 0, 4, []),
  (1156, .iadd, false, [], 0, 0, 0, 0, 0, []),
  (1157, .iaload, false, [], 0, 0, 0, 0, 0, []),
  (1158, .aload_n 0, false, [], 0, 0, 0, 0, 0, []),
  (1159, .iload_n 3, false, [], 0, 0, 0, 0, 0, []),
  (1160, .iconst 5, false, [], 0, 0, 0, 0, 5, []),
  (1161, .iadd, false, [], 0, 0, 0, 0, 0, []),
  (1162, .iaload, false, [], 0, 0, 0, 0, 0, []),
  (1163, .invokevirtual 141, false, [], 207, 5, 1, 7, 0, []),
  (1166, .if_icmp .eq 242, false, [], 1408, 0, 0, 0, 0, []),
  (1169, .iconst 0, false, [], 0, 0, 0, 0, 0, []),
  (1170, .ireturn, false, [], 0, 0, 0, 1, 0, []),
  (1171, .aload_n 1, false, [], 0, 0, 0, 0, 0, [])]
set_option maxRecDepth 100000 in
theorem ckl_31 : kl_31.all (mx_ok mx_P yL_law cL_law 4 (some .boolean)) = true := by decide +kernel
set_option maxRecDepth 100000 in
theorem cwl_31 : (kl_31.flatMap (mx_need mx_P yL_law.cls)).all (fun w => decide (w ∈ lw_tbl) && goodWord w) = true := by decide +kernel
def kl_32 : List mx_I := [
  (1172, .aload_n 0, false, [], 0, 0, 0, 0, 0, []),
  (1173, .iload_n 3, false, [], 0, 0, 0, 0, 0, []),
  (1174, .iconst 1, false, [], 0, 0, 0, 0, 1, []),
  (1175, .iadd, false, [], 0, 0, 0, 0, 0, []),
  (1176, .iaload, false, [], 0, 0, 0, 0, 0, []),
  (1177, .aload_n 0, false, [], 0, 0, 0, 0, 0, []),
  (1178, .iload_n 3, false, [], 0, 0, 0, 0, 0, []),
  (1179, .iconst 2, false, [], 0, 0, 0, 0, 2, []),
  (1180, .iadd, false, [], 0, 0, 0, 0, 0, []),
  (1181, .iaload, false, [], 0, 0, 0, 0, 0, []),
  (1182, .aload_n 0, false, [], 0, 0, 0, 0, 0, []),
  (1183, .iload_n 3, false, [], 0, 0, 0, 0, 0, []),
  (1184, .iconst 3, false, [], 0, 0, 0, 0, 3, []),
  (1185, .iadd, false, [], 0, 0, 0, 0, 0, []),
  (1186, .iaload, false, [], 0, 0, 0, 0, 0, []),
  (1187, .invokevirtual 142, false, [], 117, 3, 1, 6, 0, []),
  (1190, .aload_n 2, false, [], 0, 0, 0, 0, 0, []),
  (1191, .aload_n 0, false, [], 0, 0, 0, 0, 0, []),
  (1192, .iload_n 3, false, [], 0, 0, 0, 0, 0, []),
  (1193, .iconst 1, false, [], 0, 0, 0, 0, 1, []),
  (1194, .iadd, false, [], 0, 0, 0, 0, 0, []),
  (1195, .iaload, false, [], 0, 0, 0, 0, 0, []),
  (1196, .aload_n 0, false, [], 0, 0, 0, 0, 0, []),
  (1197, .iload_n 3, false, [], 0, 0, 0, 0, 0, []),
  (1198, .iconst 2, false, [], 0, 0, 0, 0, 2, [])]
set_option maxRecDepth 100000 in
theorem ckl_32 : kl_32.all (mx_ok mx_P yL_law cL_law 4 (some .boolean)) = true := by decide +kernel
set_option maxRecDepth 100000 in
theorem cwl_32 : (kl_32.flatMap (mx_need mx_P yL_law.cls)).all (fun w => decide (w ∈ lw_tbl) && goodWord w) = true := by decide +kernel
def kl_33 : List mx_I := [
  (1199, .iadd, false, [], 0, 0, 0, 0, 0, []),
  (1200, .iaload, false, [], 0, 0, 0, 0, 0, []),
  (1201, .aload_n 0, false, [], 0, 0, 0, 0, 0, []),
  (1202, .iload_n 3, false, [], 0, 0, 0, 0, 0, []),
  (1203, .iconst 3, false, [], 0, 0, 0, 0, 3, []),
  (1204, .iadd, false, [], 0, 0, 0, 0, 0, []),
  (1205, .iaload, false, [], 0, 0, 0, 0, 0, []),
  (1206, .invokevirtual 145, false, [], 208, 3, 1, 7, 0, []),
  (1209, .if_icmp .eq 199, false, [], 1408, 0, 0, 0, 0, []),
  (1212, .iconst 0, false, [], 0, 0, 0, 0, 0, []),
  (1213, .ireturn, false, [], 0, 0, 0, 1, 0, []),
  (1214, .aload_n 1, false, [], 0, 0, 0, 0, 0, []),
  (1215, .aload_n 0, false, [], 0, 0, 0, 0, 0, []),
  (1216, .iload_n 3, false, [], 0, 0, 0, 0, 0, []),
  (1217, .iconst 1, false, [], 0, 0, 0, 0, 1, []),
  (1218, .iadd, false, [], 0, 0, 0, 0, 0, []),
  (1219, .iaload, false, [], 0, 0, 0, 0, 0, []),
  (1220, .aload_n 0, false, [], 0, 0, 0, 0, 0, []),
  (1221, .iload_n 3, false, [], 0, 0, 0, 0, 0, []),
  (1222, .iconst 2, false, [], 0, 0, 0, 0, 2, []),
  (1223, .iadd, false, [], 0, 0, 0, 0, 0, []),
  (1224, .iaload, false, [], 0, 0, 0, 0, 0, []),
  (1225, .invokevirtual 146, false, [], 118, 2, 1, 6, 0, []),
  (1228, .aload_n 2, false, [], 0, 0, 0, 0, 0, []),
  (1229, .aload_n 0, false, [], 0, 0, 0, 0, 0, [])]
set_option maxRecDepth 100000 in
theorem ckl_33 : kl_33.all (mx_ok mx_P yL_law cL_law 4 (some .boolean)) = true := by decide +kernel
set_option maxRecDepth 100000 in
theorem cwl_33 : (kl_33.flatMap (mx_need mx_P yL_law.cls)).all (fun w => decide (w ∈ lw_tbl) && goodWord w) = true := by decide +kernel
def kl_34 : List mx_I := [
  (1230, .iload_n 3, false, [], 0, 0, 0, 0, 0, []),
  (1231, .iconst 1, false, [], 0, 0, 0, 0, 1, []),
  (1232, .iadd, false, [], 0, 0, 0, 0, 0, []),
  (1233, .iaload, false, [], 0, 0, 0, 0, 0, []),
  (1234, .aload_n 0, false, [], 0, 0, 0, 0, 0, []),
  (1235, .iload_n 3, false, [], 0, 0, 0, 0, 0, []),
  (1236, .iconst 2, false, [], 0, 0, 0, 0, 2, []),
  (1237, .iadd, false, [], 0, 0, 0, 0, 0, []),
  (1238, .iaload, false, [], 0, 0, 0, 0, 0, []),
  (1239, .invokevirtual 149, false, [], 209, 2, 1, 7, 0, []),
  (1242, .if_icmp .eq 166, false, [], 1408, 0, 0, 0, 0, []),
  (1245, .iconst 0, false, [], 0, 0, 0, 0, 0, []),
  (1246, .ireturn, false, [], 0, 0, 0, 1, 0, []),
  (1247, .aload_n 1, false, [], 0, 0, 0, 0, 0, []),
  (1248, .aload_n 0, false, [], 0, 0, 0, 0, 0, []),
  (1249, .iload_n 3, false, [], 0, 0, 0, 0, 0, []),
  (1250, .iconst 1, false, [], 0, 0, 0, 0, 1, []),
  (1251, .iadd, false, [], 0, 0, 0, 0, 0, []),
  (1252, .iaload, false, [], 0, 0, 0, 0, 0, []),
  (1253, .aload_n 0, false, [], 0, 0, 0, 0, 0, []),
  (1254, .iload_n 3, false, [], 0, 0, 0, 0, 0, []),
  (1255, .iconst 2, false, [], 0, 0, 0, 0, 2, []),
  (1256, .iadd, false, [], 0, 0, 0, 0, 0, []),
  (1257, .iaload, false, [], 0, 0, 0, 0, 0, []),
  (1258, .invokevirtual 150, false, [], 119, 2, 1, 6, 0, [])]
set_option maxRecDepth 100000 in
theorem ckl_34 : kl_34.all (mx_ok mx_P yL_law cL_law 4 (some .boolean)) = true := by decide +kernel
set_option maxRecDepth 100000 in
theorem cwl_34 : (kl_34.flatMap (mx_need mx_P yL_law.cls)).all (fun w => decide (w ∈ lw_tbl) && goodWord w) = true := by decide +kernel
def kl_35 : List mx_I := [
  (1261, .aload_n 2, false, [], 0, 0, 0, 0, 0, []),
  (1262, .aload_n 0, false, [], 0, 0, 0, 0, 0, []),
  (1263, .iload_n 3, false, [], 0, 0, 0, 0, 0, []),
  (1264, .iconst 1, false, [], 0, 0, 0, 0, 1, []),
  (1265, .iadd, false, [], 0, 0, 0, 0, 0, []),
  (1266, .iaload, false, [], 0, 0, 0, 0, 0, []),
  (1267, .aload_n 0, false, [], 0, 0, 0, 0, 0, []),
  (1268, .iload_n 3, false, [], 0, 0, 0, 0, 0, []),
  (1269, .iconst 2, false, [], 0, 0, 0, 0, 2, []),
  (1270, .iadd, false, [], 0, 0, 0, 0, 0, []),
  (1271, .iaload, false, [], 0, 0, 0, 0, 0, []),
  (1272, .invokevirtual 153, false, [], 210, 2, 1, 7, 0, []),
  (1275, .if_icmp .eq 133, false, [], 1408, 0, 0, 0, 0, []),
  (1278, .iconst 0, false, [], 0, 0, 0, 0, 0, []),
  (1279, .ireturn, false, [], 0, 0, 0, 1, 0, []),
  (1280, .aload_n 1, false, [], 0, 0, 0, 0, 0, []),
  (1281, .aload_n 0, false, [], 0, 0, 0, 0, 0, []),
  (1282, .iload_n 3, false, [], 0, 0, 0, 0, 0, []),
  (1283, .iconst 1, false, [], 0, 0, 0, 0, 1, []),
  (1284, .iadd, false, [], 0, 0, 0, 0, 0, []),
  (1285, .iaload, false, [], 0, 0, 0, 0, 0, []),
  (1286, .aload_n 0, false, [], 0, 0, 0, 0, 0, []),
  (1287, .iload_n 3, false, [], 0, 0, 0, 0, 0, []),
  (1288, .iconst 2, false, [], 0, 0, 0, 0, 2, []),
  (1289, .iadd, false, [], 0, 0, 0, 0, 0, [])]
set_option maxRecDepth 100000 in
theorem ckl_35 : kl_35.all (mx_ok mx_P yL_law cL_law 4 (some .boolean)) = true := by decide +kernel
set_option maxRecDepth 100000 in
theorem cwl_35 : (kl_35.flatMap (mx_need mx_P yL_law.cls)).all (fun w => decide (w ∈ lw_tbl) && goodWord w) = true := by decide +kernel
def kl_36 : List mx_I := [
  (1290, .iaload, false, [], 0, 0, 0, 0, 0, []),
  (1291, .invokevirtual 154, false, [], 120, 2, 1, 6, 0, []),
  (1294, .aload_n 2, false, [], 0, 0, 0, 0, 0, []),
  (1295, .aload_n 0, false, [], 0, 0, 0, 0, 0, []),
  (1296, .iload_n 3, false, [], 0, 0, 0, 0, 0, []),
  (1297, .iconst 1, false, [], 0, 0, 0, 0, 1, []),
  (1298, .iadd, false, [], 0, 0, 0, 0, 0, []),
  (1299, .iaload, false, [], 0, 0, 0, 0, 0, []),
  (1300, .aload_n 0, false, [], 0, 0, 0, 0, 0, []),
  (1301, .iload_n 3, false, [], 0, 0, 0, 0, 0, []),
  (1302, .iconst 2, false, [], 0, 0, 0, 0, 2, []),
  (1303, .iadd, false, [], 0, 0, 0, 0, 0, []),
  (1304, .iaload, false, [], 0, 0, 0, 0, 0, []),
  (1305, .invokevirtual 157, false, [], 211, 2, 1, 7, 0, []),
  (1308, .if_icmp .eq 100, false, [], 1408, 0, 0, 0, 0, []),
  (1311, .iconst 0, false, [], 0, 0, 0, 0, 0, []),
  (1312, .ireturn, false, [], 0, 0, 0, 1, 0, []),
  (1313, .aload_n 1, false, [], 0, 0, 0, 0, 0, []),
  (1314, .aload_n 0, false, [], 0, 0, 0, 0, 0, []),
  (1315, .iload_n 3, false, [], 0, 0, 0, 0, 0, []),
  (1316, .iconst 1, false, [], 0, 0, 0, 0, 1, []),
  (1317, .iadd, false, [], 0, 0, 0, 0, 0, []),
  (1318, .iaload, false, [], 0, 0, 0, 0, 0, []),
  (1319, .invokevirtual 158, false, [], 121, 1, 1, 6, 0, []),
  (1322, .aload_n 2, false, [], 0, 0, 0, 0, 0, [])]
set_option maxRecDepth 100000 in
theorem ckl_36 : kl_36.all (mx_ok mx_P yL_law cL_law 4 (some .boolean)) = true := by decide +kernel
set_option maxRecDepth 100000 in
theorem cwl_36 : (kl_36.flatMap (mx_need mx_P yL_law.cls)).all (fun w => decide (w ∈ lw_tbl) && goodWord w) = true := by decide +kernel
def kl_37 : List mx_I := [
  (1323, .aload_n 0, false, [], 0, 0, 0, 0, 0, []),
  (1324, .iload_n 3, false, [], 0, 0, 0, 0, 0, []),
  (1325, .iconst 1, false, [], 0, 0, 0, 0, 1, []),
  (1326, .iadd, false, [], 0, 0, 0, 0, 0, []),
  (1327, .iaload, false, [], 0, 0, 0, 0, 0, []),
  (1328, .invokevirtual 161, false, [], 212, 1, 1, 7, 0, []),
  (1331, .if_icmp .eq 77, false, [], 1408, 0, 0, 0, 0, []),
  (1334, .iconst 0, false, [], 0, 0, 0, 0, 0, []),
  (1335, .ireturn, false, [], 0, 0, 0, 1, 0, []),
  (1336, .aload_n 1, false, [], 0, 0, 0, 0, 0, []),
  (1337, .aload_n 0, false, [], 0, 0, 0, 0, 0, []),
  (1338, .iload_n 3, false, [], 0, 0, 0, 0, 0, []),
  (1339, .iconst 1, false, [], 0, 0, 0, 0, 1, []),
  (1340, .iadd, false, [], 0, 0, 0, 0, 0, []),
  (1341, .iaload, false, [], 0, 0, 0, 0, 0, []),
  (1342, .invokevirtual 162, false, [], 122, 1, 1, 6, 0, []),
  (1345, .aload_n 2, false, [], 0, 0, 0, 0, 0, []),
  (1346, .aload_n 0, false, [], 0, 0, 0, 0, 0, []),
  (1347, .iload_n 3, false, [], 0, 0, 0, 0, 0, []),
  (1348, .iconst 1, false, [], 0, 0, 0, 0, 1, []),
  (1349, .iadd, false, [], 0, 0, 0, 0, 0, []),
  (1350, .iaload, false, [], 0, 0, 0, 0, 0, []),
  (1351, .invokevirtual 165, false, [], 213, 1, 1, 7, 0, []),
  (1354, .if_icmp .eq 54, false, [], 1408, 0, 0, 0, 0, []),
  (1357, .iconst 0, false, [], 0, 0, 0, 0, 0, [])]
set_option maxRecDepth 100000 in
theorem ckl_37 : kl_37.all (mx_ok mx_P yL_law cL_law 4 (some .boolean)) = true := by decide +kernel
set_option maxRecDepth 100000 in
theorem cwl_37 : (kl_37.flatMap (mx_need mx_P yL_law.cls)).all (fun w => decide (w ∈ lw_tbl) && goodWord w) = true := by decide +kernel
def kl_38 : List mx_I := [
  (1358, .ireturn, false, [], 0, 0, 0, 1, 0, []),
  (1359, .aload_n 1, false, [], 0, 0, 0, 0, 0, []),
  (1360, .invokevirtual 166, false, [], 123, 0, 1, 6, 0, []),
  (1363, .aload_n 2, false, [], 0, 0, 0, 0, 0, []),
  (1364, .invokevirtual 169, false, [], 214, 0, 1, 7, 0, []),
  (1367, .if_icmp .eq 41, false, [], 1408, 0, 0, 0, 0, []),
  (1370, .iconst 0, false, [], 0, 0, 0, 0, 0, []),
  (1371, .ireturn, false, [], 0, 0, 0, 1, 0, []),
  (1372, .aload_n 1, false, [], 0, 0, 0, 0, 0, []),
  (1373, .invokevirtual 170, false, [], 124, 0, 1, 6, 0, []),
  (1376, .aload_n 2, false, [], 0, 0, 0, 0, 0, []),
  (1377, .invokevirtual 173, false, [], 215, 0, 1, 7, 0, []),
  (1380, .if_icmp .eq 28, false, [], 1408, 0, 0, 0, 0, []),
  (1383, .iconst 0, false, [], 0, 0, 0, 0, 0, []),
  (1384, .ireturn, false, [], 0, 0, 0, 1, 0, []),
  (1385, .aload_n 1, false, [], 0, 0, 0, 0, 0, []),
  (1386, .aload_n 0, false, [], 0, 0, 0, 0, 0, []),
  (1387, .iload_n 3, false, [], 0, 0, 0, 0, 0, []),
  (1388, .iconst 1, false, [], 0, 0, 0, 0, 1, []),
  (1389, .iadd, false, [], 0, 0, 0, 0, 0, []),
  (1390, .iaload, false, [], 0, 0, 0, 0, 0, []),
  (1391, .invokevirtual 174, false, [], 125, 1, 1, 6, 0, []),
  (1394, .aload_n 2, false, [], 0, 0, 0, 0, 0, []),
  (1395, .aload_n 0, false, [], 0, 0, 0, 0, 0, []),
  (1396, .iload_n 3, false, [], 0, 0, 0, 0, 0, [])]
set_option maxRecDepth 100000 in
theorem ckl_38 : kl_38.all (mx_ok mx_P yL_law cL_law 4 (some .boolean)) = true := by decide +kernel
set_option maxRecDepth 100000 in
theorem cwl_38 : (kl_38.flatMap (mx_need mx_P yL_law.cls)).all (fun w => decide (w ∈ lw_tbl) && goodWord w) = true := by decide +kernel
def kl_39 : List mx_I := [
  (1397, .iconst 1, false, [], 0, 0, 0, 0, 1, []),
  (1398, .iadd, false, [], 0, 0, 0, 0, 0, []),
  (1399, .iaload, false, [], 0, 0, 0, 0, 0, []),
  (1400, .invokevirtual 177, false, [], 216, 1, 1, 7, 0, []),
  (1403, .if_icmp .eq 5, false, [], 1408, 0, 0, 0, 0, []),
  (1406, .iconst 0, false, [], 0, 0, 0, 0, 0, []),
  (1407, .ireturn, false, [], 0, 0, 0, 1, 0, []),
  (1408, .iinc 3 6, false, [], 0, 0, 0, 0, 6, []),
  (1411, .goto (-1393), false, [], 18, 0, 0, 0, 0, []),
  (1414, .iconst 1, false, [], 0, 0, 0, 0, 1, []),
  (1415, .ireturn, false, [], 0, 0, 0, 1, 0, [])]
set_option maxRecDepth 100000 in
theorem ckl_39 : kl_39.all (mx_ok mx_P yL_law cL_law 4 (some .boolean)) = true := by decide +kernel
set_option maxRecDepth 100000 in
theorem cwl_39 : (kl_39.flatMap (mx_need mx_P yL_law.cls)).all (fun w => decide (w ∈ lw_tbl) && goodWord w) = true := by decide +kernel
