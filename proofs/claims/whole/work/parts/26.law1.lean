def kl_10 : List mx_I := [
  (484, .iload_n 3, false, [], 0, 0, 0, 0, 0, []),
  (485, .iconst 1, false, [], 0, 0, 0, 0, 1, []),
  (486, .iadd, false, [], 0, 0, 0, 0, 0, []),
  (487, .iaload, false, [], 0, 0, 0, 0, 0, []),
  (488, .invokevirtual 48, false, [], 92, 1, 1, 6, 0, []),
  (491, .aload_n 2, false, [], 0, 0, 0, 0, 0, []),
  (492, .aload_n 0, false, [], 0, 0, 0, 0, 0, []),
  (493, .iload_n 3, false, [], 0, 0, 0, 0, 0, []),
  (494, .iconst 1, false, [], 0, 0, 0, 0, 1, []),
  (495, .iadd, false, [], 0, 0, 0, 0, 0, []),
  (496, .iaload, false, [], 0, 0, 0, 0, 0, []),
  (497, .invokevirtual 51, false, [], 159, 1, 1, 7, 0, []),
  (500, .if_icmp .eq 908, false, [], 1408, 0, 0, 0, 0, []),
  (503, .iconst 0, false, [], 0, 0, 0, 0, 0, []),
  (504, .ireturn, false, [], 0, 0, 0, 1, 0, []),
  (505, .aload_n 1, false, [], 0, 0, 0, 0, 0, []),
  (506, .aload_n 0, false, [], 0, 0, 0, 0, 0, []),
  (507, .iload_n 3, false, [], 0, 0, 0, 0, 0, []),
  (508, .iconst 1, false, [], 0, 0, 0, 0, 1, []),
  (509, .iadd, false, [], 0, 0, 0, 0, 0, []),
  (510, .iaload, false, [], 0, 0, 0, 0, 0, []),
  (511, .invokevirtual 52, false, [], 93, 1, 1, 6, 0, []),
  (514, .aload_n 2, false, [], 0, 0, 0, 0, 0, []),
  (515, .aload_n 0, false, [], 0, 0, 0, 0, 0, []),
  (516, .iload_n 3, false, [], 0, 0, 0, 0, 0, [])]
set_option maxRecDepth 100000 in
theorem ckl_10 : kl_10.all (mx_ok mx_P yL_law cL_law 4 (some .boolean)) = true := by decide +kernel
set_option maxRecDepth 100000 in
theorem cwl_10 : (kl_10.flatMap (mx_need mx_P yL_law.cls)).all (fun w => decide (w ∈ lw_tbl) && goodWord w) = true := by decide +kernel
def kl_11 : List mx_I := [
  (517, .iconst 1, false, [], 0, 0, 0, 0, 1, []),
  (518, .iadd, false, [], 0, 0, 0, 0, 0, []),
  (519, .iaload, false, [], 0, 0, 0, 0, 0, []),
  (520, .invokevirtual 55, false, [], 164, 1, 1, 7, 0, []),
  (523, .if_icmp .eq 885, false, [], 1408, 0, 0, 0, 0, []),
  (526, .iconst 0, false, [], 0, 0, 0, 0, 0, []),
  (527, .ireturn, false, [], 0, 0, 0, 1, 0, []),
  (528, .aload_n 1, false, [], 0, 0, 0, 0, 0, []),
  (529, .aload_n 0, false, [], 0, 0, 0, 0, 0, []),
  (530, .iload_n 3, false, [], 0, 0, 0, 0, 0, []),
  (531, .iconst 1, false, [], 0, 0, 0, 0, 1, []),
  (532, .iadd, false, [], 0, 0, 0, 0, 0, []),
  (533, .iaload, false, [], 0, 0, 0, 0, 0, []),
  (534, .invokevirtual 56, false, [], 94, 1, 1, 6, 0, []),
  (537, .aload_n 2, false, [], 0, 0, 0, 0, 0, []),
  (538, .aload_n 0, false, [], 0, 0, 0, 0, 0, []),
  (539, .iload_n 3, false, [], 0, 0, 0, 0, 0, []),
  (540, .iconst 1, false, [], 0, 0, 0, 0, 1, []),
  (541, .iadd, false, [], 0, 0, 0, 0, 0, []),
  (542, .iaload, false, [], 0, 0, 0, 0, 0, []),
  (543, .invokevirtual 59, false, [], 167, 1, 1, 7, 0, []),
  (546, .if_icmp .eq 862, false, [], 1408, 0, 0, 0, 0, []),
  (549, .iconst 0, false, [], 0, 0, 0, 0, 0, []),
  (550, .ireturn, false, [], 0, 0, 0, 1, 0, []),
  (551, .aload_n 1, false, [], 0, 0, 0, 0, 0, [])]
set_option maxRecDepth 100000 in
theorem ckl_11 : kl_11.all (mx_ok mx_P yL_law cL_law 4 (some .boolean)) = true := by decide +kernel
set_option maxRecDepth 100000 in
theorem cwl_11 : (kl_11.flatMap (mx_need mx_P yL_law.cls)).all (fun w => decide (w ∈ lw_tbl) && goodWord w) = true := by decide +kernel
def kl_12 : List mx_I := [
  (552, .aload_n 0, false, [], 0, 0, 0, 0, 0, []),
  (553, .iload_n 3, false, [], 0, 0, 0, 0, 0, []),
  (554, .iconst 1, false, [], 0, 0, 0, 0, 1, []),
  (555, .iadd, false, [], 0, 0, 0, 0, 0, []),
  (556, .iaload, false, [], 0, 0, 0, 0, 0, []),
  (557, .aload_n 0, false, [], 0, 0, 0, 0, 0, []),
  (558, .iload_n 3, false, [], 0, 0, 0, 0, 0, []),
  (559, .iconst 2, false, [], 0, 0, 0, 0, 2, []),
  (560, .iadd, false, [], 0, 0, 0, 0, 0, []),
  (561, .iaload, false, [], 0, 0, 0, 0, 0, []),
  (562, .invokevirtual 60, false, [], 95, 2, 1, 6, 0, []),
  (565, .aload_n 2, false, [], 0, 0, 0, 0, 0, []),
  (566, .aload_n 0, false, [], 0, 0, 0, 0, 0, []),
  (567, .iload_n 3, false, [], 0, 0, 0, 0, 0, []),
  (568, .iconst 1, false, [], 0, 0, 0, 0, 1, []),
  (569, .iadd, false, [], 0, 0, 0, 0, 0, []),
  (570, .iaload, false, [], 0, 0, 0, 0, 0, []),
  (571, .aload_n 0, false, [], 0, 0, 0, 0, 0, []),
  (572, .iload_n 3, false, [], 0, 0, 0, 0, 0, []),
  (573, .iconst 2, false, [], 0, 0, 0, 0, 2, []),
  (574, .iadd, false, [], 0, 0, 0, 0, 0, []),
  (575, .iaload, false, [], 0, 0, 0, 0, 0, []),
  (576, .invokevirtual 63, false, [], 170, 2, 1, 7, 0, []),
  (579, .if_icmp .eq 829, false, [], 1408, 0, 0, 0, 0, []),
  (582, .iconst 0, false, [], 0, 0, 0, 0, 0, [])]
set_option maxRecDepth 100000 in
theorem ckl_12 : kl_12.all (mx_ok mx_P yL_law cL_law 4 (some .boolean)) = true := by decide +kernel
set_option maxRecDepth 100000 in
theorem cwl_12 : (kl_12.flatMap (mx_need mx_P yL_law.cls)).all (fun w => decide (w ∈ lw_tbl) && goodWord w) = true := by decide +kernel
def kl_13 : List mx_I := [
  (583, .ireturn, false, [], 0, 0, 0, 1, 0, []),
  (584, .aload_n 1, false, [], 0, 0, 0, 0, 0, []),
  (585, .aload_n 0, false, [], 0, 0, 0, 0, 0, []),
  (586, .iload_n 3, false, [], 0, 0, 0, 0, 0, []),
  (587, .iconst 1, false, [], 0, 0, 0, 0, 1, []),
  (588, .iadd, false, [], 0, 0, 0, 0, 0, []),
  (589, .iaload, false, [], 0, 0, 0, 0, 0, []),
  (590, .aload_n 0, false, [], 0, 0, 0, 0, 0, []),
  (591, .iload_n 3, false, [], 0, 0, 0, 0, 0, []),
  (592, .iconst 2, false, [], 0, 0, 0, 0, 2, []),
  (593, .iadd, false, [], 0, 0, 0, 0, 0, []),
  (594, .iaload, false, [], 0, 0, 0, 0, 0, []),
  (595, .invokevirtual 64, false, [], 96, 2, 1, 6, 0, []),
  (598, .aload_n 2, false, [], 0, 0, 0, 0, 0, []),
  (599, .aload_n 0, false, [], 0, 0, 0, 0, 0, []),
  (600, .iload_n 3, false, [], 0, 0, 0, 0, 0, []),
  (601, .iconst 1, false, [], 0, 0, 0, 0, 1, []),
  (602, .iadd, false, [], 0, 0, 0, 0, 0, []),
  (603, .iaload, false, [], 0, 0, 0, 0, 0, []),
  (604, .aload_n 0, false, [], 0, 0, 0, 0, 0, []),
  (605, .iload_n 3, false, [], 0, 0, 0, 0, 0, []),
  (606, .iconst 2, false, [], 0, 0, 0, 0, 2, []),
  (607, .iadd, false, [], 0, 0, 0, 0, 0, []),
  (608, .iaload, false, [], 0, 0, 0, 0, 0, []),
  (609, .invokevirtual 67, false, [], 171, 2, 1, 7, 0, [])]
set_option maxRecDepth 100000 in
theorem ckl_13 : kl_13.all (mx_ok mx_P yL_law cL_law 4 (some .boolean)) = true := by decide +kernel
set_option maxRecDepth 100000 in
theorem cwl_13 : (kl_13.flatMap (mx_need mx_P yL_law.cls)).all (fun w => decide (w ∈ lw_tbl) && goodWord w) = true := by decide +kernel
def kl_14 : List mx_I := [
  (612, .if_icmp .eq 796, false, [], 1408, 0, 0, 0, 0, []),
  (615, .iconst 0, false, [], 0, 0, 0, 0, 0, []),
  (616, .ireturn, false, [], 0, 0, 0, 1, 0, []),
  (617, .aload_n 1, false, [], 0, 0, 0, 0, 0, []),
  (618, .aload_n 0, false, [], 0, 0, 0, 0, 0, []),
  (619, .iload_n 3, false, [], 0, 0, 0, 0, 0, []),
  (620, .iconst 1, false, [], 0, 0, 0, 0, 1, []),
  (621, .iadd, false, [], 0, 0, 0, 0, 0, []),
  (622, .iaload, false, [], 0, 0, 0, 0, 0, []),
  (623, .invokevirtual 68, false, [], 97, 1, 1, 6, 0, []),
  (626, .aload_n 2, false, [], 0, 0, 0, 0, 0, []),
  (627, .aload_n 0, false, [], 0, 0, 0, 0, 0, []),
  (628, .iload_n 3, false, [], 0, 0, 0, 0, 0, []),
  (629, .iconst 1, false, [], 0, 0, 0, 0, 1, []),
  (630, .iadd, false, [], 0, 0, 0, 0, 0, []),
  (631, .iaload, false, [], 0, 0, 0, 0, 0, []),
  (632, .invokevirtual 71, false, [], 172, 1, 1, 7, 0, []),
  (635, .if_icmp .eq 773, false, [], 1408, 0, 0, 0, 0, []),
  (638, .iconst 0, false, [], 0, 0, 0, 0, 0, []),
  (639, .ireturn, false, [], 0, 0, 0, 1, 0, []),
  (640, .aload_n 1, false, [], 0, 0, 0, 0, 0, []),
  (641, .aload_n 0, false, [], 0, 0, 0, 0, 0, []),
  (642, .iload_n 3, false, [], 0, 0, 0, 0, 0, []),
  (643, .iconst 1, false, [], 0, 0, 0, 0, 1, []),
  (644, .iadd, false, [], 0, 0, 0, 0, 0, [])]
set_option maxRecDepth 100000 in
theorem ckl_14 : kl_14.all (mx_ok mx_P yL_law cL_law 4 (some .boolean)) = true := by decide +kernel
set_option maxRecDepth 100000 in
theorem cwl_14 : (kl_14.flatMap (mx_need mx_P yL_law.cls)).all (fun w => decide (w ∈ lw_tbl) && goodWord w) = true := by decide +kernel
def kl_15 : List mx_I := [
  (645, .iaload, false, [], 0, 0, 0, 0, 0, []),
  (646, .invokevirtual 72, false, [], 98, 1, 1, 6, 0, []),
  (649, .aload_n 2, false, [], 0, 0, 0, 0, 0, []),
  (650, .aload_n 0, false, [], 0, 0, 0, 0, 0, []),
  (651, .iload_n 3, false, [], 0, 0, 0, 0, 0, []),
  (652, .iconst 1, false, [], 0, 0, 0, 0, 1, []),
  (653, .iadd, false, [], 0, 0, 0, 0, 0, []),
  (654, .iaload, false, [], 0, 0, 0, 0, 0, []),
  (655, .invokevirtual 75, false, [], 174, 1, 1, 7, 0, []),
  (658, .if_icmp .eq 750, false, [], 1408, 0, 0, 0, 0, []),
  (661, .iconst 0, false, [], 0, 0, 0, 0, 0, []),
  (662, .ireturn, false, [], 0, 0, 0, 1, 0, []),
  (663, .aload_n 1, false, [], 0, 0, 0, 0, 0, []),
  (664, .aload_n 0, false, [], 0, 0, 0, 0, 0, []),
  (665, .iload_n 3, false, [], 0, 0, 0, 0, 0, []),
  (666, .iconst 1, false, [], 0, 0, 0, 0, 1, []),
  (667, .iadd, false, [], 0, 0, 0, 0, 0, []),
  (668, .iaload, false, [], 0, 0, 0, 0, 0, []),
  (669, .aload_n 0, false, [], 0, 0, 0, 0, 0, []),
  (670, .iload_n 3, false, [], 0, 0, 0, 0, 0, []),
  (671, .iconst 2, false, [], 0, 0, 0, 0, 2, []),
  (672, .iadd, false, [], 0, 0, 0, 0, 0, []),
  (673, .iaload, false, [], 0, 0, 0, 0, 0, []),
  (674, .invokevirtual 76, false, [], 99, 2, 1, 6, 0, []),
  (677, .aload_n 2, false, [], 0, 0, 0, 0, 0, [])]
set_option maxRecDepth 100000 in
theorem ckl_15 : kl_15.all (mx_ok mx_P yL_law cL_law 4 (some .boolean)) = true := by decide +kernel
set_option maxRecDepth 100000 in
theorem cwl_15 : (kl_15.flatMap (mx_need mx_P yL_law.cls)).all (fun w => decide (w ∈ lw_tbl) && goodWord w) = true := by decide +kernel
def kl_16 : List mx_I := [
  (678, .aload_n 0, false, [], 0, 0, 0, 0, 0, []),
  (679, .iload_n 3, false, [], 0, 0, 0, 0, 0, []),
  (680, .iconst 1, false, [], 0, 0, 0, 0, 1, []),
  (681, .iadd, false, [], 0, 0, 0, 0, 0, []),
  (682, .iaload, false, [], 0, 0, 0, 0, 0, []),
  (683, .aload_n 0, false, [], 0, 0, 0, 0, 0, []),
  (684, .iload_n 3, false, [], 0, 0, 0, 0, 0, []),
  (685, .iconst 2, false, [], 0, 0, 0, 0, 2, []),
  (686, .iadd, false, [], 0, 0, 0, 0, 0, []),
  (687, .iaload, false, [], 0, 0, 0, 0, 0, []),
  (688, .invokevirtual 79, false, [], 176, 2, 1, 7, 0, []),
  (691, .if_icmp .eq 717, false, [], 1408, 0, 0, 0, 0, []),
  (694, .iconst 0, false, [], 0, 0, 0, 0, 0, []),
  (695, .ireturn, false, [], 0, 0, 0, 1, 0, []),
  (696, .aload_n 1, false, [], 0, 0, 0, 0, 0, []),
  (697, .aload_n 0, false, [], 0, 0, 0, 0, 0, []),
  (698, .iload_n 3, false, [], 0, 0, 0, 0, 0, []),
  (699, .iconst 1, false, [], 0, 0, 0, 0, 1, []),
  (700, .iadd, false, [], 0, 0, 0, 0, 0, []),
  (701, .iaload, false, [], 0, 0, 0, 0, 0, []),
  (702, .aload_n 0, false, [], 0, 0, 0, 0, 0, []),
  (703, .iload_n 3, false, [], 0, 0, 0, 0, 0, []),
  (704, .iconst 2, false, [], 0, 0, 0, 0, 2, []),
  (705, .iadd, false, [], 0, 0, 0, 0, 0, []),
  (706, .iaload, false, [], 0, 0, 0, 0, 0, [])]
set_option maxRecDepth 100000 in
theorem ckl_16 : kl_16.all (mx_ok mx_P yL_law cL_law 4 (some .boolean)) = true := by decide +kernel
set_option maxRecDepth 100000 in
theorem cwl_16 : (kl_16.flatMap (mx_need mx_P yL_law.cls)).all (fun w => decide (w ∈ lw_tbl) && goodWord w) = true := by decide +kernel
def kl_17 : List mx_I := [
  (707, .invokevirtual 80, false, [], 100, 2, 1, 6, 0, []),
  (710, .aload_n 2, false, [], 0, 0, 0, 0, 0, []),
  (711, .aload_n 0, false, [], 0, 0, 0, 0, 0, []),
  (712, .iload_n 3, false, [], 0, 0, 0, 0, 0, []),
  (713, .iconst 1, false, [], 0, 0, 0, 0, 1, []),
  (714, .iadd, false, [], 0, 0, 0, 0, 0, []),
  (715, .iaload, false, [], 0, 0, 0, 0, 0, []),
  (716, .aload_n 0, false, [], 0, 0, 0, 0, 0, []),
  (717, .iload_n 3, false, [], 0, 0, 0, 0, 0, []),
  (718, .iconst 2, false, [], 0, 0, 0, 0, 2, []),
  (719, .iadd, false, [], 0, 0, 0, 0, 0, []),
  (720, .iaload, false, [], 0, 0, 0, 0, 0, []),
  (721, .invokevirtual 83, false, [], 177, 2, 1, 7, 0, []),
  (724, .if_icmp .eq 684, false, [], 1408, 0, 0, 0, 0, []),
  (727, .iconst 0, false, [], 0, 0, 0, 0, 0, []),
  (728, .ireturn, false, [], 0, 0, 0, 1, 0, []),
  (729, .aload_n 1, false, [], 0, 0, 0, 0, 0, []),
  (730, .aload_n 0, false, [], 0, 0, 0, 0, 0, []),
  (731, .iload_n 3, false, [], 0, 0, 0, 0, 0, []),
  (732, .iconst 1, false, [], 0, 0, 0, 0, 1, []),
  (733, .iadd, false, [], 0, 0, 0, 0, 0, []),
  (734, .iaload, false, [], 0, 0, 0, 0, 0, []),
  (735, .aload_n 0, false, [], 0, 0, 0, 0, 0, []),
  (736, .iload_n 3, false, [], 0, 0, 0, 0, 0, []),
  (737, .iconst 2, false, [], 0, 0, 0, 0, 2, [])]
set_option maxRecDepth 100000 in
theorem ckl_17 : kl_17.all (mx_ok mx_P yL_law cL_law 4 (some .boolean)) = true := by decide +kernel
set_option maxRecDepth 100000 in
theorem cwl_17 : (kl_17.flatMap (mx_need mx_P yL_law.cls)).all (fun w => decide (w ∈ lw_tbl) && goodWord w) = true := by decide +kernel
def kl_18 : List mx_I := [
  (738, .iadd, false, [], 0, 0, 0, 0, 0, []),
  (739, .iaload, false, [], 0, 0, 0, 0, 0, []),
  (740, .aload_n 0, false, [], 0, 0, 0, 0, 0, []),
  (741, .iload_n 3, false, [], 0, 0, 0, 0, 0, []),
  (742, .iconst 3, false, [], 0, 0, 0, 0, 3, []),
  (743, .iadd, false, [], 0, 0, 0, 0, 0, []),
  (744, .iaload, false, [], 0, 0, 0, 0, 0, []),
  (745, .invokevirtual 84, false, [], 101, 3, 1, 6, 0, []),
  (748, .aload_n 2, false, [], 0, 0, 0, 0, 0, []),
  (749, .aload_n 0, false, [], 0, 0, 0, 0, 0, []),
  (750, .iload_n 3, false, [], 0, 0, 0, 0, 0, []),
  (751, .iconst 1, false, [], 0, 0, 0, 0, 1, []),
  (752, .iadd, false, [], 0, 0, 0, 0, 0, []),
  (753, .iaload, false, [], 0, 0, 0, 0, 0, []),
  (754, .aload_n 0, false, [], 0, 0, 0, 0, 0, []),
  (755, .iload_n 3, false, [], 0, 0, 0, 0, 0, []),
  (756, .iconst 2, false, [], 0, 0, 0, 0, 2, []),
  (757, .iadd, false, [], 0, 0, 0, 0, 0, []),
  (758, .iaload, false, [], 0, 0, 0, 0, 0, []),
  (759, .aload_n 0, false, [], 0, 0, 0, 0, 0, []),
  (760, .iload_n 3, false, [], 0, 0, 0, 0, 0, []),
  (761, .iconst 3, false, [], 0, 0, 0, 0, 3, []),
  (762, .iadd, false, [], 0, 0, 0, 0, 0, []),
  (763, .iaload, false, [], 0, 0, 0, 0, 0, []),
  (764, .invokevirtual 87, false, [], 178, 3, 1, 7, 0, [])]
set_option maxRecDepth 100000 in
theorem ckl_18 : kl_18.all (mx_ok mx_P yL_law cL_law 4 (some .boolean)) = true := by decide +kernel
set_option maxRecDepth 100000 in
theorem cwl_18 : (kl_18.flatMap (mx_need mx_P yL_law.cls)).all (fun w => decide (w ∈ lw_tbl) && goodWord w) = true := by decide +kernel
def kl_19 : List mx_I := [
  (767, .if_icmp .eq 641, false, [], 1408, 0, 0, 0, 0, []),
  (770, .iconst 0, false, [], 0, 0, 0, 0, 0, []),
  (771, .ireturn, false, [], 0, 0, 0, 1, 0, []),
  (772, .aload_n 1, false, [], 0, 0, 0, 0, 0, []),
  (773, .aload_n 0, false, [], 0, 0, 0, 0, 0, []),
  (774, .iload_n 3, false, [], 0, 0, 0, 0, 0, []),
  (775, .iconst 1, false, [], 0, 0, 0, 0, 1, []),
  (776, .iadd, false, [], 0, 0, 0, 0, 0, []),
  (777, .iaload, false, [], 0, 0, 0, 0, 0, []),
  (778, .aload_n 0, false, [], 0, 0, 0, 0, 0, []),
  (779, .iload_n 3, false, [], 0, 0, 0, 0, 0, []),
  (780, .iconst 2, false, [], 0, 0, 0, 0, 2, []),
  (781, .iadd, false, [], 0, 0, 0, 0, 0, []),
  (782, .iaload, false, [], 0, 0, 0, 0, 0, []),
  (783, .invokevirtual 88, false, [], 102, 2, 1, 6, 0, []),
  (786, .aload_n 2, false, [], 0, 0, 0, 0, 0, []),
  (787, .aload_n 0, false, [], 0, 0, 0, 0, 0, []),
  (788, .iload_n 3, false, [], 0, 0, 0, 0, 0, []),
  (789, .iconst 1, false, [], 0, 0, 0, 0, 1, []),
  (790, .iadd, false, [], 0, 0, 0, 0, 0, []),
  (791, .iaload, false, [], 0, 0, 0, 0, 0, []),
  (792, .aload_n 0, false, [], 0, 0, 0, 0, 0, []),
  (793, .iload_n 3, false, [], 0, 0, 0, 0, 0, []),
  (794, .iconst 2, false, [], 0, 0, 0, 0, 2, []),
  (795, .iadd, false, [], 0, 0, 0, 0, 0, [])]
set_option maxRecDepth 100000 in
theorem ckl_19 : kl_19.all (mx_ok mx_P yL_law cL_law 4 (some .boolean)) = true := by decide +kernel
set_option maxRecDepth 100000 in
theorem cwl_19 : (kl_19.flatMap (mx_need mx_P yL_law.cls)).all (fun w => decide (w ∈ lw_tbl) && goodWord w) = true := by decide +kernel
