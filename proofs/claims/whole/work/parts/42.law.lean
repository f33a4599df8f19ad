def m_L_law_j633 (K23 : ac_H → Nat → Nat → Nat → Int32 → Option (Unit × ac_H)) (xs : Nat → Int32) (L : Nat) (σ286 : ac_H) (v280 : Nat) (v281 : Nat) (v282 : Nat) (v283 : Int32) (w284 : Int64) (w285 : Int64) : Option (Unit × ac_H) :=
  if (lg_cmp w285 w284) = 0 then
  (K23 σ286 v280 v281 v282 (v283 + 6))
  else
  (none)
def m_L_law_j745 (K23 : ac_H → Nat → Nat → Nat → Int32 → Option (Unit × ac_H)) (xs : Nat → Int32) (L : Nat) (σ293 : ac_H) (v287 : Nat) (v288 : Nat) (v289 : Nat) (v290 : Int32) (w291 : Int64) (w292 : Int64) : Option (Unit × ac_H) :=
  if (lg_cmp w292 w291) = 0 then
  (K23 σ293 v287 v288 v289 (v290 + 6))
  else
  (none)
def m_L_law_j1504 (K23 : ac_H → Nat → Nat → Nat → Int32 → Option (Unit × ac_H)) (xs : Nat → Int32) (L : Nat) (σ300 : ac_H) (v294 : Nat) (v295 : Nat) (v296 : Nat) (v297 : Int32) (w298 : Int64) (w299 : Int64) : Option (Unit × ac_H) :=
  if (lg_cmp w299 w298) = 0 then
  (K23 σ300 v294 v295 v296 (v297 + 6))
  else
  (none)
def m_L_law_l23  (xs : Nat → Int32) (L : Nat) : Nat → ac_H → Nat → Nat → Nat → Int32 → Option (Unit × ac_H)
  | 0, _, _, _, _, _ => none
  | n + 1, σ11, v7, v8, v9, v10 =>
    if ((Int32.ofNat L) - (6 : Int32)) < v10 then
    (some ((), σ11))
    else
    (mo_s xs L v10 fun x13 =>
    if (x13 &&& (31 : Int32)) = (0 : Int32) then
    (mo_s xs L (v10 + (1 : Int32)) fun x14 =>
    mo_s xs L (v10 + (2 : Int32)) fun x15 =>
    mo_s xs L (v10 + (3 : Int32)) fun x16 =>
    mo_s xs L (v10 + (4 : Int32)) fun x17 =>
    mo_s xs L (v10 + (5 : Int32)) fun x18 =>
    mo_cv σ11 v7 6 (m_X6_append σ11 v7 x14 x15 x16 x17 x18) fun x20 σ19 =>
    mo_s xs L (v10 + (1 : Int32)) fun x21 =>
    mo_s xs L (v10 + (2 : Int32)) fun x22 =>
    mo_s xs L (v10 + (3 : Int32)) fun x23 =>
    mo_s xs L (v10 + (4 : Int32)) fun x24 =>
    mo_s xs L (v10 + (5 : Int32)) fun x25 =>
    mo_cv σ19 v8 7 (m_X7_append σ19 v8 x21 x22 x23 x24 x25) fun x27 σ26 =>
    if x20 = x27 then
    (m_L_law_l23 xs L n σ26 v7 v8 v9 (v10 + 6))
    else
    (none))
    else
    if (x13 &&& (31 : Int32)) = (1 : Int32) then
    (mo_s xs L (v10 + (1 : Int32)) fun x29 =>
    mo_cs (m_L_parse σ11 v7 x29 v9) fun x31 σ30 =>
    mo_s xs L (v10 + (1 : Int32)) fun x32 =>
    mo_cv σ30 v8 7 (m_X7_parse σ30 v8 x32) fun x34 σ33 =>
    mo_cv σ33 v8 7 (m_X7_thrown σ33 v8) fun x36 σ35 =>
    if x36 = x31 then
    (if x31 = 0 then
    (mo_al σ35 v9 (0 : Int32) fun x37 =>
    if (lg_cmp x37 ((x34).toInt64)) = 0 then
    (m_L_law_l23 xs L n σ35 v7 v8 v9 (v10 + 6))
    else
    (none))
    else
    (m_L_law_l23 xs L n σ35 v7 v8 v9 (v10 + 6)))
    else
    (none))
    else
    if (x13 &&& (31 : Int32)) = (2 : Int32) then
    (mo_cv σ11 v7 6 (m_X6_errorPosition σ11 v7) fun x40 σ39 =>
    mo_cv σ39 v8 7 (m_X7_errorPosition σ39 v8) fun x42 σ41 =>
    if x40 = x42 then
    (m_L_law_l23 xs L n σ41 v7 v8 v9 (v10 + 6))
    else
    (none))
    else
    if (x13 &&& (31 : Int32)) = (3 : Int32) then
    (mo_s xs L (v10 + (1 : Int32)) fun x44 =>
    mo_cs (m_L_size σ11 v7 x44 v9) fun x46 σ45 =>
    mo_s xs L (v10 + (1 : Int32)) fun x47 =>
    mo_cv σ45 v8 7 (m_X7_size σ45 v8 x47) fun x49 σ48 =>
    mo_cv σ48 v8 7 (m_X7_thrown σ48 v8) fun x51 σ50 =>
    if x51 = x46 then
    (if x46 = 0 then
    (mo_al σ50 v9 (0 : Int32) fun x52 =>
    if (lg_cmp x52 ((x49).toInt64)) = 0 then
    (m_L_law_l23 xs L n σ50 v7 v8 v9 (v10 + 6))
    else
    (none))
    else
    (m_L_law_l23 xs L n σ50 v7 v8 v9 (v10 + 6)))
    else
    (none))
    else
    if (x13 &&& (31 : Int32)) = (4 : Int32) then
    (mo_s xs L (v10 + (1 : Int32)) fun x54 =>
    mo_s xs L (v10 + (2 : Int32)) fun x55 =>
    mo_cs (m_L_fault σ11 v7 x54 x55 v9) fun x57 σ56 =>
    mo_s xs L (v10 + (1 : Int32)) fun x58 =>
    mo_s xs L (v10 + (2 : Int32)) fun x59 =>
    mo_cv σ56 v8 7 (m_X7_fault σ56 v8 x58 x59) fun x61 σ60 =>
    mo_cv σ60 v8 7 (m_X7_thrown σ60 v8) fun x63 σ62 =>
    if x63 = x57 then
    (if x57 = 0 then
    (mo_al σ62 v9 (0 : Int32) fun x64 =>
    if (lg_cmp x64 ((x61).toInt64)) = 0 then
    (m_L_law_l23 xs L n σ62 v7 v8 v9 (v10 + 6))
    else
    (none))
    else
    (m_L_law_l23 xs L n σ62 v7 v8 v9 (v10 + 6)))
    else
    (none))
    else
    if (x13 &&& (31 : Int32)) = (5 : Int32) then
    (mo_s xs L (v10 + (1 : Int32)) fun x66 =>
    mo_cs (m_L_result σ11 v7 x66 v9) fun x68 σ67 =>
    mo_s xs L (v10 + (1 : Int32)) fun x69 =>
    mo_cv σ67 v8 7 (m_X7_result σ67 v8 x69) fun x71 σ70 =>
    mo_cv σ70 v8 7 (m_X7_thrown σ70 v8) fun x73 σ72 =>
    if x73 = x68 then
    (if x68 = 0 then
    (mo_al σ72 v9 (0 : Int32) fun x74 =>
    if (lg_cmp x74 ((x71).toInt64)) = 0 then
    (m_L_law_l23 xs L n σ72 v7 v8 v9 (v10 + 6))
    else
    (none))
    else
    (m_L_law_l23 xs L n σ72 v7 v8 v9 (v10 + 6)))
    else
    (none))
    else
    if (x13 &&& (31 : Int32)) = (6 : Int32) then
    (mo_s xs L (v10 + (1 : Int32)) fun x76 =>
    mo_cv σ11 v7 6 (m_X6_delivered σ11 v7 x76) fun x78 σ77 =>
    mo_s xs L (v10 + (1 : Int32)) fun x79 =>
    mo_cv σ77 v8 7 (m_X7_delivered σ77 v8 x79) fun x81 σ80 =>
    if x78 = x81 then
    (m_L_law_l23 xs L n σ80 v7 v8 v9 (v10 + 6))
    else
    (none))
    else
    if (x13 &&& (31 : Int32)) = (7 : Int32) then
    (mo_s xs L (v10 + (1 : Int32)) fun x83 =>
    mo_s xs L (v10 + (2 : Int32)) fun x84 =>
    mo_cs (m_L_sent σ11 v7 x83 x84 v9) fun x86 σ85 =>
    mo_s xs L (v10 + (1 : Int32)) fun x87 =>
    mo_s xs L (v10 + (2 : Int32)) fun x88 =>
    mo_cv σ85 v8 7 (m_X7_sent σ85 v8 x87 x88) fun x90 σ89 =>
    mo_cv σ89 v8 7 (m_X7_thrown σ89 v8) fun x92 σ91 =>
    if x92 = x86 then
    (if x86 = 0 then
    (mo_al σ91 v9 (0 : Int32) fun x93 =>
    if (lg_cmp x93 ((x90).toInt64)) = 0 then
    (m_L_law_l23 xs L n σ91 v7 v8 v9 (v10 + 6))
    else
    (none))
    else
    (m_L_law_l23 xs L n σ91 v7 v8 v9 (v10 + 6)))
    else
    (none))
    else
    if (x13 &&& (31 : Int32)) = (8 : Int32) then
    (mo_s xs L (v10 + (1 : Int32)) fun x95 =>
    mo_cs (m_L_breaks σ11 v7 x95 v9) fun x97 σ96 =>
    mo_s xs L (v10 + (1 : Int32)) fun x98 =>
    mo_cv σ96 v8 7 (m_X7_breaks σ96 v8 x98) fun x100 σ99 =>
    mo_cv σ99 v8 7 (m_X7_thrown σ99 v8) fun x102 σ101 =>
    if x102 = x97 then
    (if x97 = 0 then
    (mo_al σ101 v9 (0 : Int32) fun x103 =>
    if x100 = 0 then
    (m_L_law_j633 (fun ρ y0 y1 y2 y3 => m_L_law_l23 xs L n ρ y0 y1 y2 y3) xs L σ101 v7 v8 v9 v10 (0 : Int64) x103)
    else
    (m_L_law_j633 (fun ρ y0 y1 y2 y3 => m_L_law_l23 xs L n ρ y0 y1 y2 y3) xs L σ101 v7 v8 v9 v10 (1 : Int64) x103))
    else
    (m_L_law_l23 xs L n σ101 v7 v8 v9 (v10 + 6)))
    else
    (none))
    else
    if (x13 &&& (31 : Int32)) = (9 : Int32) then
    (mo_s xs L (v10 + (1 : Int32)) fun x105 =>
    mo_s xs L (v10 + (2 : Int32)) fun x106 =>
    mo_cv σ11 v7 6 (m_X6_reaches σ11 v7 x105 x106) fun x108 σ107 =>
    mo_s xs L (v10 + (1 : Int32)) fun x109 =>
    mo_s xs L (v10 + (2 : Int32)) fun x110 =>
    mo_cv σ107 v8 7 (m_X7_reaches σ107 v8 x109 x110) fun x112 σ111 =>
    if x108 = x112 then
    (m_L_law_l23 xs L n σ111 v7 v8 v9 (v10 + 6))
    else
    (none))
    else
    if (x13 &&& (31 : Int32)) = (10 : Int32) then
    (mo_s xs L (v10 + (1 : Int32)) fun x114 =>
    mo_s xs L (v10 + (2 : Int32)) fun x115 =>
    mo_cs (m_L_matters σ11 v7 x114 x115 v9) fun x117 σ116 =>
    mo_s xs L (v10 + (1 : Int32)) fun x118 =>
    mo_s xs L (v10 + (2 : Int32)) fun x119 =>
    mo_cv σ116 v8 7 (m_X7_matters σ116 v8 x118 x119) fun x121 σ120 =>
    mo_cv σ120 v8 7 (m_X7_thrown σ120 v8) fun x123 σ122 =>
    if x123 = x117 then
    (if x117 = 0 then
    (mo_al σ122 v9 (0 : Int32) fun x124 =>
    if x121 = 0 then
    (m_L_law_j745 (fun ρ y0 y1 y2 y3 => m_L_law_l23 xs L n ρ y0 y1 y2 y3) xs L σ122 v7 v8 v9 v10 (0 : Int64) x124)
    else
    (m_L_law_j745 (fun ρ y0 y1 y2 y3 => m_L_law_l23 xs L n ρ y0 y1 y2 y3) xs L σ122 v7 v8 v9 v10 (1 : Int64) x124))
    else
    (m_L_law_l23 xs L n σ122 v7 v8 v9 (v10 + 6)))
    else
    (none))
    else
    if (x13 &&& (31 : Int32)) = (11 : Int32) then
    (mo_s xs L (v10 + (1 : Int32)) fun x126 =>
    mo_cs (m_L_smallest σ11 v7 x126 v9) fun x128 σ127 =>
    mo_s xs L (v10 + (1 : Int32)) fun x129 =>
    mo_cv σ127 v8 7 (m_X7_smallest σ127 v8 x129) fun x131 σ130 =>
    mo_cv σ130 v8 7 (m_X7_thrown σ130 v8) fun x133 σ132 =>
    if x133 = x128 then
    (if x128 = 0 then
    (mo_al σ132 v9 (0 : Int32) fun x134 =>
    if (lg_cmp x134 ((x131).toInt64)) = 0 then
    (m_L_law_l23 xs L n σ132 v7 v8 v9 (v10 + 6))
    else
    (none))
    else
    (m_L_law_l23 xs L n σ132 v7 v8 v9 (v10 + 6)))
    else
    (none))
    else
    if (x13 &&& (31 : Int32)) = (12 : Int32) then
    (mo_s xs L (v10 + (1 : Int32)) fun x136 =>
    mo_cs (m_L_core σ11 v7 x136 v9) fun x138 σ137 =>
    mo_s xs L (v10 + (1 : Int32)) fun x139 =>
    mo_cv σ137 v8 7 (m_X7_core σ137 v8 x139) fun x141 σ140 =>
    mo_cv σ140 v8 7 (m_X7_thrown σ140 v8) fun x143 σ142 =>
    if x143 = x138 then
    (if x138 = 0 then
    (mo_al σ142 v9 (0 : Int32) fun x144 =>
    if (lg_cmp x144 ((x141).toInt64)) = 0 then
    (m_L_law_l23 xs L n σ142 v7 v8 v9 (v10 + 6))
    else
    (none))
    else
    (m_L_law_l23 xs L n σ142 v7 v8 v9 (v10 + 6)))
    else
    (none))
    else
    if (x13 &&& (31 : Int32)) = (13 : Int32) then
    (mo_s xs L (v10 + (1 : Int32)) fun x146 =>
    mo_s xs L (v10 + (2 : Int32)) fun x147 =>
    mo_cs (m_L_leastAmount σ11 v7 x146 x147 v9) fun x149 σ148 =>
    mo_s xs L (v10 + (1 : Int32)) fun x150 =>
    mo_s xs L (v10 + (2 : Int32)) fun x151 =>
    mo_cv σ148 v8 7 (m_X7_leastAmount σ148 v8 x150 x151) fun x153 σ152 =>
    mo_cv σ152 v8 7 (m_X7_thrown σ152 v8) fun x155 σ154 =>
    if x155 = x149 then
    (if x149 = 0 then
    (mo_al σ154 v9 (0 : Int32) fun x156 =>
    if (lg_cmp x156 ((x153).toInt64)) = 0 then
    (m_L_law_l23 xs L n σ154 v7 v8 v9 (v10 + 6))
    else
    (none))
    else
    (m_L_law_l23 xs L n σ154 v7 v8 v9 (v10 + 6)))
    else
    (none))
    else
    if (x13 &&& (31 : Int32)) = (14 : Int32) then
    (mo_s xs L (v10 + (1 : Int32)) fun x158 =>
    mo_s xs L (v10 + (2 : Int32)) fun x159 =>
    mo_cs (m_L_attack σ11 v7 x158 x159 v9) fun x161 σ160 =>
    mo_s xs L (v10 + (1 : Int32)) fun x162 =>
    mo_s xs L (v10 + (2 : Int32)) fun x163 =>
    mo_cv σ160 v8 7 (m_X7_attack σ160 v8 x162 x163) fun x165 σ164 =>
    mo_cv σ164 v8 7 (m_X7_thrown σ164 v8) fun x167 σ166 =>
    if x167 = x161 then
    (if x161 = 0 then
    (mo_al σ166 v9 (0 : Int32) fun x168 =>
    if (lg_cmp x168 ((x165).toInt64)) = 0 then
    (m_L_law_l23 xs L n σ166 v7 v8 v9 (v10 + 6))
    else
    (none))
    else
    (m_L_law_l23 xs L n σ166 v7 v8 v9 (v10 + 6)))
    else
    (none))
    else
    if (x13 &&& (31 : Int32)) = (15 : Int32) then
    (mo_s xs L (v10 + (1 : Int32)) fun x170 =>
    mo_cs (m_L_weakPoints σ11 v7 x170 v9) fun x172 σ171 =>
    mo_s xs L (v10 + (1 : Int32)) fun x173 =>
    mo_cv σ171 v8 7 (m_X7_weakPoints σ171 v8 x173) fun x175 σ174 =>
    mo_cv σ174 v8 7 (m_X7_thrown σ174 v8) fun x177 σ176 =>
    if x177 = x172 then
    (if x172 = 0 then
    (mo_al σ176 v9 (0 : Int32) fun x178 =>
    if (lg_cmp x178 ((x175).toInt64)) = 0 then
    (m_L_law_l23 xs L n σ176 v7 v8 v9 (v10 + 6))
    else
    (none))
    else
    (m_L_law_l23 xs L n σ176 v7 v8 v9 (v10 + 6)))
    else
    (none))
    else
    if (x13 &&& (31 : Int32)) = (16 : Int32) then
    (mo_s xs L (v10 + (1 : Int32)) fun x180 =>
    mo_cs (m_L_timerFor σ11 v7 x180 v9) fun x182 σ181 =>
    mo_s xs L (v10 + (1 : Int32)) fun x183 =>
    mo_cv σ181 v8 7 (m_X7_timerFor σ181 v8 x183) fun x185 σ184 =>
    mo_cv σ184 v8 7 (m_X7_thrown σ184 v8) fun x187 σ186 =>
    if x187 = x182 then
    (if x182 = 0 then
    (mo_al σ186 v9 (0 : Int32) fun x188 =>
    if (lg_cmp x188 ((x185).toInt64)) = 0 then
    (m_L_law_l23 xs L n σ186 v7 v8 v9 (v10 + 6))
    else
    (none))
    else
    (m_L_law_l23 xs L n σ186 v7 v8 v9 (v10 + 6)))
    else
    (none))
    else
    if (x13 &&& (31 : Int32)) = (17 : Int32) then
    (mo_s xs L (v10 + (1 : Int32)) fun x190 =>
    mo_s xs L (v10 + (2 : Int32)) fun x191 =>
    mo_cv σ11 v7 6 (m_X6_isRecorded σ11 v7 x190 x191) fun x193 σ192 =>
    mo_s xs L (v10 + (1 : Int32)) fun x194 =>
    mo_s xs L (v10 + (2 : Int32)) fun x195 =>
    mo_cv σ192 v8 7 (m_X7_isRecorded σ192 v8 x194 x195) fun x197 σ196 =>
    if x193 = x197 then
    (m_L_law_l23 xs L n σ196 v7 v8 v9 (v10 + 6))
    else
    (none))
    else
    if (x13 &&& (31 : Int32)) = (18 : Int32) then
    (mo_s xs L (v10 + (1 : Int32)) fun x199 =>
    mo_s xs L (v10 + (2 : Int32)) fun x200 =>
    mo_s xs L (v10 + (3 : Int32)) fun x201 =>
    mo_cs (m_L_addFault σ11 v7 x199 x200 x201 v9) fun x203 σ202 =>
    mo_s xs L (v10 + (1 : Int32)) fun x204 =>
    mo_s xs L (v10 + (2 : Int32)) fun x205 =>
    mo_s xs L (v10 + (3 : Int32)) fun x206 =>
    mo_cv σ202 v8 7 (m_X7_addFault σ202 v8 x204 x205 x206) fun x208 σ207 =>
    mo_cv σ207 v8 7 (m_X7_thrown σ207 v8) fun x210 σ209 =>
    if x210 = x203 then
    (if x203 = 0 then
    (mo_al σ209 v9 (0 : Int32) fun x211 =>
    if (lg_cmp x211 ((x208).toInt64)) = 0 then
    (m_L_law_l23 xs L n σ209 v7 v8 v9 (v10 + 6))
    else
    (none))
    else
    (m_L_law_l23 xs L n σ209 v7 v8 v9 (v10 + 6)))
    else
    (none))
    else
    if (x13 &&& (31 : Int32)) = (19 : Int32) then
    (mo_s xs L (v10 + (1 : Int32)) fun x213 =>
    mo_cs (m_L_removeFault σ11 v7 x213 v9) fun x215 σ214 =>
    mo_s xs L (v10 + (1 : Int32)) fun x216 =>
    mo_cv σ214 v8 7 (m_X7_removeFault σ214 v8 x216) fun x218 σ217 =>
    mo_cv σ217 v8 7 (m_X7_thrown σ217 v8) fun x220 σ219 =>
    if x220 = x215 then
    (if x215 = 0 then
    (mo_al σ219 v9 (0 : Int32) fun x221 =>
    if (lg_cmp x221 ((x218).toInt64)) = 0 then
    (m_L_law_l23 xs L n σ219 v7 v8 v9 (v10 + 6))
    else
    (none))
    else
    (m_L_law_l23 xs L n σ219 v7 v8 v9 (v10 + 6)))
    else
    (none))
    else
    if (x13 &&& (31 : Int32)) = (20 : Int32) then
    (mo_cv σ11 v7 6 (m_X6_clearFaults σ11 v7) fun x224 σ223 =>
    mo_cv σ223 v8 7 (m_X7_clearFaults σ223 v8) fun x226 σ225 =>
    if x224 = x226 then
    (m_L_law_l23 xs L n σ225 v7 v8 v9 (v10 + 6))
    else
    (none))
    else
    if (x13 &&& (31 : Int32)) = (21 : Int32) then
    (mo_s xs L (v10 + (1 : Int32)) fun x228 =>
    mo_s xs L (v10 + (2 : Int32)) fun x229 =>
    mo_cs (m_L_set σ11 v7 x228 x229 v9) fun x231 σ230 =>
    mo_s xs L (v10 + (1 : Int32)) fun x232 =>
    mo_s xs L (v10 + (2 : Int32)) fun x233 =>
    mo_cv σ230 v8 7 (m_X7_set σ230 v8 x232 x233) fun x235 σ234 =>
    mo_cv σ234 v8 7 (m_X7_thrown σ234 v8) fun x237 σ236 =>
    if x237 = x231 then
    (if x231 = 0 then
    (mo_al σ236 v9 (0 : Int32) fun x238 =>
    if (lg_cmp x238 ((x235).toInt64)) = 0 then
    (m_L_law_l23 xs L n σ236 v7 v8 v9 (v10 + 6))
    else
    (none))
    else
    (m_L_law_l23 xs L n σ236 v7 v8 v9 (v10 + 6)))
    else
    (none))
    else
    if (x13 &&& (31 : Int32)) = (22 : Int32) then
    (mo_s xs L (v10 + (1 : Int32)) fun x240 =>
    mo_cs (m_L_shrink σ11 v7 x240 v9) fun x242 σ241 =>
    mo_s xs L (v10 + (1 : Int32)) fun x243 =>
    mo_cv σ241 v8 7 (m_X7_shrink σ241 v8 x243) fun x245 σ244 =>
    mo_cv σ244 v8 7 (m_X7_thrown σ244 v8) fun x247 σ246 =>
    if x247 = x242 then
    (if x242 = 0 then
    (mo_al σ246 v9 (0 : Int32) fun x248 =>
    if (lg_cmp x248 ((x245).toInt64)) = 0 then
    (m_L_law_l23 xs L n σ246 v7 v8 v9 (v10 + 6))
    else
    (none))
    else
    (m_L_law_l23 xs L n σ246 v7 v8 v9 (v10 + 6)))
    else
    (none))
    else
    if (x13 &&& (31 : Int32)) = (23 : Int32) then
    (mo_cv σ11 v7 6 (m_X6_record σ11 v7) fun x251 σ250 =>
    mo_cv σ250 v8 7 (m_X7_record σ250 v8) fun x253 σ252 =>
    if x251 = x253 then
    (m_L_law_l23 xs L n σ252 v7 v8 v9 (v10 + 6))
    else
    (none))
    else
    if (x13 &&& (31 : Int32)) = (24 : Int32) then
    (mo_cv σ11 v7 6 (m_X6_undo σ11 v7) fun x256 σ255 =>
    mo_cv σ255 v8 7 (m_X7_undo σ255 v8) fun x258 σ257 =>
    if x256 = x258 then
    (m_L_law_l23 xs L n σ257 v7 v8 v9 (v10 + 6))
    else
    (none))
    else
    if (x13 &&& (31 : Int32)) = (25 : Int32) then
    (mo_s xs L (v10 + (1 : Int32)) fun x260 =>
    mo_cs (m_L_saveSnapshot σ11 v7 x260 v9) fun x262 σ261 =>
    mo_s xs L (v10 + (1 : Int32)) fun x263 =>
    mo_cv σ261 v8 7 (m_X7_saveSnapshot σ261 v8 x263) fun x265 σ264 =>
    mo_cv σ264 v8 7 (m_X7_thrown σ264 v8) fun x267 σ266 =>
    if x267 = x262 then
    (if x262 = 0 then
    (mo_al σ266 v9 (0 : Int32) fun x268 =>
    if x265 = 0 then
    (m_L_law_j1504 (fun ρ y0 y1 y2 y3 => m_L_law_l23 xs L n ρ y0 y1 y2 y3) xs L σ266 v7 v8 v9 v10 (0 : Int64) x268)
    else
    (m_L_law_j1504 (fun ρ y0 y1 y2 y3 => m_L_law_l23 xs L n ρ y0 y1 y2 y3) xs L σ266 v7 v8 v9 v10 (1 : Int64) x268))
    else
    (m_L_law_l23 xs L n σ266 v7 v8 v9 (v10 + 6)))
    else
    (none))
    else
    if (x13 &&& (31 : Int32)) = (26 : Int32) then
    (mo_s xs L (v10 + (1 : Int32)) fun x270 =>
    mo_cs (m_L_restoreSnapshot σ11 v7 x270 v9) fun x272 σ271 =>
    mo_s xs L (v10 + (1 : Int32)) fun x273 =>
    mo_cv σ271 v8 7 (m_X7_restoreSnapshot σ271 v8 x273) fun x275 σ274 =>
    mo_cv σ274 v8 7 (m_X7_thrown σ274 v8) fun x277 σ276 =>
    if x277 = x272 then
    (if x272 = 0 then
    (mo_al σ276 v9 (0 : Int32) fun x278 =>
    if (lg_cmp x278 ((x275).toInt64)) = 0 then
    (m_L_law_l23 xs L n σ276 v7 v8 v9 (v10 + 6))
    else
    (none))
    else
    (m_L_law_l23 xs L n σ276 v7 v8 v9 (v10 + 6)))
    else
    (none))
    else
    (m_L_law_l23 xs L n σ11 v7 v8 v9 (v10 + 6)))
def m_L_law (σ : ac_H) (xs : Nat → Int32) (L : Nat) (q : Nat) : Option (Unit × ac_H) :=
  mo_cs (m_X6_init (ac_up σ q (.inr (6, [.null, .null, .null, .null, .null, .int 0, .null, .null]))) q (q + 1)) fun z3 σ2 =>
  mo_cs (m_X7_init (ac_up σ2 z3 (.inr (7, [.int 0, .null, .null, .int 0, .int 0, .int 0, .int 0, .int 0, .int 0, .int 0, .int 0, .int 0, .int 0, .null, .null, .null, .null, .null, .null, .null, .null, .int 0, .null, .int 0, .int 0, .int 0, .int 0, .int 0, .null, .int 0, .int 0, .int 0, .int 0, .int 0, .int 0, .int 0, .int 0, .null, .null, .null]))) z3 (z3 + 1)) fun z6 σ5 =>
  m_L_law_l23 xs L 600 (ac_up σ5 z6 (.inl (3, kx_ar 3 1))) q z3 z6 (0 : Int32)
set_option maxRecDepth 100000 in
set_option maxHeartbeats 8000000 in
theorem k_L_law {Λ : ex_L} {Γ : kx_T} {q b L : Nat} {xs : Nat → Int32} {σ σ' : ac_H} {v : Unit} {tb : List ExceptionTableEntry} (K : kx_K Λ Γ RL cL_law 7 (some .boolean) room_1 tb) (hX : kx_X Λ Γ b L xs) (hZ : ∀ (σ1 : ac_H) (N : Nat → Prop) (pc k n : Nat) (lv : List (Nat × Value)), decode cL_law pc = .ok (.ireturn, 1) → k ≤ 601024 → n ≤ 7293034 → kx_S Λ Γ 7 N σ1 k n pc lv [.int 1]) (hf : m_L_law σ xs L q = some (v, σ')) : kx_S Λ Γ 7 (fun z => z = q) σ 0 0 0 [(0, .ref b)] [] := by
  have B23 : ∀ (n23 : Nat) (k0 n0 : Nat) (σ11 : ac_H) (v7 : Nat) (v8 : Nat) (v9 : Nat) (v10 : Int32), k0 + 2 * n23 ≤ 601024 → n0 + 12 * n23 ≤ 7293034 → m_L_law_l23 xs L n23 σ11 v7 v8 v9 v10 = some (v, σ') → kx_S Λ Γ 7 (fun _ => True) σ11 (k0) (n0) 23 [(0, .ref b), (1, .ref v7), (2, .ref v8), (3, .ref v9), (4, .int v10)] [] := by
    intro n23
    induction n23 with
    | zero =>
      intro k0 n0 σ11 v7 v8 v9 v10 hk0 hn0 hf
      rw [m_L_law_l23] at hf
      cases hf
    | succ n23 ih23 =>
      intro k0 n0 σ11 v7 v8 v9 v10 hk0 hn0 hf
      have B633 : ∀ (σ286 : ac_H) (v280 : Nat) (v281 : Nat) (v282 : Nat) (v283 : Int32) (w284 : Int64) (w285 : Int64), m_L_law_j633 (fun ρ y0 y1 y2 y3 => m_L_law_l23 xs L n23 ρ y0 y1 y2 y3) xs L σ286 v280 v281 v282 v283 w284 w285 = some (v, σ') → kx_S Λ Γ 7 (fun _ => True) σ286 (k0 + 2) (n0 + 12) 633 [(0, .ref b), (1, .ref v280), (2, .ref v281), (3, .ref v282), (4, .int v283)] [.long w284, .long w285] := by
        intro σ286 v280 v281 v282 v283 w284 w285 hf
        unfold m_L_law_j633 at hf
        refine kx_lcmp K dL_law_633 ?_
        refine kx_if_eq K 639 hf dL_law_634 (by decide) (fun hf => ?_) (fun hf => ?_)
        · refine kx_goto K 1569 dL_law_639 (by decide) ?_
          refine kx_iinc (v := (v283 + 6)) K [(4, .int (v283 + 6)), (0, .ref b), (1, .ref v280), (2, .ref v281), (3, .ref v282)] dL_law_1569 4 rfl rfl (by decide) rfl ?_
          refine kx_goto K 23 dL_law_1572 (by decide) ?_
          refine kx_sub [(0, .ref b), (1, .ref v280), (2, .ref v281), (3, .ref v282), (4, .int (v283 + 6))] [1, 2, 3, 4, 0] rfl ?_
          refine kx_wd (k' := k0 + 2) (n' := n0 + 12) (by omega) (by omega) ?_
          exact ih23 (k0 + 2) (n0 + 12) _ _ _ _ _ (by omega) (by omega) hf
        · refine kx_iconst (v := 0) K dL_law_637 (by decide) ?_
          cases hf
      have B745 : ∀ (σ293 : ac_H) (v287 : Nat) (v288 : Nat) (v289 : Nat) (v290 : Int32) (w291 : Int64) (w292 : Int64), m_L_law_j745 (fun ρ y0 y1 y2 y3 => m_L_law_l23 xs L n23 ρ y0 y1 y2 y3) xs L σ293 v287 v288 v289 v290 w291 w292 = some (v, σ') → kx_S Λ Γ 7 (fun _ => True) σ293 (k0 + 2) (n0 + 12) 745 [(0, .ref b), (1, .ref v287), (2, .ref v288), (3, .ref v289), (4, .int v290)] [.long w291, .long w292] := by
        intro σ293 v287 v288 v289 v290 w291 w292 hf
        unfold m_L_law_j745 at hf
        refine kx_lcmp K dL_law_745 ?_
        refine kx_if_eq K 751 hf dL_law_746 (by decide) (fun hf => ?_) (fun hf => ?_)
        · refine kx_goto K 1569 dL_law_751 (by decide) ?_
          refine kx_iinc (v := (v290 + 6)) K [(4, .int (v290 + 6)), (0, .ref b), (1, .ref v287), (2, .ref v288), (3, .ref v289)] dL_law_1569 4 rfl rfl (by decide) rfl ?_
          refine kx_goto K 23 dL_law_1572 (by decide) ?_
          refine kx_sub [(0, .ref b), (1, .ref v287), (2, .ref v288), (3, .ref v289), (4, .int (v290 + 6))] [1, 2, 3, 4, 0] rfl ?_
          refine kx_wd (k' := k0 + 2) (n' := n0 + 12) (by omega) (by omega) ?_
          exact ih23 (k0 + 2) (n0 + 12) _ _ _ _ _ (by omega) (by omega) hf
        · refine kx_iconst (v := 0) K dL_law_749 (by decide) ?_
          cases hf
      have B1504 : ∀ (σ300 : ac_H) (v294 : Nat) (v295 : Nat) (v296 : Nat) (v297 : Int32) (w298 : Int64) (w299 : Int64), m_L_law_j1504 (fun ρ y0 y1 y2 y3 => m_L_law_l23 xs L n23 ρ y0 y1 y2 y3) xs L σ300 v294 v295 v296 v297 w298 w299 = some (v, σ') → kx_S Λ Γ 7 (fun _ => True) σ300 (k0 + 2) (n0 + 12) 1504 [(0, .ref b), (1, .ref v294), (2, .ref v295), (3, .ref v296), (4, .int v297)] [.long w298, .long w299] := by
        intro σ300 v294 v295 v296 v297 w298 w299 hf
        unfold m_L_law_j1504 at hf
        refine kx_lcmp K dL_law_1504 ?_
        refine kx_if_eq K 1510 hf dL_law_1505 (by decide) (fun hf => ?_) (fun hf => ?_)
        · refine kx_goto K 1569 dL_law_1510 (by decide) ?_
          refine kx_iinc (v := (v297 + 6)) K [(4, .int (v297 + 6)), (0, .ref b), (1, .ref v294), (2, .ref v295), (3, .ref v296)] dL_law_1569 4 rfl rfl (by decide) rfl ?_
          refine kx_goto K 23 dL_law_1572 (by decide) ?_
          refine kx_sub [(0, .ref b), (1, .ref v294), (2, .ref v295), (3, .ref v296), (4, .int (v297 + 6))] [1, 2, 3, 4, 0] rfl ?_
          refine kx_wd (k' := k0 + 2) (n' := n0 + 12) (by omega) (by omega) ?_
          exact ih23 (k0 + 2) (n0 + 12) _ _ _ _ _ (by omega) (by omega) hf
        · refine kx_iconst (v := 0) K dL_law_1508 (by decide) ?_
          cases hf
      rw [m_L_law_l23] at hf
      refine kx_iload K dL_law_23 4 rfl ?_
      refine kx_aload_n K dL_law_25 rfl 0 rfl ?_
      refine kx_sln K hX dL_law_26 ?_
      refine kx_bipush (v := 6) K dL_law_27 (by decide) ?_
      refine kx_isub K dL_law_29 ?_
      refine kx_icmp_gt K 1575 hf dL_law_30 (by decide) (fun hf => ?_) (fun hf => ?_)
      · refine kx_iconst (v := 1) K dL_law_1575 (by decide) ?_
        exact hZ _ _ _ _ _ _ dL_law_1576 (by omega) (by omega)
      · refine kx_aload_n K dL_law_33 rfl 0 rfl ?_
        refine kx_iload K dL_law_34 4 rfl ?_
        refine kx_sld K hX dL_law_36 hf (fun x13 hf => ?_)
        refine kx_bipush (v := 31) K dL_law_37 (by decide) ?_
        refine kx_iand K dL_law_39 ?_
        refine kx_swI (c := 0) K 164 dL_law_40 (by decide) (by decide) rfl (by decide) hf (fun hf => ?_) (fun h28 hf => ?_)
        · refine kx_aload_n K dL_law_164 rfl 1 rfl ?_
          refine kx_aload_n K dL_law_165 rfl 0 rfl ?_
          refine kx_iload K dL_law_166 4 rfl ?_
          refine kx_iconst (v := 1) K dL_law_168 (by decide) ?_
          refine kx_iadd K dL_law_169 ?_
          refine kx_sld K hX dL_law_170 hf (fun x14 hf => ?_)
          refine kx_aload_n K dL_law_171 rfl 0 rfl ?_
          refine kx_iload K dL_law_172 4 rfl ?_
          refine kx_iconst (v := 2) K dL_law_174 (by decide) ?_
          refine kx_iadd K dL_law_175 ?_
          refine kx_sld K hX dL_law_176 hf (fun x15 hf => ?_)
          refine kx_aload_n K dL_law_177 rfl 0 rfl ?_
          refine kx_iload K dL_law_178 4 rfl ?_
          refine kx_iconst (v := 3) K dL_law_180 (by decide) ?_
          refine kx_iadd K dL_law_181 ?_
          refine kx_sld K hX dL_law_182 hf (fun x16 hf => ?_)
          refine kx_aload_n K dL_law_183 rfl 0 rfl ?_
          refine kx_iload K dL_law_184 4 rfl ?_
          refine kx_iconst (v := 4) K dL_law_186 (by decide) ?_
          refine kx_iadd K dL_law_187 ?_
          refine kx_sld K hX dL_law_188 hf (fun x17 hf => ?_)
          refine kx_aload_n K dL_law_189 rfl 0 rfl ?_
          refine kx_iload K dL_law_190 4 rfl ?_
          refine kx_iconst (v := 5) K dL_law_192 (by decide) ?_
          refine kx_iadd K dL_law_193 ?_
          refine kx_sld K hX dL_law_194 hf (fun x18 hf => ?_)
          refine kx_cv5i K c_L_81 ⟨by decide, by decide, rfl, rfl, (show k0 ≤ 601024 by omega), (show n0 ≤ 7293034 by omega)⟩ (Nat.le_of_ble_eq_true rfl) dL_law_195 hf (fun _ _ _ h => k_X6_append h) (fun x20 σ19 hf => ?_)
          refine kx_aload_n K dL_law_198 rfl 2 rfl ?_
          refine kx_aload_n K dL_law_199 rfl 0 rfl ?_
          refine kx_iload K dL_law_200 4 rfl ?_
          refine kx_iconst (v := 1) K dL_law_202 (by decide) ?_
          refine kx_iadd K dL_law_203 ?_
          refine kx_sld K hX dL_law_204 hf (fun x21 hf => ?_)
          refine kx_aload_n K dL_law_205 rfl 0 rfl ?_
          refine kx_iload K dL_law_206 4 rfl ?_
          refine kx_iconst (v := 2) K dL_law_208 (by decide) ?_
          refine kx_iadd K dL_law_209 ?_
          refine kx_sld K hX dL_law_210 hf (fun x22 hf => ?_)
          refine kx_aload_n K dL_law_211 rfl 0 rfl ?_
          refine kx_iload K dL_law_212 4 rfl ?_
          refine kx_iconst (v := 3) K dL_law_214 (by decide) ?_
          refine kx_iadd K dL_law_215 ?_
          refine kx_sld K hX dL_law_216 hf (fun x23 hf => ?_)
          refine kx_aload_n K dL_law_217 rfl 0 rfl ?_
          refine kx_iload K dL_law_218 4 rfl ?_
          refine kx_iconst (v := 4) K dL_law_220 (by decide) ?_
          refine kx_iadd K dL_law_221 ?_
          refine kx_sld K hX dL_law_222 hf (fun x24 hf => ?_)
          refine kx_aload_n K dL_law_223 rfl 0 rfl ?_
          refine kx_iload K dL_law_224 4 rfl ?_
          refine kx_iconst (v := 5) K dL_law_226 (by decide) ?_
          refine kx_iadd K dL_law_227 ?_
          refine kx_sld K hX dL_law_228 hf (fun x25 hf => ?_)
          refine kx_cv5i K c_L_85 ⟨by decide, by decide, rfl, rfl, (show k0 ≤ 601024 by omega), (show n0 ≤ 7293034 by omega)⟩ (Nat.le_of_ble_eq_true rfl) dL_law_229 hf (fun _ _ _ h => k_X7_append h) (fun x27 σ26 hf => ?_)
          refine kx_icmp_eq K 1569 hf dL_law_232 (by decide) (fun hf => ?_) (fun hf => ?_)
          · refine kx_iinc (v := (v10 + 6)) K [(4, .int (v10 + 6)), (0, .ref b), (1, .ref v7), (2, .ref v8), (3, .ref v9)] dL_law_1569 4 rfl rfl (by decide) rfl ?_
            refine kx_goto K 23 dL_law_1572 (by decide) ?_
            refine kx_sub [(0, .ref b), (1, .ref v7), (2, .ref v8), (3, .ref v9), (4, .int (v10 + 6))] [1, 2, 3, 4, 0] rfl ?_
            refine kx_wd (k' := k0 + 2) (n' := n0 + 12) (by omega) (by omega) ?_
            exact ih23 (k0 + 2) (n0 + 12) _ _ _ _ _ (by omega) (by omega) hf
          · refine kx_iconst (v := 0) K dL_law_235 (by decide) ?_
            cases hf
        refine kx_swI (c := 1) K 237 dL_law_40 (by decide) (by decide) rfl (by decide) hf (fun hf => ?_) (fun h38 hf => ?_)
        · refine kx_aload_n K dL_law_237 rfl 1 rfl ?_
          refine kx_aload_n K dL_law_238 rfl 0 rfl ?_
          refine kx_iload K dL_law_239 4 rfl ?_
          refine kx_iconst (v := 1) K dL_law_241 (by decide) ?_
          refine kx_iadd K dL_law_242 ?_
          refine kx_sld K hX dL_law_243 hf (fun x29 hf => ?_)
          refine kx_aload_n K dL_law_244 rfl 3 rfl ?_
          refine kx_csw (k' := k0 + 1) (n' := n0 + 6) K [.ref v7, .int x29, .ref v9] c_L_86 ⟨by decide, by decide, rfl, rfl, (show k0 + 1 ≤ 601024 by omega), (show n0 + 6 ≤ 7293034 by omega)⟩ rfl rfl (Nat.le_of_ble_eq_true rfl) dL_law_245 (fun _ _ _ _ => trivial) hf (fun _ _ _ h => k_L_parse h) (fun x31 σ30 hf => ?_)
          refine kx_istore K [(5, .int x31), (0, .ref b), (1, .ref v7), (2, .ref v8), (3, .ref v9), (4, .int v10)] dL_law_248 (by decide) rfl ?_
          refine kx_aload_n K dL_law_250 rfl 3 rfl ?_
          refine kx_aload_n K dL_law_251 rfl 1 rfl ?_
          refine kx_iload K dL_law_252 5 rfl ?_
          refine kx_iconst (v := 1) K dL_law_254 (by decide) ?_
          refine kx_iadd K dL_law_255 ?_
          refine kx_sld K hX dL_law_256 hf (fun x32 hf => ?_)
          refine kx_cv1i K c_L_91 ⟨by decide, by decide, rfl, rfl, (show k0 + 1 ≤ 601024 by omega), (show n0 + 6 ≤ 7293034 by omega)⟩ (Nat.le_of_ble_eq_true rfl) dL_law_257 hf (fun _ _ _ h => k_X7_parse h) (fun x34 σ33 hf => ?_)
          refine kx_istore K [(6, .int x34), (5, .int x31), (0, .ref b), (1, .ref v7), (2, .ref v8), (3, .ref v9), (4, .int v10)] dL_law_260 (by decide) rfl ?_
          refine kx_aload_n K dL_law_262 rfl 4 rfl ?_
          refine kx_cv0i K c_L_92 ⟨by decide, by decide, rfl, rfl, (show k0 + 1 ≤ 601024 by omega), (show n0 + 6 ≤ 7293034 by omega)⟩ (Nat.le_of_ble_eq_true rfl) dL_law_263 hf (fun _ _ _ h => k_X7_thrown h) (fun x36 σ35 hf => ?_)
          refine kx_iload K dL_law_266 1 rfl ?_
          refine kx_icmp_eq K 273 hf dL_law_268 (by decide) (fun hf => ?_) (fun hf => ?_)
          · refine kx_iload K dL_law_273 1 rfl ?_
            refine kx_if_ne K 290 hf dL_law_275 (by decide) (fun hf => ?_) (fun hf => ?_)
            · refine kx_goto K 1569 dL_law_290 (by decide) ?_
              refine kx_iinc (v := (v10 + 6)) K [(4, .int (v10 + 6)), (6, .int x34), (5, .int x31), (0, .ref b), (1, .ref v7), (2, .ref v8), (3, .ref v9)] dL_law_1569 6 rfl rfl (by decide) rfl ?_
              refine kx_goto K 23 dL_law_1572 (by decide) ?_
              refine kx_sub [(0, .ref b), (1, .ref v7), (2, .ref v8), (3, .ref v9), (4, .int (v10 + 6))] [3, 4, 5, 6, 0] rfl ?_
              refine kx_wd (k' := k0 + 2) (n' := n0 + 12) (by omega) (by omega) ?_
              exact ih23 (k0 + 2) (n0 + 12) _ _ _ _ _ (by omega) (by omega) hf
            · refine kx_aload_n K dL_law_278 rfl 5 rfl ?_
              refine kx_iconst (v := 0) K dL_law_279 (by decide) ?_
              refine kx_al K dL_law_280 hf (fun x37 hf => ?_)
              refine kx_iload K dL_law_281 0 rfl ?_
              refine kx_i2l K dL_law_283 ?_
              refine kx_lcmp K dL_law_284 ?_
              refine kx_if_eq K 290 hf dL_law_285 (by decide) (fun hf => ?_) (fun hf => ?_)
              · refine kx_goto K 1569 dL_law_290 (by decide) ?_
                refine kx_iinc (v := (v10 + 6)) K [(4, .int (v10 + 6)), (6, .int x34), (5, .int x31), (0, .ref b), (1, .ref v7), (2, .ref v8), (3, .ref v9)] dL_law_1569 6 rfl rfl (by decide) rfl ?_
                refine kx_goto K 23 dL_law_1572 (by decide) ?_
                refine kx_sub [(0, .ref b), (1, .ref v7), (2, .ref v8), (3, .ref v9), (4, .int (v10 + 6))] [3, 4, 5, 6, 0] rfl ?_
                refine kx_wd (k' := k0 + 2) (n' := n0 + 12) (by omega) (by omega) ?_
                exact ih23 (k0 + 2) (n0 + 12) _ _ _ _ _ (by omega) (by omega) hf
              · refine kx_iconst (v := 0) K dL_law_288 (by decide) ?_
                cases hf
          · refine kx_iconst (v := 0) K dL_law_271 (by decide) ?_
            cases hf
        refine kx_swI (c := 2) K 293 dL_law_40 (by decide) (by decide) rfl (by decide) hf (fun hf => ?_) (fun h43 hf => ?_)
        · refine kx_aload_n K dL_law_293 rfl 1 rfl ?_
          refine kx_cv0i K c_L_96 ⟨by decide, by decide, rfl, rfl, (show k0 ≤ 601024 by omega), (show n0 ≤ 7293034 by omega)⟩ (Nat.le_of_ble_eq_true rfl) dL_law_294 hf (fun _ _ _ h => k_X6_errorPosition h) (fun x40 σ39 hf => ?_)
          refine kx_aload_n K dL_law_297 rfl 2 rfl ?_
          refine kx_cv0i K c_L_99 ⟨by decide, by decide, rfl, rfl, (show k0 ≤ 601024 by omega), (show n0 ≤ 7293034 by omega)⟩ (Nat.le_of_ble_eq_true rfl) dL_law_298 hf (fun _ _ _ h => k_X7_errorPosition h) (fun x42 σ41 hf => ?_)
          refine kx_icmp_eq K 1569 hf dL_law_301 (by decide) (fun hf => ?_) (fun hf => ?_)
          · refine kx_iinc (v := (v10 + 6)) K [(4, .int (v10 + 6)), (0, .ref b), (1, .ref v7), (2, .ref v8), (3, .ref v9)] dL_law_1569 4 rfl rfl (by decide) rfl ?_
            refine kx_goto K 23 dL_law_1572 (by decide) ?_
            refine kx_sub [(0, .ref b), (1, .ref v7), (2, .ref v8), (3, .ref v9), (4, .int (v10 + 6))] [1, 2, 3, 4, 0] rfl ?_
            refine kx_wd (k' := k0 + 2) (n' := n0 + 12) (by omega) (by omega) ?_
            exact ih23 (k0 + 2) (n0 + 12) _ _ _ _ _ (by omega) (by omega) hf
          · refine kx_iconst (v := 0) K dL_law_304 (by decide) ?_
            cases hf
        refine kx_swI (c := 3) K 306 dL_law_40 (by decide) (by decide) rfl (by decide) hf (fun hf => ?_) (fun h53 hf => ?_)
        · refine kx_aload_n K dL_law_306 rfl 1 rfl ?_
          refine kx_aload_n K dL_law_307 rfl 0 rfl ?_
          refine kx_iload K dL_law_308 4 rfl ?_
          refine kx_iconst (v := 1) K dL_law_310 (by decide) ?_
          refine kx_iadd K dL_law_311 ?_
          refine kx_sld K hX dL_law_312 hf (fun x44 hf => ?_)
          refine kx_aload_n K dL_law_313 rfl 3 rfl ?_
          refine kx_csw (k' := k0 + 1) (n' := n0 + 6) K [.ref v7, .int x44, .ref v9] c_L_100 ⟨by decide, by decide, rfl, rfl, (show k0 + 1 ≤ 601024 by omega), (show n0 + 6 ≤ 7293034 by omega)⟩ rfl rfl (Nat.le_of_ble_eq_true rfl) dL_law_314 (fun _ _ _ _ => trivial) hf (fun _ _ _ h => k_L_size h) (fun x46 σ45 hf => ?_)
          refine kx_istore K [(5, .int x46), (0, .ref b), (1, .ref v7), (2, .ref v8), (3, .ref v9), (4, .int v10)] dL_law_317 (by decide) rfl ?_
          refine kx_aload_n K dL_law_319 rfl 3 rfl ?_
          refine kx_aload_n K dL_law_320 rfl 1 rfl ?_
          refine kx_iload K dL_law_321 5 rfl ?_
          refine kx_iconst (v := 1) K dL_law_323 (by decide) ?_
          refine kx_iadd K dL_law_324 ?_
          refine kx_sld K hX dL_law_325 hf (fun x47 hf => ?_)
          refine kx_cv1i K c_L_102 ⟨by decide, by decide, rfl, rfl, (show k0 + 1 ≤ 601024 by omega), (show n0 + 6 ≤ 7293034 by omega)⟩ (Nat.le_of_ble_eq_true rfl) dL_law_326 hf (fun _ _ _ h => k_X7_size h) (fun x49 σ48 hf => ?_)
          refine kx_istore K [(6, .int x49), (5, .int x46), (0, .ref b), (1, .ref v7), (2, .ref v8), (3, .ref v9), (4, .int v10)] dL_law_329 (by decide) rfl ?_
          refine kx_aload_n K dL_law_331 rfl 4 rfl ?_
          refine kx_cv0i K c_L_92 ⟨by decide, by decide, rfl, rfl, (show k0 + 1 ≤ 601024 by omega), (show n0 + 6 ≤ 7293034 by omega)⟩ (Nat.le_of_ble_eq_true rfl) dL_law_332 hf (fun _ _ _ h => k_X7_thrown h) (fun x51 σ50 hf => ?_)
          refine kx_iload K dL_law_335 1 rfl ?_
          refine kx_icmp_eq K 342 hf dL_law_337 (by decide) (fun hf => ?_) (fun hf => ?_)
          · refine kx_iload K dL_law_342 1 rfl ?_
            refine kx_if_ne K 359 hf dL_law_344 (by decide) (fun hf => ?_) (fun hf => ?_)
            · refine kx_goto K 1569 dL_law_359 (by decide) ?_
              refine kx_iinc (v := (v10 + 6)) K [(4, .int (v10 + 6)), (6, .int x49), (5, .int x46), (0, .ref b), (1, .ref v7), (2, .ref v8), (3, .ref v9)] dL_law_1569 6 rfl rfl (by decide) rfl ?_
              refine kx_goto K 23 dL_law_1572 (by decide) ?_
              refine kx_sub [(0, .ref b), (1, .ref v7), (2, .ref v8), (3, .ref v9), (4, .int (v10 + 6))] [3, 4, 5, 6, 0] rfl ?_
              refine kx_wd (k' := k0 + 2) (n' := n0 + 12) (by omega) (by omega) ?_
              exact ih23 (k0 + 2) (n0 + 12) _ _ _ _ _ (by omega) (by omega) hf
            · refine kx_aload_n K dL_law_347 rfl 5 rfl ?_
              refine kx_iconst (v := 0) K dL_law_348 (by decide) ?_
              refine kx_al K dL_law_349 hf (fun x52 hf => ?_)
              refine kx_iload K dL_law_350 0 rfl ?_
              refine kx_i2l K dL_law_352 ?_
              refine kx_lcmp K dL_law_353 ?_
              refine kx_if_eq K 359 hf dL_law_354 (by decide) (fun hf => ?_) (fun hf => ?_)
              · refine kx_goto K 1569 dL_law_359 (by decide) ?_
                refine kx_iinc (v := (v10 + 6)) K [(4, .int (v10 + 6)), (6, .int x49), (5, .int x46), (0, .ref b), (1, .ref v7), (2, .ref v8), (3, .ref v9)] dL_law_1569 6 rfl rfl (by decide) rfl ?_
                refine kx_goto K 23 dL_law_1572 (by decide) ?_
                refine kx_sub [(0, .ref b), (1, .ref v7), (2, .ref v8), (3, .ref v9), (4, .int (v10 + 6))] [3, 4, 5, 6, 0] rfl ?_
                refine kx_wd (k' := k0 + 2) (n' := n0 + 12) (by omega) (by omega) ?_
                exact ih23 (k0 + 2) (n0 + 12) _ _ _ _ _ (by omega) (by omega) hf
              · refine kx_iconst (v := 0) K dL_law_357 (by decide) ?_
                cases hf
          · refine kx_iconst (v := 0) K dL_law_340 (by decide) ?_
            cases hf
        refine kx_swI (c := 4) K 362 dL_law_40 (by decide) (by decide) rfl (by decide) hf (fun hf => ?_) (fun h65 hf => ?_)
        · refine kx_aload_n K dL_law_362 rfl 1 rfl ?_
          refine kx_aload_n K dL_law_363 rfl 0 rfl ?_
          refine kx_iload K dL_law_364 4 rfl ?_
          refine kx_iconst (v := 1) K dL_law_366 (by decide) ?_
          refine kx_iadd K dL_law_367 ?_
          refine kx_sld K hX dL_law_368 hf (fun x54 hf => ?_)
          refine kx_aload_n K dL_law_369 rfl 0 rfl ?_
          refine kx_iload K dL_law_370 4 rfl ?_
          refine kx_iconst (v := 2) K dL_law_372 (by decide) ?_
          refine kx_iadd K dL_law_373 ?_
          refine kx_sld K hX dL_law_374 hf (fun x55 hf => ?_)
          refine kx_aload_n K dL_law_375 rfl 3 rfl ?_
          refine kx_csw (k' := k0 + 2) (n' := n0 + 12) K [.ref v7, .int x54, .int x55, .ref v9] c_L_103 ⟨by decide, by decide, rfl, rfl, (show k0 + 2 ≤ 601024 by omega), (show n0 + 12 ≤ 7293034 by omega)⟩ rfl rfl (Nat.le_of_ble_eq_true rfl) dL_law_376 (fun _ _ _ _ => trivial) hf (fun _ _ _ h => k_L_fault h) (fun x57 σ56 hf => ?_)
          refine kx_istore K [(5, .int x57), (0, .ref b), (1, .ref v7), (2, .ref v8), (3, .ref v9), (4, .int v10)] dL_law_379 (by decide) rfl ?_
          refine kx_aload_n K dL_law_381 rfl 3 rfl ?_
          refine kx_aload_n K dL_law_382 rfl 1 rfl ?_
          refine kx_iload K dL_law_383 5 rfl ?_
          refine kx_iconst (v := 1) K dL_law_385 (by decide) ?_
          refine kx_iadd K dL_law_386 ?_
          refine kx_sld K hX dL_law_387 hf (fun x58 hf => ?_)
          refine kx_aload_n K dL_law_388 rfl 1 rfl ?_
          refine kx_iload K dL_law_389 5 rfl ?_
          refine kx_iconst (v := 2) K dL_law_391 (by decide) ?_
          refine kx_iadd K dL_law_392 ?_
          refine kx_sld K hX dL_law_393 hf (fun x59 hf => ?_)
          refine kx_cv2i K c_L_106 ⟨by decide, by decide, rfl, rfl, (show k0 + 2 ≤ 601024 by omega), (show n0 + 12 ≤ 7293034 by omega)⟩ (Nat.le_of_ble_eq_true rfl) dL_law_394 hf (fun _ _ _ h => k_X7_fault h) (fun x61 σ60 hf => ?_)
          refine kx_istore K [(6, .int x61), (5, .int x57), (0, .ref b), (1, .ref v7), (2, .ref v8), (3, .ref v9), (4, .int v10)] dL_law_397 (by decide) rfl ?_
          refine kx_aload_n K dL_law_399 rfl 4 rfl ?_
          refine kx_cv0i K c_L_92 ⟨by decide, by decide, rfl, rfl, (show k0 + 2 ≤ 601024 by omega), (show n0 + 12 ≤ 7293034 by omega)⟩ (Nat.le_of_ble_eq_true rfl) dL_law_400 hf (fun _ _ _ h => k_X7_thrown h) (fun x63 σ62 hf => ?_)
          refine kx_iload K dL_law_403 1 rfl ?_
          refine kx_icmp_eq K 410 hf dL_law_405 (by decide) (fun hf => ?_) (fun hf => ?_)
          · refine kx_iload K dL_law_410 1 rfl ?_
            refine kx_if_ne K 427 hf dL_law_412 (by decide) (fun hf => ?_) (fun hf => ?_)
            · refine kx_goto K 1569 dL_law_427 (by decide) ?_
              refine kx_iinc (v := (v10 + 6)) K [(4, .int (v10 + 6)), (6, .int x61), (5, .int x57), (0, .ref b), (1, .ref v7), (2, .ref v8), (3, .ref v9)] dL_law_1569 6 rfl rfl (by decide) rfl ?_
              refine kx_goto K 23 dL_law_1572 (by decide) ?_
              refine kx_sub [(0, .ref b), (1, .ref v7), (2, .ref v8), (3, .ref v9), (4, .int (v10 + 6))] [3, 4, 5, 6, 0] rfl ?_
              refine kx_wd (k' := k0 + 2) (n' := n0 + 12) (by omega) (by omega) ?_
              exact ih23 (k0 + 2) (n0 + 12) _ _ _ _ _ (by omega) (by omega) hf
            · refine kx_aload_n K dL_law_415 rfl 5 rfl ?_
              refine kx_iconst (v := 0) K dL_law_416 (by decide) ?_
              refine kx_al K dL_law_417 hf (fun x64 hf => ?_)
              refine kx_iload K dL_law_418 0 rfl ?_
              refine kx_i2l K dL_law_420 ?_
              refine kx_lcmp K dL_law_421 ?_
              refine kx_if_eq K 427 hf dL_law_422 (by decide) (fun hf => ?_) (fun hf => ?_)
              · refine kx_goto K 1569 dL_law_427 (by decide) ?_
                refine kx_iinc (v := (v10 + 6)) K [(4, .int (v10 + 6)), (6, .int x61), (5, .int x57), (0, .ref b), (1, .ref v7), (2, .ref v8), (3, .ref v9)] dL_law_1569 6 rfl rfl (by decide) rfl ?_
                refine kx_goto K 23 dL_law_1572 (by decide) ?_
                refine kx_sub [(0, .ref b), (1, .ref v7), (2, .ref v8), (3, .ref v9), (4, .int (v10 + 6))] [3, 4, 5, 6, 0] rfl ?_
                refine kx_wd (k' := k0 + 2) (n' := n0 + 12) (by omega) (by omega) ?_
                exact ih23 (k0 + 2) (n0 + 12) _ _ _ _ _ (by omega) (by omega) hf
              · refine kx_iconst (v := 0) K dL_law_425 (by decide) ?_
                cases hf
          · refine kx_iconst (v := 0) K dL_law_408 (by decide) ?_
            cases hf
        refine kx_swI (c := 5) K 430 dL_law_40 (by decide) (by decide) rfl (by decide) hf (fun hf => ?_) (fun h75 hf => ?_)
        · refine kx_aload_n K dL_law_430 rfl 1 rfl ?_
          refine kx_aload_n K dL_law_431 rfl 0 rfl ?_
          refine kx_iload K dL_law_432 4 rfl ?_
          refine kx_iconst (v := 1) K dL_law_434 (by decide) ?_
          refine kx_iadd K dL_law_435 ?_
          refine kx_sld K hX dL_law_436 hf (fun x66 hf => ?_)
          refine kx_aload_n K dL_law_437 rfl 3 rfl ?_
          refine kx_csw (k' := k0 + 1) (n' := n0 + 6) K [.ref v7, .int x66, .ref v9] c_L_107 ⟨by decide, by decide, rfl, rfl, (show k0 + 1 ≤ 601024 by omega), (show n0 + 6 ≤ 7293034 by omega)⟩ rfl rfl (Nat.le_of_ble_eq_true rfl) dL_law_438 (fun _ _ _ _ => trivial) hf (fun _ _ _ h => k_L_result h) (fun x68 σ67 hf => ?_)
          refine kx_istore K [(5, .int x68), (0, .ref b), (1, .ref v7), (2, .ref v8), (3, .ref v9), (4, .int v10)] dL_law_441 (by decide) rfl ?_
          refine kx_aload_n K dL_law_443 rfl 3 rfl ?_
          refine kx_aload_n K dL_law_444 rfl 1 rfl ?_
          refine kx_iload K dL_law_445 5 rfl ?_
          refine kx_iconst (v := 1) K dL_law_447 (by decide) ?_
          refine kx_iadd K dL_law_448 ?_
          refine kx_sld K hX dL_law_449 hf (fun x69 hf => ?_)
          refine kx_cv1i K c_L_109 ⟨by decide, by decide, rfl, rfl, (show k0 + 1 ≤ 601024 by omega), (show n0 + 6 ≤ 7293034 by omega)⟩ (Nat.le_of_ble_eq_true rfl) dL_law_450 hf (fun _ _ _ h => k_X7_result h) (fun x71 σ70 hf => ?_)
          refine kx_istore K [(6, .int x71), (5, .int x68), (0, .ref b), (1, .ref v7), (2, .ref v8), (3, .ref v9), (4, .int v10)] dL_law_453 (by decide) rfl ?_
          refine kx_aload_n K dL_law_455 rfl 4 rfl ?_
          refine kx_cv0i K c_L_92 ⟨by decide, by decide, rfl, rfl, (show k0 + 1 ≤ 601024 by omega), (show n0 + 6 ≤ 7293034 by omega)⟩ (Nat.le_of_ble_eq_true rfl) dL_law_456 hf (fun _ _ _ h => k_X7_thrown h) (fun x73 σ72 hf => ?_)
          refine kx_iload K dL_law_459 1 rfl ?_
          refine kx_icmp_eq K 466 hf dL_law_461 (by decide) (fun hf => ?_) (fun hf => ?_)
          · refine kx_iload K dL_law_466 1 rfl ?_
            refine kx_if_ne K 483 hf dL_law_468 (by decide) (fun hf => ?_) (fun hf => ?_)
            · refine kx_goto K 1569 dL_law_483 (by decide) ?_
              refine kx_iinc (v := (v10 + 6)) K [(4, .int (v10 + 6)), (6, .int x71), (5, .int x68), (0, .ref b), (1, .ref v7), (2, .ref v8), (3, .ref v9)] dL_law_1569 6 rfl rfl (by decide) rfl ?_
              refine kx_goto K 23 dL_law_1572 (by decide) ?_
              refine kx_sub [(0, .ref b), (1, .ref v7), (2, .ref v8), (3, .ref v9), (4, .int (v10 + 6))] [3, 4, 5, 6, 0] rfl ?_
              refine kx_wd (k' := k0 + 2) (n' := n0 + 12) (by omega) (by omega) ?_
              exact ih23 (k0 + 2) (n0 + 12) _ _ _ _ _ (by omega) (by omega) hf
            · refine kx_aload_n K dL_law_471 rfl 5 rfl ?_
              refine kx_iconst (v := 0) K dL_law_472 (by decide) ?_
              refine kx_al K dL_law_473 hf (fun x74 hf => ?_)
              refine kx_iload K dL_law_474 0 rfl ?_
              refine kx_i2l K dL_law_476 ?_
              refine kx_lcmp K dL_law_477 ?_
              refine kx_if_eq K 483 hf dL_law_478 (by decide) (fun hf => ?_) (fun hf => ?_)
              · refine kx_goto K 1569 dL_law_483 (by decide) ?_
                refine kx_iinc (v := (v10 + 6)) K [(4, .int (v10 + 6)), (6, .int x71), (5, .int x68), (0, .ref b), (1, .ref v7), (2, .ref v8), (3, .ref v9)] dL_law_1569 6 rfl rfl (by decide) rfl ?_
                refine kx_goto K 23 dL_law_1572 (by decide) ?_
                refine kx_sub [(0, .ref b), (1, .ref v7), (2, .ref v8), (3, .ref v9), (4, .int (v10 + 6))] [3, 4, 5, 6, 0] rfl ?_
                refine kx_wd (k' := k0 + 2) (n' := n0 + 12) (by omega) (by omega) ?_
                exact ih23 (k0 + 2) (n0 + 12) _ _ _ _ _ (by omega) (by omega) hf
              · refine kx_iconst (v := 0) K dL_law_481 (by decide) ?_
                cases hf
          · refine kx_iconst (v := 0) K dL_law_464 (by decide) ?_
            cases hf
        refine kx_swI (c := 6) K 486 dL_law_40 (by decide) (by decide) rfl (by decide) hf (fun hf => ?_) (fun h82 hf => ?_)
        · refine kx_aload_n K dL_law_486 rfl 1 rfl ?_
          refine kx_aload_n K dL_law_487 rfl 0 rfl ?_
          refine kx_iload K dL_law_488 4 rfl ?_
          refine kx_iconst (v := 1) K dL_law_490 (by decide) ?_
          refine kx_iadd K dL_law_491 ?_
          refine kx_sld K hX dL_law_492 hf (fun x76 hf => ?_)
          refine kx_cv1i K c_L_110 ⟨by decide, by decide, rfl, rfl, (show k0 ≤ 601024 by omega), (show n0 ≤ 7293034 by omega)⟩ (Nat.le_of_ble_eq_true rfl) dL_law_493 hf (fun _ _ _ h => k_X6_delivered h) (fun x78 σ77 hf => ?_)
          refine kx_aload_n K dL_law_496 rfl 2 rfl ?_
          refine kx_aload_n K dL_law_497 rfl 0 rfl ?_
          refine kx_iload K dL_law_498 4 rfl ?_
          refine kx_iconst (v := 1) K dL_law_500 (by decide) ?_
          refine kx_iadd K dL_law_501 ?_
          refine kx_sld K hX dL_law_502 hf (fun x79 hf => ?_)
          refine kx_cv1i K c_L_113 ⟨by decide, by decide, rfl, rfl, (show k0 ≤ 601024 by omega), (show n0 ≤ 7293034 by omega)⟩ (Nat.le_of_ble_eq_true rfl) dL_law_503 hf (fun _ _ _ h => k_X7_delivered h) (fun x81 σ80 hf => ?_)
          refine kx_icmp_eq K 1569 hf dL_law_506 (by decide) (fun hf => ?_) (fun hf => ?_)
          · refine kx_iinc (v := (v10 + 6)) K [(4, .int (v10 + 6)), (0, .ref b), (1, .ref v7), (2, .ref v8), (3, .ref v9)] dL_law_1569 4 rfl rfl (by decide) rfl ?_
            refine kx_goto K 23 dL_law_1572 (by decide) ?_
            refine kx_sub [(0, .ref b), (1, .ref v7), (2, .ref v8), (3, .ref v9), (4, .int (v10 + 6))] [1, 2, 3, 4, 0] rfl ?_
            refine kx_wd (k' := k0 + 2) (n' := n0 + 12) (by omega) (by omega) ?_
            exact ih23 (k0 + 2) (n0 + 12) _ _ _ _ _ (by omega) (by omega) hf
          · refine kx_iconst (v := 0) K dL_law_509 (by decide) ?_
            cases hf
        refine kx_swI (c := 7) K 511 dL_law_40 (by decide) (by decide) rfl (by decide) hf (fun hf => ?_) (fun h94 hf => ?_)
        · refine kx_aload_n K dL_law_511 rfl 1 rfl ?_
          refine kx_aload_n K dL_law_512 rfl 0 rfl ?_
          refine kx_iload K dL_law_513 4 rfl ?_
          refine kx_iconst (v := 1) K dL_law_515 (by decide) ?_
          refine kx_iadd K dL_law_516 ?_
          refine kx_sld K hX dL_law_517 hf (fun x83 hf => ?_)
          refine kx_aload_n K dL_law_518 rfl 0 rfl ?_
          refine kx_iload K dL_law_519 4 rfl ?_
          refine kx_iconst (v := 2) K dL_law_521 (by decide) ?_
          refine kx_iadd K dL_law_522 ?_
          refine kx_sld K hX dL_law_523 hf (fun x84 hf => ?_)
          refine kx_aload_n K dL_law_524 rfl 3 rfl ?_
          refine kx_csw (k' := k0 + 1) (n' := n0 + 6) K [.ref v7, .int x83, .int x84, .ref v9] c_L_114 ⟨by decide, by decide, rfl, rfl, (show k0 + 1 ≤ 601024 by omega), (show n0 + 6 ≤ 7293034 by omega)⟩ rfl rfl (Nat.le_of_ble_eq_true rfl) dL_law_525 (fun _ _ _ _ => trivial) hf (fun _ _ _ h => k_L_sent h) (fun x86 σ85 hf => ?_)
          refine kx_istore K [(5, .int x86), (0, .ref b), (1, .ref v7), (2, .ref v8), (3, .ref v9), (4, .int v10)] dL_law_528 (by decide) rfl ?_
          refine kx_aload_n K dL_law_530 rfl 3 rfl ?_
          refine kx_aload_n K dL_law_531 rfl 1 rfl ?_
          refine kx_iload K dL_law_532 5 rfl ?_
          refine kx_iconst (v := 1) K dL_law_534 (by decide) ?_
          refine kx_iadd K dL_law_535 ?_
          refine kx_sld K hX dL_law_536 hf (fun x87 hf => ?_)
          refine kx_aload_n K dL_law_537 rfl 1 rfl ?_
          refine kx_iload K dL_law_538 5 rfl ?_
          refine kx_iconst (v := 2) K dL_law_540 (by decide) ?_
          refine kx_iadd K dL_law_541 ?_
          refine kx_sld K hX dL_law_542 hf (fun x88 hf => ?_)
          refine kx_cv2i K c_L_116 ⟨by decide, by decide, rfl, rfl, (show k0 + 1 ≤ 601024 by omega), (show n0 + 6 ≤ 7293034 by omega)⟩ (Nat.le_of_ble_eq_true rfl) dL_law_543 hf (fun _ _ _ h => k_X7_sent h) (fun x90 σ89 hf => ?_)
          refine kx_istore K [(6, .int x90), (5, .int x86), (0, .ref b), (1, .ref v7), (2, .ref v8), (3, .ref v9), (4, .int v10)] dL_law_546 (by decide) rfl ?_
          refine kx_aload_n K dL_law_548 rfl 4 rfl ?_
          refine kx_cv0i K c_L_92 ⟨by decide, by decide, rfl, rfl, (show k0 + 1 ≤ 601024 by omega), (show n0 + 6 ≤ 7293034 by omega)⟩ (Nat.le_of_ble_eq_true rfl) dL_law_549 hf (fun _ _ _ h => k_X7_thrown h) (fun x92 σ91 hf => ?_)
          refine kx_iload K dL_law_552 1 rfl ?_
          refine kx_icmp_eq K 559 hf dL_law_554 (by decide) (fun hf => ?_) (fun hf => ?_)
          · refine kx_iload K dL_law_559 1 rfl ?_
            refine kx_if_ne K 576 hf dL_law_561 (by decide) (fun hf => ?_) (fun hf => ?_)
            · refine kx_goto K 1569 dL_law_576 (by decide) ?_
              refine kx_iinc (v := (v10 + 6)) K [(4, .int (v10 + 6)), (6, .int x90), (5, .int x86), (0, .ref b), (1, .ref v7), (2, .ref v8), (3, .ref v9)] dL_law_1569 6 rfl rfl (by decide) rfl ?_
              refine kx_goto K 23 dL_law_1572 (by decide) ?_
              refine kx_sub [(0, .ref b), (1, .ref v7), (2, .ref v8), (3, .ref v9), (4, .int (v10 + 6))] [3, 4, 5, 6, 0] rfl ?_
              refine kx_wd (k' := k0 + 2) (n' := n0 + 12) (by omega) (by omega) ?_
              exact ih23 (k0 + 2) (n0 + 12) _ _ _ _ _ (by omega) (by omega) hf
            · refine kx_aload_n K dL_law_564 rfl 5 rfl ?_
              refine kx_iconst (v := 0) K dL_law_565 (by decide) ?_
              refine kx_al K dL_law_566 hf (fun x93 hf => ?_)
              refine kx_iload K dL_law_567 0 rfl ?_
              refine kx_i2l K dL_law_569 ?_
              refine kx_lcmp K dL_law_570 ?_
              refine kx_if_eq K 576 hf dL_law_571 (by decide) (fun hf => ?_) (fun hf => ?_)
              · refine kx_goto K 1569 dL_law_576 (by decide) ?_
                refine kx_iinc (v := (v10 + 6)) K [(4, .int (v10 + 6)), (6, .int x90), (5, .int x86), (0, .ref b), (1, .ref v7), (2, .ref v8), (3, .ref v9)] dL_law_1569 6 rfl rfl (by decide) rfl ?_
                refine kx_goto K 23 dL_law_1572 (by decide) ?_
                refine kx_sub [(0, .ref b), (1, .ref v7), (2, .ref v8), (3, .ref v9), (4, .int (v10 + 6))] [3, 4, 5, 6, 0] rfl ?_
                refine kx_wd (k' := k0 + 2) (n' := n0 + 12) (by omega) (by omega) ?_
                exact ih23 (k0 + 2) (n0 + 12) _ _ _ _ _ (by omega) (by omega) hf
              · refine kx_iconst (v := 0) K dL_law_574 (by decide) ?_
                cases hf
          · refine kx_iconst (v := 0) K dL_law_557 (by decide) ?_
            cases hf
        refine kx_swI (c := 8) K 579 dL_law_40 (by decide) (by decide) rfl (by decide) hf (fun hf => ?_) (fun h104 hf => ?_)
        · refine kx_aload_n K dL_law_579 rfl 1 rfl ?_
          refine kx_aload_n K dL_law_580 rfl 0 rfl ?_
          refine kx_iload K dL_law_581 4 rfl ?_
          refine kx_iconst (v := 1) K dL_law_583 (by decide) ?_
          refine kx_iadd K dL_law_584 ?_
          refine kx_sld K hX dL_law_585 hf (fun x95 hf => ?_)
          refine kx_aload_n K dL_law_586 rfl 3 rfl ?_
          refine kx_csw (k' := k0 + 1) (n' := n0 + 6) K [.ref v7, .int x95, .ref v9] c_L_117 ⟨by decide, by decide, rfl, rfl, (show k0 + 1 ≤ 601024 by omega), (show n0 + 6 ≤ 7293034 by omega)⟩ rfl rfl (Nat.le_of_ble_eq_true rfl) dL_law_587 (fun _ _ _ _ => trivial) hf (fun _ _ _ h => k_L_breaks h) (fun x97 σ96 hf => ?_)
          refine kx_istore K [(5, .int x97), (0, .ref b), (1, .ref v7), (2, .ref v8), (3, .ref v9), (4, .int v10)] dL_law_590 (by decide) rfl ?_
          refine kx_aload_n K dL_law_592 rfl 3 rfl ?_
          refine kx_aload_n K dL_law_593 rfl 1 rfl ?_
          refine kx_iload K dL_law_594 5 rfl ?_
          refine kx_iconst (v := 1) K dL_law_596 (by decide) ?_
          refine kx_iadd K dL_law_597 ?_
          refine kx_sld K hX dL_law_598 hf (fun x98 hf => ?_)
          refine kx_cv1i K c_L_119 ⟨by decide, by decide, rfl, rfl, (show k0 + 1 ≤ 601024 by omega), (show n0 + 6 ≤ 7293034 by omega)⟩ (Nat.le_of_ble_eq_true rfl) dL_law_599 hf (fun _ _ _ h => k_X7_breaks h) (fun x100 σ99 hf => ?_)
          refine kx_istore K [(6, .int x100), (5, .int x97), (0, .ref b), (1, .ref v7), (2, .ref v8), (3, .ref v9), (4, .int v10)] dL_law_602 (by decide) rfl ?_
          refine kx_aload_n K dL_law_604 rfl 4 rfl ?_
          refine kx_cv0i K c_L_92 ⟨by decide, by decide, rfl, rfl, (show k0 + 1 ≤ 601024 by omega), (show n0 + 6 ≤ 7293034 by omega)⟩ (Nat.le_of_ble_eq_true rfl) dL_law_605 hf (fun _ _ _ h => k_X7_thrown h) (fun x102 σ101 hf => ?_)
          refine kx_iload K dL_law_608 1 rfl ?_
          refine kx_icmp_eq K 615 hf dL_law_610 (by decide) (fun hf => ?_) (fun hf => ?_)
          · refine kx_iload K dL_law_615 1 rfl ?_
            refine kx_if_ne K 639 hf dL_law_617 (by decide) (fun hf => ?_) (fun hf => ?_)
            · refine kx_goto K 1569 dL_law_639 (by decide) ?_
              refine kx_iinc (v := (v10 + 6)) K [(4, .int (v10 + 6)), (6, .int x100), (5, .int x97), (0, .ref b), (1, .ref v7), (2, .ref v8), (3, .ref v9)] dL_law_1569 6 rfl rfl (by decide) rfl ?_
              refine kx_goto K 23 dL_law_1572 (by decide) ?_
              refine kx_sub [(0, .ref b), (1, .ref v7), (2, .ref v8), (3, .ref v9), (4, .int (v10 + 6))] [3, 4, 5, 6, 0] rfl ?_
              refine kx_wd (k' := k0 + 2) (n' := n0 + 12) (by omega) (by omega) ?_
              exact ih23 (k0 + 2) (n0 + 12) _ _ _ _ _ (by omega) (by omega) hf
            · refine kx_aload_n K dL_law_620 rfl 5 rfl ?_
              refine kx_iconst (v := 0) K dL_law_621 (by decide) ?_
              refine kx_al K dL_law_622 hf (fun x103 hf => ?_)
              refine kx_iload K dL_law_623 0 rfl ?_
              refine kx_if_eq K 632 hf dL_law_625 (by decide) (fun hf => ?_) (fun hf => ?_)
              · refine kx_lconst (v := 0) K dL_law_632 (by decide) ?_
                refine kx_sub [(0, .ref b), (1, .ref v7), (2, .ref v8), (3, .ref v9), (4, .int v10)] [2, 3, 4, 5, 6] rfl ?_
                refine kx_wd (k' := k0 + 2) (n' := n0 + 12) (by omega) (by omega) ?_
                exact B633 _ _ _ _ _ _ _ hf
              · refine kx_lconst (v := 1) K dL_law_628 (by decide) ?_
                refine kx_goto K 633 dL_law_629 (by decide) ?_
                refine kx_sub [(0, .ref b), (1, .ref v7), (2, .ref v8), (3, .ref v9), (4, .int v10)] [2, 3, 4, 5, 6] rfl ?_
                refine kx_wd (k' := k0 + 2) (n' := n0 + 12) (by omega) (by omega) ?_
                exact B633 _ _ _ _ _ _ _ hf
          · refine kx_iconst (v := 0) K dL_law_613 (by decide) ?_
            cases hf
        refine kx_swI (c := 9) K 642 dL_law_40 (by decide) (by decide) rfl (by decide) hf (fun hf => ?_) (fun h113 hf => ?_)
        · refine kx_aload_n K dL_law_642 rfl 1 rfl ?_
          refine kx_aload_n K dL_law_643 rfl 0 rfl ?_
          refine kx_iload K dL_law_644 4 rfl ?_
          refine kx_iconst (v := 1) K dL_law_646 (by decide) ?_
          refine kx_iadd K dL_law_647 ?_
          refine kx_sld K hX dL_law_648 hf (fun x105 hf => ?_)
          refine kx_aload_n K dL_law_649 rfl 0 rfl ?_
          refine kx_iload K dL_law_650 4 rfl ?_
          refine kx_iconst (v := 2) K dL_law_652 (by decide) ?_
          refine kx_iadd K dL_law_653 ?_
          refine kx_sld K hX dL_law_654 hf (fun x106 hf => ?_)
          refine kx_cv2i K c_L_120 ⟨by decide, by decide, rfl, rfl, (show k0 ≤ 601024 by omega), (show n0 ≤ 7293034 by omega)⟩ (Nat.le_of_ble_eq_true rfl) dL_law_655 hf (fun _ _ _ h => k_X6_reaches h) (fun x108 σ107 hf => ?_)
          refine kx_aload_n K dL_law_658 rfl 2 rfl ?_
          refine kx_aload_n K dL_law_659 rfl 0 rfl ?_
          refine kx_iload K dL_law_660 4 rfl ?_
          refine kx_iconst (v := 1) K dL_law_662 (by decide) ?_
          refine kx_iadd K dL_law_663 ?_
          refine kx_sld K hX dL_law_664 hf (fun x109 hf => ?_)
          refine kx_aload_n K dL_law_665 rfl 0 rfl ?_
          refine kx_iload K dL_law_666 4 rfl ?_
          refine kx_iconst (v := 2) K dL_law_668 (by decide) ?_
          refine kx_iadd K dL_law_669 ?_
          refine kx_sld K hX dL_law_670 hf (fun x110 hf => ?_)
          refine kx_cv2i K c_L_123 ⟨by decide, by decide, rfl, rfl, (show k0 ≤ 601024 by omega), (show n0 ≤ 7293034 by omega)⟩ (Nat.le_of_ble_eq_true rfl) dL_law_671 hf (fun _ _ _ h => k_X7_reaches h) (fun x112 σ111 hf => ?_)
          refine kx_icmp_eq K 1569 hf dL_law_674 (by decide) (fun hf => ?_) (fun hf => ?_)
          · refine kx_iinc (v := (v10 + 6)) K [(4, .int (v10 + 6)), (0, .ref b), (1, .ref v7), (2, .ref v8), (3, .ref v9)] dL_law_1569 4 rfl rfl (by decide) rfl ?_
            refine kx_goto K 23 dL_law_1572 (by decide) ?_
            refine kx_sub [(0, .ref b), (1, .ref v7), (2, .ref v8), (3, .ref v9), (4, .int (v10 + 6))] [1, 2, 3, 4, 0] rfl ?_
            refine kx_wd (k' := k0 + 2) (n' := n0 + 12) (by omega) (by omega) ?_
            exact ih23 (k0 + 2) (n0 + 12) _ _ _ _ _ (by omega) (by omega) hf
          · refine kx_iconst (v := 0) K dL_law_677 (by decide) ?_
            cases hf
        refine kx_swI (c := 10) K 679 dL_law_40 (by decide) (by decide) rfl (by decide) hf (fun hf => ?_) (fun h125 hf => ?_)
        · refine kx_aload_n K dL_law_679 rfl 1 rfl ?_
          refine kx_aload_n K dL_law_680 rfl 0 rfl ?_
          refine kx_iload K dL_law_681 4 rfl ?_
          refine kx_iconst (v := 1) K dL_law_683 (by decide) ?_
          refine kx_iadd K dL_law_684 ?_
          refine kx_sld K hX dL_law_685 hf (fun x114 hf => ?_)
          refine kx_aload_n K dL_law_686 rfl 0 rfl ?_
          refine kx_iload K dL_law_687 4 rfl ?_
          refine kx_iconst (v := 2) K dL_law_689 (by decide) ?_
          refine kx_iadd K dL_law_690 ?_
          refine kx_sld K hX dL_law_691 hf (fun x115 hf => ?_)
          refine kx_aload_n K dL_law_692 rfl 3 rfl ?_
          refine kx_csw (k' := k0 + 2) (n' := n0 + 12) K [.ref v7, .int x114, .int x115, .ref v9] c_L_124 ⟨by decide, by decide, rfl, rfl, (show k0 + 2 ≤ 601024 by omega), (show n0 + 12 ≤ 7293034 by omega)⟩ rfl rfl (Nat.le_of_ble_eq_true rfl) dL_law_693 (fun _ _ _ _ => trivial) hf (fun _ _ _ h => k_L_matters h) (fun x117 σ116 hf => ?_)
          refine kx_istore K [(5, .int x117), (0, .ref b), (1, .ref v7), (2, .ref v8), (3, .ref v9), (4, .int v10)] dL_law_696 (by decide) rfl ?_
          refine kx_aload_n K dL_law_698 rfl 3 rfl ?_
          refine kx_aload_n K dL_law_699 rfl 1 rfl ?_
          refine kx_iload K dL_law_700 5 rfl ?_
          refine kx_iconst (v := 1) K dL_law_702 (by decide) ?_
          refine kx_iadd K dL_law_703 ?_
          refine kx_sld K hX dL_law_704 hf (fun x118 hf => ?_)
          refine kx_aload_n K dL_law_705 rfl 1 rfl ?_
          refine kx_iload K dL_law_706 5 rfl ?_
          refine kx_iconst (v := 2) K dL_law_708 (by decide) ?_
          refine kx_iadd K dL_law_709 ?_
          refine kx_sld K hX dL_law_710 hf (fun x119 hf => ?_)
          refine kx_cv2i K c_L_126 ⟨by decide, by decide, rfl, rfl, (show k0 + 2 ≤ 601024 by omega), (show n0 + 12 ≤ 7293034 by omega)⟩ (Nat.le_of_ble_eq_true rfl) dL_law_711 hf (fun _ _ _ h => k_X7_matters h) (fun x121 σ120 hf => ?_)
          refine kx_istore K [(6, .int x121), (5, .int x117), (0, .ref b), (1, .ref v7), (2, .ref v8), (3, .ref v9), (4, .int v10)] dL_law_714 (by decide) rfl ?_
          refine kx_aload_n K dL_law_716 rfl 4 rfl ?_
          refine kx_cv0i K c_L_92 ⟨by decide, by decide, rfl, rfl, (show k0 + 2 ≤ 601024 by omega), (show n0 + 12 ≤ 7293034 by omega)⟩ (Nat.le_of_ble_eq_true rfl) dL_law_717 hf (fun _ _ _ h => k_X7_thrown h) (fun x123 σ122 hf => ?_)
          refine kx_iload K dL_law_720 1 rfl ?_
          refine kx_icmp_eq K 727 hf dL_law_722 (by decide) (fun hf => ?_) (fun hf => ?_)
          · refine kx_iload K dL_law_727 1 rfl ?_
            refine kx_if_ne K 751 hf dL_law_729 (by decide) (fun hf => ?_) (fun hf => ?_)
            · refine kx_goto K 1569 dL_law_751 (by decide) ?_
              refine kx_iinc (v := (v10 + 6)) K [(4, .int (v10 + 6)), (6, .int x121), (5, .int x117), (0, .ref b), (1, .ref v7), (2, .ref v8), (3, .ref v9)] dL_law_1569 6 rfl rfl (by decide) rfl ?_
              refine kx_goto K 23 dL_law_1572 (by decide) ?_
              refine kx_sub [(0, .ref b), (1, .ref v7), (2, .ref v8), (3, .ref v9), (4, .int (v10 + 6))] [3, 4, 5, 6, 0] rfl ?_
              refine kx_wd (k' := k0 + 2) (n' := n0 + 12) (by omega) (by omega) ?_
              exact ih23 (k0 + 2) (n0 + 12) _ _ _ _ _ (by omega) (by omega) hf
            · refine kx_aload_n K dL_law_732 rfl 5 rfl ?_
              refine kx_iconst (v := 0) K dL_law_733 (by decide) ?_
              refine kx_al K dL_law_734 hf (fun x124 hf => ?_)
              refine kx_iload K dL_law_735 0 rfl ?_
              refine kx_if_eq K 744 hf dL_law_737 (by decide) (fun hf => ?_) (fun hf => ?_)
              · refine kx_lconst (v := 0) K dL_law_744 (by decide) ?_
                refine kx_sub [(0, .ref b), (1, .ref v7), (2, .ref v8), (3, .ref v9), (4, .int v10)] [2, 3, 4, 5, 6] rfl ?_
                refine kx_wd (k' := k0 + 2) (n' := n0 + 12) (by omega) (by omega) ?_
                exact B745 _ _ _ _ _ _ _ hf
              · refine kx_lconst (v := 1) K dL_law_740 (by decide) ?_
                refine kx_goto K 745 dL_law_741 (by decide) ?_
                refine kx_sub [(0, .ref b), (1, .ref v7), (2, .ref v8), (3, .ref v9), (4, .int v10)] [2, 3, 4, 5, 6] rfl ?_
                refine kx_wd (k' := k0 + 2) (n' := n0 + 12) (by omega) (by omega) ?_
                exact B745 _ _ _ _ _ _ _ hf
          · refine kx_iconst (v := 0) K dL_law_725 (by decide) ?_
            cases hf
        refine kx_swI (c := 11) K 754 dL_law_40 (by decide) (by decide) rfl (by decide) hf (fun hf => ?_) (fun h135 hf => ?_)
        · refine kx_aload_n K dL_law_754 rfl 1 rfl ?_
          refine kx_aload_n K dL_law_755 rfl 0 rfl ?_
          refine kx_iload K dL_law_756 4 rfl ?_
          refine kx_iconst (v := 1) K dL_law_758 (by decide) ?_
          refine kx_iadd K dL_law_759 ?_
          refine kx_sld K hX dL_law_760 hf (fun x126 hf => ?_)
          refine kx_aload_n K dL_law_761 rfl 3 rfl ?_
          refine kx_csw (k' := k0 + 1) (n' := n0 + 6) K [.ref v7, .int x126, .ref v9] c_L_127 ⟨by decide, by decide, rfl, rfl, (show k0 + 1 ≤ 601024 by omega), (show n0 + 6 ≤ 7293034 by omega)⟩ rfl rfl (Nat.le_of_ble_eq_true rfl) dL_law_762 (fun _ _ _ _ => trivial) hf (fun _ _ _ h => k_L_smallest h) (fun x128 σ127 hf => ?_)
          refine kx_istore K [(5, .int x128), (0, .ref b), (1, .ref v7), (2, .ref v8), (3, .ref v9), (4, .int v10)] dL_law_765 (by decide) rfl ?_
          refine kx_aload_n K dL_law_767 rfl 3 rfl ?_
          refine kx_aload_n K dL_law_768 rfl 1 rfl ?_
          refine kx_iload K dL_law_769 5 rfl ?_
          refine kx_iconst (v := 1) K dL_law_771 (by decide) ?_
          refine kx_iadd K dL_law_772 ?_
          refine kx_sld K hX dL_law_773 hf (fun x129 hf => ?_)
          refine kx_cv1i K c_L_129 ⟨by decide, by decide, rfl, rfl, (show k0 + 1 ≤ 601024 by omega), (show n0 + 6 ≤ 7293034 by omega)⟩ (Nat.le_of_ble_eq_true rfl) dL_law_774 hf (fun _ _ _ h => k_X7_smallest h) (fun x131 σ130 hf => ?_)
          refine kx_istore K [(6, .int x131), (5, .int x128), (0, .ref b), (1, .ref v7), (2, .ref v8), (3, .ref v9), (4, .int v10)] dL_law_777 (by decide) rfl ?_
          refine kx_aload_n K dL_law_779 rfl 4 rfl ?_
          refine kx_cv0i K c_L_92 ⟨by decide, by decide, rfl, rfl, (show k0 + 1 ≤ 601024 by omega), (show n0 + 6 ≤ 7293034 by omega)⟩ (Nat.le_of_ble_eq_true rfl) dL_law_780 hf (fun _ _ _ h => k_X7_thrown h) (fun x133 σ132 hf => ?_)
          refine kx_iload K dL_law_783 1 rfl ?_
          refine kx_icmp_eq K 790 hf dL_law_785 (by decide) (fun hf => ?_) (fun hf => ?_)
          · refine kx_iload K dL_law_790 1 rfl ?_
            refine kx_if_ne K 807 hf dL_law_792 (by decide) (fun hf => ?_) (fun hf => ?_)
            · refine kx_goto K 1569 dL_law_807 (by decide) ?_
              refine kx_iinc (v := (v10 + 6)) K [(4, .int (v10 + 6)), (6, .int x131), (5, .int x128), (0, .ref b), (1, .ref v7), (2, .ref v8), (3, .ref v9)] dL_law_1569 6 rfl rfl (by decide) rfl ?_
              refine kx_goto K 23 dL_law_1572 (by decide) ?_
              refine kx_sub [(0, .ref b), (1, .ref v7), (2, .ref v8), (3, .ref v9), (4, .int (v10 + 6))] [3, 4, 5, 6, 0] rfl ?_
              refine kx_wd (k' := k0 + 2) (n' := n0 + 12) (by omega) (by omega) ?_
              exact ih23 (k0 + 2) (n0 + 12) _ _ _ _ _ (by omega) (by omega) hf
            · refine kx_aload_n K dL_law_795 rfl 5 rfl ?_
              refine kx_iconst (v := 0) K dL_law_796 (by decide) ?_
              refine kx_al K dL_law_797 hf (fun x134 hf => ?_)
              refine kx_iload K dL_law_798 0 rfl ?_
              refine kx_i2l K dL_law_800 ?_
              refine kx_lcmp K dL_law_801 ?_
              refine kx_if_eq K 807 hf dL_law_802 (by decide) (fun hf => ?_) (fun hf => ?_)
              · refine kx_goto K 1569 dL_law_807 (by decide) ?_
                refine kx_iinc (v := (v10 + 6)) K [(4, .int (v10 + 6)), (6, .int x131), (5, .int x128), (0, .ref b), (1, .ref v7), (2, .ref v8), (3, .ref v9)] dL_law_1569 6 rfl rfl (by decide) rfl ?_
                refine kx_goto K 23 dL_law_1572 (by decide) ?_
                refine kx_sub [(0, .ref b), (1, .ref v7), (2, .ref v8), (3, .ref v9), (4, .int (v10 + 6))] [3, 4, 5, 6, 0] rfl ?_
                refine kx_wd (k' := k0 + 2) (n' := n0 + 12) (by omega) (by omega) ?_
                exact ih23 (k0 + 2) (n0 + 12) _ _ _ _ _ (by omega) (by omega) hf
              · refine kx_iconst (v := 0) K dL_law_805 (by decide) ?_
                cases hf
          · refine kx_iconst (v := 0) K dL_law_788 (by decide) ?_
            cases hf
        refine kx_swI (c := 12) K 810 dL_law_40 (by decide) (by decide) rfl (by decide) hf (fun hf => ?_) (fun h145 hf => ?_)
        · refine kx_aload_n K dL_law_810 rfl 1 rfl ?_
          refine kx_aload_n K dL_law_811 rfl 0 rfl ?_
          refine kx_iload K dL_law_812 4 rfl ?_
          refine kx_iconst (v := 1) K dL_law_814 (by decide) ?_
          refine kx_iadd K dL_law_815 ?_
          refine kx_sld K hX dL_law_816 hf (fun x136 hf => ?_)
          refine kx_aload_n K dL_law_817 rfl 3 rfl ?_
          refine kx_csw (k' := k0 + 1) (n' := n0 + 6) K [.ref v7, .int x136, .ref v9] c_L_130 ⟨by decide, by decide, rfl, rfl, (show k0 + 1 ≤ 601024 by omega), (show n0 + 6 ≤ 7293034 by omega)⟩ rfl rfl (Nat.le_of_ble_eq_true rfl) dL_law_818 (fun _ _ _ _ => trivial) hf (fun _ _ _ h => k_L_core h) (fun x138 σ137 hf => ?_)
          refine kx_istore K [(5, .int x138), (0, .ref b), (1, .ref v7), (2, .ref v8), (3, .ref v9), (4, .int v10)] dL_law_821 (by decide) rfl ?_
          refine kx_aload_n K dL_law_823 rfl 3 rfl ?_
          refine kx_aload_n K dL_law_824 rfl 1 rfl ?_
          refine kx_iload K dL_law_825 5 rfl ?_
          refine kx_iconst (v := 1) K dL_law_827 (by decide) ?_
          refine kx_iadd K dL_law_828 ?_
          refine kx_sld K hX dL_law_829 hf (fun x139 hf => ?_)
          refine kx_cv1i K c_L_132 ⟨by decide, by decide, rfl, rfl, (show k0 + 1 ≤ 601024 by omega), (show n0 + 6 ≤ 7293034 by omega)⟩ (Nat.le_of_ble_eq_true rfl) dL_law_830 hf (fun _ _ _ h => k_X7_core h) (fun x141 σ140 hf => ?_)
          refine kx_istore K [(6, .int x141), (5, .int x138), (0, .ref b), (1, .ref v7), (2, .ref v8), (3, .ref v9), (4, .int v10)] dL_law_833 (by decide) rfl ?_
          refine kx_aload_n K dL_law_835 rfl 4 rfl ?_
          refine kx_cv0i K c_L_92 ⟨by decide, by decide, rfl, rfl, (show k0 + 1 ≤ 601024 by omega), (show n0 + 6 ≤ 7293034 by omega)⟩ (Nat.le_of_ble_eq_true rfl) dL_law_836 hf (fun _ _ _ h => k_X7_thrown h) (fun x143 σ142 hf => ?_)
          refine kx_iload K dL_law_839 1 rfl ?_
          refine kx_icmp_eq K 846 hf dL_law_841 (by decide) (fun hf => ?_) (fun hf => ?_)
          · refine kx_iload K dL_law_846 1 rfl ?_
            refine kx_if_ne K 863 hf dL_law_848 (by decide) (fun hf => ?_) (fun hf => ?_)
            · refine kx_goto K 1569 dL_law_863 (by decide) ?_
              refine kx_iinc (v := (v10 + 6)) K [(4, .int (v10 + 6)), (6, .int x141), (5, .int x138), (0, .ref b), (1, .ref v7), (2, .ref v8), (3, .ref v9)] dL_law_1569 6 rfl rfl (by decide) rfl ?_
              refine kx_goto K 23 dL_law_1572 (by decide) ?_
              refine kx_sub [(0, .ref b), (1, .ref v7), (2, .ref v8), (3, .ref v9), (4, .int (v10 + 6))] [3, 4, 5, 6, 0] rfl ?_
              refine kx_wd (k' := k0 + 2) (n' := n0 + 12) (by omega) (by omega) ?_
              exact ih23 (k0 + 2) (n0 + 12) _ _ _ _ _ (by omega) (by omega) hf
            · refine kx_aload_n K dL_law_851 rfl 5 rfl ?_
              refine kx_iconst (v := 0) K dL_law_852 (by decide) ?_
              refine kx_al K dL_law_853 hf (fun x144 hf => ?_)
              refine kx_iload K dL_law_854 0 rfl ?_
              refine kx_i2l K dL_law_856 ?_
              refine kx_lcmp K dL_law_857 ?_
              refine kx_if_eq K 863 hf dL_law_858 (by decide) (fun hf => ?_) (fun hf => ?_)
              · refine kx_goto K 1569 dL_law_863 (by decide) ?_
                refine kx_iinc (v := (v10 + 6)) K [(4, .int (v10 + 6)), (6, .int x141), (5, .int x138), (0, .ref b), (1, .ref v7), (2, .ref v8), (3, .ref v9)] dL_law_1569 6 rfl rfl (by decide) rfl ?_
                refine kx_goto K 23 dL_law_1572 (by decide) ?_
                refine kx_sub [(0, .ref b), (1, .ref v7), (2, .ref v8), (3, .ref v9), (4, .int (v10 + 6))] [3, 4, 5, 6, 0] rfl ?_
                refine kx_wd (k' := k0 + 2) (n' := n0 + 12) (by omega) (by omega) ?_
                exact ih23 (k0 + 2) (n0 + 12) _ _ _ _ _ (by omega) (by omega) hf
              · refine kx_iconst (v := 0) K dL_law_861 (by decide) ?_
                cases hf
          · refine kx_iconst (v := 0) K dL_law_844 (by decide) ?_
            cases hf
        refine kx_swI (c := 13) K 866 dL_law_40 (by decide) (by decide) rfl (by decide) hf (fun hf => ?_) (fun h157 hf => ?_)
        · refine kx_aload_n K dL_law_866 rfl 1 rfl ?_
          refine kx_aload_n K dL_law_867 rfl 0 rfl ?_
          refine kx_iload K dL_law_868 4 rfl ?_
          refine kx_iconst (v := 1) K dL_law_870 (by decide) ?_
          refine kx_iadd K dL_law_871 ?_
          refine kx_sld K hX dL_law_872 hf (fun x146 hf => ?_)
          refine kx_aload_n K dL_law_873 rfl 0 rfl ?_
          refine kx_iload K dL_law_874 4 rfl ?_
          refine kx_iconst (v := 2) K dL_law_876 (by decide) ?_
          refine kx_iadd K dL_law_877 ?_
          refine kx_sld K hX dL_law_878 hf (fun x147 hf => ?_)
          refine kx_aload_n K dL_law_879 rfl 3 rfl ?_
          refine kx_csw (k' := k0 + 2) (n' := n0 + 12) K [.ref v7, .int x146, .int x147, .ref v9] c_L_133 ⟨by decide, by decide, rfl, rfl, (show k0 + 2 ≤ 601024 by omega), (show n0 + 12 ≤ 7293034 by omega)⟩ rfl rfl (Nat.le_of_ble_eq_true rfl) dL_law_880 (fun _ _ _ _ => trivial) hf (fun _ _ _ h => k_L_leastAmount h) (fun x149 σ148 hf => ?_)
          refine kx_istore K [(5, .int x149), (0, .ref b), (1, .ref v7), (2, .ref v8), (3, .ref v9), (4, .int v10)] dL_law_883 (by decide) rfl ?_
          refine kx_aload_n K dL_law_885 rfl 3 rfl ?_
          refine kx_aload_n K dL_law_886 rfl 1 rfl ?_
          refine kx_iload K dL_law_887 5 rfl ?_
          refine kx_iconst (v := 1) K dL_law_889 (by decide) ?_
          refine kx_iadd K dL_law_890 ?_
          refine kx_sld K hX dL_law_891 hf (fun x150 hf => ?_)
          refine kx_aload_n K dL_law_892 rfl 1 rfl ?_
          refine kx_iload K dL_law_893 5 rfl ?_
          refine kx_iconst (v := 2) K dL_law_895 (by decide) ?_
          refine kx_iadd K dL_law_896 ?_
          refine kx_sld K hX dL_law_897 hf (fun x151 hf => ?_)
          refine kx_cv2i K c_L_135 ⟨by decide, by decide, rfl, rfl, (show k0 + 2 ≤ 601024 by omega), (show n0 + 12 ≤ 7293034 by omega)⟩ (Nat.le_of_ble_eq_true rfl) dL_law_898 hf (fun _ _ _ h => k_X7_leastAmount h) (fun x153 σ152 hf => ?_)
          refine kx_istore K [(6, .int x153), (5, .int x149), (0, .ref b), (1, .ref v7), (2, .ref v8), (3, .ref v9), (4, .int v10)] dL_law_901 (by decide) rfl ?_
          refine kx_aload_n K dL_law_903 rfl 4 rfl ?_
          refine kx_cv0i K c_L_92 ⟨by decide, by decide, rfl, rfl, (show k0 + 2 ≤ 601024 by omega), (show n0 + 12 ≤ 7293034 by omega)⟩ (Nat.le_of_ble_eq_true rfl) dL_law_904 hf (fun _ _ _ h => k_X7_thrown h) (fun x155 σ154 hf => ?_)
          refine kx_iload K dL_law_907 1 rfl ?_
          refine kx_icmp_eq K 914 hf dL_law_909 (by decide) (fun hf => ?_) (fun hf => ?_)
          · refine kx_iload K dL_law_914 1 rfl ?_
            refine kx_if_ne K 931 hf dL_law_916 (by decide) (fun hf => ?_) (fun hf => ?_)
            · refine kx_goto K 1569 dL_law_931 (by decide) ?_
              refine kx_iinc (v := (v10 + 6)) K [(4, .int (v10 + 6)), (6, .int x153), (5, .int x149), (0, .ref b), (1, .ref v7), (2, .ref v8), (3, .ref v9)] dL_law_1569 6 rfl rfl (by decide) rfl ?_
              refine kx_goto K 23 dL_law_1572 (by decide) ?_
              refine kx_sub [(0, .ref b), (1, .ref v7), (2, .ref v8), (3, .ref v9), (4, .int (v10 + 6))] [3, 4, 5, 6, 0] rfl ?_
              refine kx_wd (k' := k0 + 2) (n' := n0 + 12) (by omega) (by omega) ?_
              exact ih23 (k0 + 2) (n0 + 12) _ _ _ _ _ (by omega) (by omega) hf
            · refine kx_aload_n K dL_law_919 rfl 5 rfl ?_
              refine kx_iconst (v := 0) K dL_law_920 (by decide) ?_
              refine kx_al K dL_law_921 hf (fun x156 hf => ?_)
              refine kx_iload K dL_law_922 0 rfl ?_
              refine kx_i2l K dL_law_924 ?_
              refine kx_lcmp K dL_law_925 ?_
              refine kx_if_eq K 931 hf dL_law_926 (by decide) (fun hf => ?_) (fun hf => ?_)
              · refine kx_goto K 1569 dL_law_931 (by decide) ?_
                refine kx_iinc (v := (v10 + 6)) K [(4, .int (v10 + 6)), (6, .int x153), (5, .int x149), (0, .ref b), (1, .ref v7), (2, .ref v8), (3, .ref v9)] dL_law_1569 6 rfl rfl (by decide) rfl ?_
                refine kx_goto K 23 dL_law_1572 (by decide) ?_
                refine kx_sub [(0, .ref b), (1, .ref v7), (2, .ref v8), (3, .ref v9), (4, .int (v10 + 6))] [3, 4, 5, 6, 0] rfl ?_
                refine kx_wd (k' := k0 + 2) (n' := n0 + 12) (by omega) (by omega) ?_
                exact ih23 (k0 + 2) (n0 + 12) _ _ _ _ _ (by omega) (by omega) hf
              · refine kx_iconst (v := 0) K dL_law_929 (by decide) ?_
                cases hf
          · refine kx_iconst (v := 0) K dL_law_912 (by decide) ?_
            cases hf
        refine kx_swI (c := 14) K 934 dL_law_40 (by decide) (by decide) rfl (by decide) hf (fun hf => ?_) (fun h169 hf => ?_)
        · refine kx_aload_n K dL_law_934 rfl 1 rfl ?_
          refine kx_aload_n K dL_law_935 rfl 0 rfl ?_
          refine kx_iload K dL_law_936 4 rfl ?_
          refine kx_iconst (v := 1) K dL_law_938 (by decide) ?_
          refine kx_iadd K dL_law_939 ?_
          refine kx_sld K hX dL_law_940 hf (fun x158 hf => ?_)
          refine kx_aload_n K dL_law_941 rfl 0 rfl ?_
          refine kx_iload K dL_law_942 4 rfl ?_
          refine kx_iconst (v := 2) K dL_law_944 (by decide) ?_
          refine kx_iadd K dL_law_945 ?_
          refine kx_sld K hX dL_law_946 hf (fun x159 hf => ?_)
          refine kx_aload_n K dL_law_947 rfl 3 rfl ?_
          refine kx_csw (k' := k0 + 2) (n' := n0 + 12) K [.ref v7, .int x158, .int x159, .ref v9] c_L_136 ⟨by decide, by decide, rfl, rfl, (show k0 + 2 ≤ 601024 by omega), (show n0 + 12 ≤ 7293034 by omega)⟩ rfl rfl (Nat.le_of_ble_eq_true rfl) dL_law_948 (fun _ _ _ _ => trivial) hf (fun _ _ _ h => k_L_attack h) (fun x161 σ160 hf => ?_)
          refine kx_istore K [(5, .int x161), (0, .ref b), (1, .ref v7), (2, .ref v8), (3, .ref v9), (4, .int v10)] dL_law_951 (by decide) rfl ?_
          refine kx_aload_n K dL_law_953 rfl 3 rfl ?_
          refine kx_aload_n K dL_law_954 rfl 1 rfl ?_
          refine kx_iload K dL_law_955 5 rfl ?_
          refine kx_iconst (v := 1) K dL_law_957 (by decide) ?_
          refine kx_iadd K dL_law_958 ?_
          refine kx_sld K hX dL_law_959 hf (fun x162 hf => ?_)
          refine kx_aload_n K dL_law_960 rfl 1 rfl ?_
          refine kx_iload K dL_law_961 5 rfl ?_
          refine kx_iconst (v := 2) K dL_law_963 (by decide) ?_
          refine kx_iadd K dL_law_964 ?_
          refine kx_sld K hX dL_law_965 hf (fun x163 hf => ?_)
          refine kx_cv2i K c_L_138 ⟨by decide, by decide, rfl, rfl, (show k0 + 2 ≤ 601024 by omega), (show n0 + 12 ≤ 7293034 by omega)⟩ (Nat.le_of_ble_eq_true rfl) dL_law_966 hf (fun _ _ _ h => k_X7_attack h) (fun x165 σ164 hf => ?_)
          refine kx_istore K [(6, .int x165), (5, .int x161), (0, .ref b), (1, .ref v7), (2, .ref v8), (3, .ref v9), (4, .int v10)] dL_law_969 (by decide) rfl ?_
          refine kx_aload_n K dL_law_971 rfl 4 rfl ?_
          refine kx_cv0i K c_L_92 ⟨by decide, by decide, rfl, rfl, (show k0 + 2 ≤ 601024 by omega), (show n0 + 12 ≤ 7293034 by omega)⟩ (Nat.le_of_ble_eq_true rfl) dL_law_972 hf (fun _ _ _ h => k_X7_thrown h) (fun x167 σ166 hf => ?_)
          refine kx_iload K dL_law_975 1 rfl ?_
          refine kx_icmp_eq K 982 hf dL_law_977 (by decide) (fun hf => ?_) (fun hf => ?_)
          · refine kx_iload K dL_law_982 1 rfl ?_
            refine kx_if_ne K 999 hf dL_law_984 (by decide) (fun hf => ?_) (fun hf => ?_)
            · refine kx_goto K 1569 dL_law_999 (by decide) ?_
              refine kx_iinc (v := (v10 + 6)) K [(4, .int (v10 + 6)), (6, .int x165), (5, .int x161), (0, .ref b), (1, .ref v7), (2, .ref v8), (3, .ref v9)] dL_law_1569 6 rfl rfl (by decide) rfl ?_
              refine kx_goto K 23 dL_law_1572 (by decide) ?_
              refine kx_sub [(0, .ref b), (1, .ref v7), (2, .ref v8), (3, .ref v9), (4, .int (v10 + 6))] [3, 4, 5, 6, 0] rfl ?_
              refine kx_wd (k' := k0 + 2) (n' := n0 + 12) (by omega) (by omega) ?_
              exact ih23 (k0 + 2) (n0 + 12) _ _ _ _ _ (by omega) (by omega) hf
            · refine kx_aload_n K dL_law_987 rfl 5 rfl ?_
              refine kx_iconst (v := 0) K dL_law_988 (by decide) ?_
              refine kx_al K dL_law_989 hf (fun x168 hf => ?_)
              refine kx_iload K dL_law_990 0 rfl ?_
              refine kx_i2l K dL_law_992 ?_
              refine kx_lcmp K dL_law_993 ?_
              refine kx_if_eq K 999 hf dL_law_994 (by decide) (fun hf => ?_) (fun hf => ?_)
              · refine kx_goto K 1569 dL_law_999 (by decide) ?_
                refine kx_iinc (v := (v10 + 6)) K [(4, .int (v10 + 6)), (6, .int x165), (5, .int x161), (0, .ref b), (1, .ref v7), (2, .ref v8), (3, .ref v9)] dL_law_1569 6 rfl rfl (by decide) rfl ?_
                refine kx_goto K 23 dL_law_1572 (by decide) ?_
                refine kx_sub [(0, .ref b), (1, .ref v7), (2, .ref v8), (3, .ref v9), (4, .int (v10 + 6))] [3, 4, 5, 6, 0] rfl ?_
                refine kx_wd (k' := k0 + 2) (n' := n0 + 12) (by omega) (by omega) ?_
                exact ih23 (k0 + 2) (n0 + 12) _ _ _ _ _ (by omega) (by omega) hf
              · refine kx_iconst (v := 0) K dL_law_997 (by decide) ?_
                cases hf
          · refine kx_iconst (v := 0) K dL_law_980 (by decide) ?_
            cases hf
        refine kx_swI (c := 15) K 1002 dL_law_40 (by decide) (by decide) rfl (by decide) hf (fun hf => ?_) (fun h179 hf => ?_)
        · refine kx_aload_n K dL_law_1002 rfl 1 rfl ?_
          refine kx_aload_n K dL_law_1003 rfl 0 rfl ?_
          refine kx_iload K dL_law_1004 4 rfl ?_
          refine kx_iconst (v := 1) K dL_law_1006 (by decide) ?_
          refine kx_iadd K dL_law_1007 ?_
          refine kx_sld K hX dL_law_1008 hf (fun x170 hf => ?_)
          refine kx_aload_n K dL_law_1009 rfl 3 rfl ?_
          refine kx_csw (k' := k0 + 1) (n' := n0 + 6) K [.ref v7, .int x170, .ref v9] c_L_139 ⟨by decide, by decide, rfl, rfl, (show k0 + 1 ≤ 601024 by omega), (show n0 + 6 ≤ 7293034 by omega)⟩ rfl rfl (Nat.le_of_ble_eq_true rfl) dL_law_1010 (fun _ _ _ _ => trivial) hf (fun _ _ _ h => k_L_weakPoints h) (fun x172 σ171 hf => ?_)
          refine kx_istore K [(5, .int x172), (0, .ref b), (1, .ref v7), (2, .ref v8), (3, .ref v9), (4, .int v10)] dL_law_1013 (by decide) rfl ?_
          refine kx_aload_n K dL_law_1015 rfl 3 rfl ?_
          refine kx_aload_n K dL_law_1016 rfl 1 rfl ?_
          refine kx_iload K dL_law_1017 5 rfl ?_
          refine kx_iconst (v := 1) K dL_law_1019 (by decide) ?_
          refine kx_iadd K dL_law_1020 ?_
          refine kx_sld K hX dL_law_1021 hf (fun x173 hf => ?_)
          refine kx_cv1i K c_L_141 ⟨by decide, by decide, rfl, rfl, (show k0 + 1 ≤ 601024 by omega), (show n0 + 6 ≤ 7293034 by omega)⟩ (Nat.le_of_ble_eq_true rfl) dL_law_1022 hf (fun _ _ _ h => k_X7_weakPoints h) (fun x175 σ174 hf => ?_)
          refine kx_istore K [(6, .int x175), (5, .int x172), (0, .ref b), (1, .ref v7), (2, .ref v8), (3, .ref v9), (4, .int v10)] dL_law_1025 (by decide) rfl ?_
          refine kx_aload_n K dL_law_1027 rfl 4 rfl ?_
          refine kx_cv0i K c_L_92 ⟨by decide, by decide, rfl, rfl, (show k0 + 1 ≤ 601024 by omega), (show n0 + 6 ≤ 7293034 by omega)⟩ (Nat.le_of_ble_eq_true rfl) dL_law_1028 hf (fun _ _ _ h => k_X7_thrown h) (fun x177 σ176 hf => ?_)
          refine kx_iload K dL_law_1031 1 rfl ?_
          refine kx_icmp_eq K 1038 hf dL_law_1033 (by decide) (fun hf => ?_) (fun hf => ?_)
          · refine kx_iload K dL_law_1038 1 rfl ?_
            refine kx_if_ne K 1055 hf dL_law_1040 (by decide) (fun hf => ?_) (fun hf => ?_)
            · refine kx_goto K 1569 dL_law_1055 (by decide) ?_
              refine kx_iinc (v := (v10 + 6)) K [(4, .int (v10 + 6)), (6, .int x175), (5, .int x172), (0, .ref b), (1, .ref v7), (2, .ref v8), (3, .ref v9)] dL_law_1569 6 rfl rfl (by decide) rfl ?_
              refine kx_goto K 23 dL_law_1572 (by decide) ?_
              refine kx_sub [(0, .ref b), (1, .ref v7), (2, .ref v8), (3, .ref v9), (4, .int (v10 + 6))] [3, 4, 5, 6, 0] rfl ?_
              refine kx_wd (k' := k0 + 2) (n' := n0 + 12) (by omega) (by omega) ?_
              exact ih23 (k0 + 2) (n0 + 12) _ _ _ _ _ (by omega) (by omega) hf
            · refine kx_aload_n K dL_law_1043 rfl 5 rfl ?_
              refine kx_iconst (v := 0) K dL_law_1044 (by decide) ?_
              refine kx_al K dL_law_1045 hf (fun x178 hf => ?_)
              refine kx_iload K dL_law_1046 0 rfl ?_
              refine kx_i2l K dL_law_1048 ?_
              refine kx_lcmp K dL_law_1049 ?_
              refine kx_if_eq K 1055 hf dL_law_1050 (by decide) (fun hf => ?_) (fun hf => ?_)
              · refine kx_goto K 1569 dL_law_1055 (by decide) ?_
                refine kx_iinc (v := (v10 + 6)) K [(4, .int (v10 + 6)), (6, .int x175), (5, .int x172), (0, .ref b), (1, .ref v7), (2, .ref v8), (3, .ref v9)] dL_law_1569 6 rfl rfl (by decide) rfl ?_
                refine kx_goto K 23 dL_law_1572 (by decide) ?_
                refine kx_sub [(0, .ref b), (1, .ref v7), (2, .ref v8), (3, .ref v9), (4, .int (v10 + 6))] [3, 4, 5, 6, 0] rfl ?_
                refine kx_wd (k' := k0 + 2) (n' := n0 + 12) (by omega) (by omega) ?_
                exact ih23 (k0 + 2) (n0 + 12) _ _ _ _ _ (by omega) (by omega) hf
              · refine kx_iconst (v := 0) K dL_law_1053 (by decide) ?_
                cases hf
          · refine kx_iconst (v := 0) K dL_law_1036 (by decide) ?_
            cases hf
        refine kx_swI (c := 16) K 1058 dL_law_40 (by decide) (by decide) rfl (by decide) hf (fun hf => ?_) (fun h189 hf => ?_)
        · refine kx_aload_n K dL_law_1058 rfl 1 rfl ?_
          refine kx_aload_n K dL_law_1059 rfl 0 rfl ?_
          refine kx_iload K dL_law_1060 4 rfl ?_
          refine kx_iconst (v := 1) K dL_law_1062 (by decide) ?_
          refine kx_iadd K dL_law_1063 ?_
          refine kx_sld K hX dL_law_1064 hf (fun x180 hf => ?_)
          refine kx_aload_n K dL_law_1065 rfl 3 rfl ?_
          refine kx_csw (k' := k0 + 1) (n' := n0 + 6) K [.ref v7, .int x180, .ref v9] c_L_142 ⟨by decide, by decide, rfl, rfl, (show k0 + 1 ≤ 601024 by omega), (show n0 + 6 ≤ 7293034 by omega)⟩ rfl rfl (Nat.le_of_ble_eq_true rfl) dL_law_1066 (fun _ _ _ _ => trivial) hf (fun _ _ _ h => k_L_timerFor h) (fun x182 σ181 hf => ?_)
          refine kx_istore K [(5, .int x182), (0, .ref b), (1, .ref v7), (2, .ref v8), (3, .ref v9), (4, .int v10)] dL_law_1069 (by decide) rfl ?_
          refine kx_aload_n K dL_law_1071 rfl 3 rfl ?_
          refine kx_aload_n K dL_law_1072 rfl 1 rfl ?_
          refine kx_iload K dL_law_1073 5 rfl ?_
          refine kx_iconst (v := 1) K dL_law_1075 (by decide) ?_
          refine kx_iadd K dL_law_1076 ?_
          refine kx_sld K hX dL_law_1077 hf (fun x183 hf => ?_)
          refine kx_cv1i K c_L_144 ⟨by decide, by decide, rfl, rfl, (show k0 + 1 ≤ 601024 by omega), (show n0 + 6 ≤ 7293034 by omega)⟩ (Nat.le_of_ble_eq_true rfl) dL_law_1078 hf (fun _ _ _ h => k_X7_timerFor h) (fun x185 σ184 hf => ?_)
          refine kx_istore K [(6, .int x185), (5, .int x182), (0, .ref b), (1, .ref v7), (2, .ref v8), (3, .ref v9), (4, .int v10)] dL_law_1081 (by decide) rfl ?_
          refine kx_aload_n K dL_law_1083 rfl 4 rfl ?_
          refine kx_cv0i K c_L_92 ⟨by decide, by decide, rfl, rfl, (show k0 + 1 ≤ 601024 by omega), (show n0 + 6 ≤ 7293034 by omega)⟩ (Nat.le_of_ble_eq_true rfl) dL_law_1084 hf (fun _ _ _ h => k_X7_thrown h) (fun x187 σ186 hf => ?_)
          refine kx_iload K dL_law_1087 1 rfl ?_
          refine kx_icmp_eq K 1094 hf dL_law_1089 (by decide) (fun hf => ?_) (fun hf => ?_)
          · refine kx_iload K dL_law_1094 1 rfl ?_
            refine kx_if_ne K 1111 hf dL_law_1096 (by decide) (fun hf => ?_) (fun hf => ?_)
            · refine kx_goto K 1569 dL_law_1111 (by decide) ?_
              refine kx_iinc (v := (v10 + 6)) K [(4, .int (v10 + 6)), (6, .int x185), (5, .int x182), (0, .ref b), (1, .ref v7), (2, .ref v8), (3, .ref v9)] dL_law_1569 6 rfl rfl (by decide) rfl ?_
              refine kx_goto K 23 dL_law_1572 (by decide) ?_
              refine kx_sub [(0, .ref b), (1, .ref v7), (2, .ref v8), (3, .ref v9), (4, .int (v10 + 6))] [3, 4, 5, 6, 0] rfl ?_
              refine kx_wd (k' := k0 + 2) (n' := n0 + 12) (by omega) (by omega) ?_
              exact ih23 (k0 + 2) (n0 + 12) _ _ _ _ _ (by omega) (by omega) hf
            · refine kx_aload_n K dL_law_1099 rfl 5 rfl ?_
              refine kx_iconst (v := 0) K dL_law_1100 (by decide) ?_
              refine kx_al K dL_law_1101 hf (fun x188 hf => ?_)
              refine kx_iload K dL_law_1102 0 rfl ?_
              refine kx_i2l K dL_law_1104 ?_
              refine kx_lcmp K dL_law_1105 ?_
              refine kx_if_eq K 1111 hf dL_law_1106 (by decide) (fun hf => ?_) (fun hf => ?_)
              · refine kx_goto K 1569 dL_law_1111 (by decide) ?_
                refine kx_iinc (v := (v10 + 6)) K [(4, .int (v10 + 6)), (6, .int x185), (5, .int x182), (0, .ref b), (1, .ref v7), (2, .ref v8), (3, .ref v9)] dL_law_1569 6 rfl rfl (by decide) rfl ?_
                refine kx_goto K 23 dL_law_1572 (by decide) ?_
                refine kx_sub [(0, .ref b), (1, .ref v7), (2, .ref v8), (3, .ref v9), (4, .int (v10 + 6))] [3, 4, 5, 6, 0] rfl ?_
                refine kx_wd (k' := k0 + 2) (n' := n0 + 12) (by omega) (by omega) ?_
                exact ih23 (k0 + 2) (n0 + 12) _ _ _ _ _ (by omega) (by omega) hf
              · refine kx_iconst (v := 0) K dL_law_1109 (by decide) ?_
                cases hf
          · refine kx_iconst (v := 0) K dL_law_1092 (by decide) ?_
            cases hf
        refine kx_swI (c := 17) K 1114 dL_law_40 (by decide) (by decide) rfl (by decide) hf (fun hf => ?_) (fun h198 hf => ?_)
        · refine kx_aload_n K dL_law_1114 rfl 1 rfl ?_
          refine kx_aload_n K dL_law_1115 rfl 0 rfl ?_
          refine kx_iload K dL_law_1116 4 rfl ?_
          refine kx_iconst (v := 1) K dL_law_1118 (by decide) ?_
          refine kx_iadd K dL_law_1119 ?_
          refine kx_sld K hX dL_law_1120 hf (fun x190 hf => ?_)
          refine kx_aload_n K dL_law_1121 rfl 0 rfl ?_
          refine kx_iload K dL_law_1122 4 rfl ?_
          refine kx_iconst (v := 2) K dL_law_1124 (by decide) ?_
          refine kx_iadd K dL_law_1125 ?_
          refine kx_sld K hX dL_law_1126 hf (fun x191 hf => ?_)
          refine kx_cv2i K c_L_145 ⟨by decide, by decide, rfl, rfl, (show k0 ≤ 601024 by omega), (show n0 ≤ 7293034 by omega)⟩ (Nat.le_of_ble_eq_true rfl) dL_law_1127 hf (fun _ _ _ h => k_X6_isRecorded h) (fun x193 σ192 hf => ?_)
          refine kx_aload_n K dL_law_1130 rfl 2 rfl ?_
          refine kx_aload_n K dL_law_1131 rfl 0 rfl ?_
          refine kx_iload K dL_law_1132 4 rfl ?_
          refine kx_iconst (v := 1) K dL_law_1134 (by decide) ?_
          refine kx_iadd K dL_law_1135 ?_
          refine kx_sld K hX dL_law_1136 hf (fun x194 hf => ?_)
          refine kx_aload_n K dL_law_1137 rfl 0 rfl ?_
          refine kx_iload K dL_law_1138 4 rfl ?_
          refine kx_iconst (v := 2) K dL_law_1140 (by decide) ?_
          refine kx_iadd K dL_law_1141 ?_
          refine kx_sld K hX dL_law_1142 hf (fun x195 hf => ?_)
          refine kx_cv2i K c_L_148 ⟨by decide, by decide, rfl, rfl, (show k0 ≤ 601024 by omega), (show n0 ≤ 7293034 by omega)⟩ (Nat.le_of_ble_eq_true rfl) dL_law_1143 hf (fun _ _ _ h => k_X7_isRecorded h) (fun x197 σ196 hf => ?_)
          refine kx_icmp_eq K 1569 hf dL_law_1146 (by decide) (fun hf => ?_) (fun hf => ?_)
          · refine kx_iinc (v := (v10 + 6)) K [(4, .int (v10 + 6)), (0, .ref b), (1, .ref v7), (2, .ref v8), (3, .ref v9)] dL_law_1569 4 rfl rfl (by decide) rfl ?_
            refine kx_goto K 23 dL_law_1572 (by decide) ?_
            refine kx_sub [(0, .ref b), (1, .ref v7), (2, .ref v8), (3, .ref v9), (4, .int (v10 + 6))] [1, 2, 3, 4, 0] rfl ?_
            refine kx_wd (k' := k0 + 2) (n' := n0 + 12) (by omega) (by omega) ?_
            exact ih23 (k0 + 2) (n0 + 12) _ _ _ _ _ (by omega) (by omega) hf
          · refine kx_iconst (v := 0) K dL_law_1149 (by decide) ?_
            cases hf
        refine kx_swI (c := 18) K 1151 dL_law_40 (by decide) (by decide) rfl (by decide) hf (fun hf => ?_) (fun h212 hf => ?_)
        · refine kx_aload_n K dL_law_1151 rfl 1 rfl ?_
          refine kx_aload_n K dL_law_1152 rfl 0 rfl ?_
          refine kx_iload K dL_law_1153 4 rfl ?_
          refine kx_iconst (v := 1) K dL_law_1155 (by decide) ?_
          refine kx_iadd K dL_law_1156 ?_
          refine kx_sld K hX dL_law_1157 hf (fun x199 hf => ?_)
          refine kx_aload_n K dL_law_1158 rfl 0 rfl ?_
          refine kx_iload K dL_law_1159 4 rfl ?_
          refine kx_iconst (v := 2) K dL_law_1161 (by decide) ?_
          refine kx_iadd K dL_law_1162 ?_
          refine kx_sld K hX dL_law_1163 hf (fun x200 hf => ?_)
          refine kx_aload_n K dL_law_1164 rfl 0 rfl ?_
          refine kx_iload K dL_law_1165 4 rfl ?_
          refine kx_iconst (v := 3) K dL_law_1167 (by decide) ?_
          refine kx_iadd K dL_law_1168 ?_
          refine kx_sld K hX dL_law_1169 hf (fun x201 hf => ?_)
          refine kx_aload_n K dL_law_1170 rfl 3 rfl ?_
          refine kx_csw (k' := k0 + 1) (n' := n0 + 6) K [.ref v7, .int x199, .int x200, .int x201, .ref v9] c_L_149 ⟨by decide, by decide, rfl, rfl, (show k0 + 1 ≤ 601024 by omega), (show n0 + 6 ≤ 7293034 by omega)⟩ rfl rfl (Nat.le_of_ble_eq_true rfl) dL_law_1171 (fun _ _ _ _ => trivial) hf (fun _ _ _ h => k_L_addFault h) (fun x203 σ202 hf => ?_)
          refine kx_istore K [(5, .int x203), (0, .ref b), (1, .ref v7), (2, .ref v8), (3, .ref v9), (4, .int v10)] dL_law_1174 (by decide) rfl ?_
          refine kx_aload_n K dL_law_1176 rfl 3 rfl ?_
          refine kx_aload_n K dL_law_1177 rfl 1 rfl ?_
          refine kx_iload K dL_law_1178 5 rfl ?_
          refine kx_iconst (v := 1) K dL_law_1180 (by decide) ?_
          refine kx_iadd K dL_law_1181 ?_
          refine kx_sld K hX dL_law_1182 hf (fun x204 hf => ?_)
          refine kx_aload_n K dL_law_1183 rfl 1 rfl ?_
          refine kx_iload K dL_law_1184 5 rfl ?_
          refine kx_iconst (v := 2) K dL_law_1186 (by decide) ?_
          refine kx_iadd K dL_law_1187 ?_
          refine kx_sld K hX dL_law_1188 hf (fun x205 hf => ?_)
          refine kx_aload_n K dL_law_1189 rfl 1 rfl ?_
          refine kx_iload K dL_law_1190 5 rfl ?_
          refine kx_iconst (v := 3) K dL_law_1192 (by decide) ?_
          refine kx_iadd K dL_law_1193 ?_
          refine kx_sld K hX dL_law_1194 hf (fun x206 hf => ?_)
          refine kx_cv3i K c_L_152 ⟨by decide, by decide, rfl, rfl, (show k0 + 1 ≤ 601024 by omega), (show n0 + 6 ≤ 7293034 by omega)⟩ (Nat.le_of_ble_eq_true rfl) dL_law_1195 hf (fun _ _ _ h => k_X7_addFault h) (fun x208 σ207 hf => ?_)
          refine kx_istore K [(6, .int x208), (5, .int x203), (0, .ref b), (1, .ref v7), (2, .ref v8), (3, .ref v9), (4, .int v10)] dL_law_1198 (by decide) rfl ?_
          refine kx_aload_n K dL_law_1200 rfl 4 rfl ?_
          refine kx_cv0i K c_L_92 ⟨by decide, by decide, rfl, rfl, (show k0 + 1 ≤ 601024 by omega), (show n0 + 6 ≤ 7293034 by omega)⟩ (Nat.le_of_ble_eq_true rfl) dL_law_1201 hf (fun _ _ _ h => k_X7_thrown h) (fun x210 σ209 hf => ?_)
          refine kx_iload K dL_law_1204 1 rfl ?_
          refine kx_icmp_eq K 1211 hf dL_law_1206 (by decide) (fun hf => ?_) (fun hf => ?_)
          · refine kx_iload K dL_law_1211 1 rfl ?_
            refine kx_if_ne K 1228 hf dL_law_1213 (by decide) (fun hf => ?_) (fun hf => ?_)
            · refine kx_goto K 1569 dL_law_1228 (by decide) ?_
              refine kx_iinc (v := (v10 + 6)) K [(4, .int (v10 + 6)), (6, .int x208), (5, .int x203), (0, .ref b), (1, .ref v7), (2, .ref v8), (3, .ref v9)] dL_law_1569 6 rfl rfl (by decide) rfl ?_
              refine kx_goto K 23 dL_law_1572 (by decide) ?_
              refine kx_sub [(0, .ref b), (1, .ref v7), (2, .ref v8), (3, .ref v9), (4, .int (v10 + 6))] [3, 4, 5, 6, 0] rfl ?_
              refine kx_wd (k' := k0 + 2) (n' := n0 + 12) (by omega) (by omega) ?_
              exact ih23 (k0 + 2) (n0 + 12) _ _ _ _ _ (by omega) (by omega) hf
            · refine kx_aload_n K dL_law_1216 rfl 5 rfl ?_
              refine kx_iconst (v := 0) K dL_law_1217 (by decide) ?_
              refine kx_al K dL_law_1218 hf (fun x211 hf => ?_)
              refine kx_iload K dL_law_1219 0 rfl ?_
              refine kx_i2l K dL_law_1221 ?_
              refine kx_lcmp K dL_law_1222 ?_
              refine kx_if_eq K 1228 hf dL_law_1223 (by decide) (fun hf => ?_) (fun hf => ?_)
              · refine kx_goto K 1569 dL_law_1228 (by decide) ?_
                refine kx_iinc (v := (v10 + 6)) K [(4, .int (v10 + 6)), (6, .int x208), (5, .int x203), (0, .ref b), (1, .ref v7), (2, .ref v8), (3, .ref v9)] dL_law_1569 6 rfl rfl (by decide) rfl ?_
                refine kx_goto K 23 dL_law_1572 (by decide) ?_
                refine kx_sub [(0, .ref b), (1, .ref v7), (2, .ref v8), (3, .ref v9), (4, .int (v10 + 6))] [3, 4, 5, 6, 0] rfl ?_
                refine kx_wd (k' := k0 + 2) (n' := n0 + 12) (by omega) (by omega) ?_
                exact ih23 (k0 + 2) (n0 + 12) _ _ _ _ _ (by omega) (by omega) hf
              · refine kx_iconst (v := 0) K dL_law_1226 (by decide) ?_
                cases hf
          · refine kx_iconst (v := 0) K dL_law_1209 (by decide) ?_
            cases hf
        refine kx_swI (c := 19) K 1231 dL_law_40 (by decide) (by decide) rfl (by decide) hf (fun hf => ?_) (fun h222 hf => ?_)
        · refine kx_aload_n K dL_law_1231 rfl 1 rfl ?_
          refine kx_aload_n K dL_law_1232 rfl 0 rfl ?_
          refine kx_iload K dL_law_1233 4 rfl ?_
          refine kx_iconst (v := 1) K dL_law_1235 (by decide) ?_
          refine kx_iadd K dL_law_1236 ?_
          refine kx_sld K hX dL_law_1237 hf (fun x213 hf => ?_)
          refine kx_aload_n K dL_law_1238 rfl 3 rfl ?_
          refine kx_csw (k' := k0 + 1) (n' := n0 + 6) K [.ref v7, .int x213, .ref v9] c_L_153 ⟨by decide, by decide, rfl, rfl, (show k0 + 1 ≤ 601024 by omega), (show n0 + 6 ≤ 7293034 by omega)⟩ rfl rfl (Nat.le_of_ble_eq_true rfl) dL_law_1239 (fun _ _ _ _ => trivial) hf (fun _ _ _ h => k_L_removeFault h) (fun x215 σ214 hf => ?_)
          refine kx_istore K [(5, .int x215), (0, .ref b), (1, .ref v7), (2, .ref v8), (3, .ref v9), (4, .int v10)] dL_law_1242 (by decide) rfl ?_
          refine kx_aload_n K dL_law_1244 rfl 3 rfl ?_
          refine kx_aload_n K dL_law_1245 rfl 1 rfl ?_
          refine kx_iload K dL_law_1246 5 rfl ?_
          refine kx_iconst (v := 1) K dL_law_1248 (by decide) ?_
          refine kx_iadd K dL_law_1249 ?_
          refine kx_sld K hX dL_law_1250 hf (fun x216 hf => ?_)
          refine kx_cv1i K c_L_155 ⟨by decide, by decide, rfl, rfl, (show k0 + 1 ≤ 601024 by omega), (show n0 + 6 ≤ 7293034 by omega)⟩ (Nat.le_of_ble_eq_true rfl) dL_law_1251 hf (fun _ _ _ h => k_X7_removeFault h) (fun x218 σ217 hf => ?_)
          refine kx_istore K [(6, .int x218), (5, .int x215), (0, .ref b), (1, .ref v7), (2, .ref v8), (3, .ref v9), (4, .int v10)] dL_law_1254 (by decide) rfl ?_
          refine kx_aload_n K dL_law_1256 rfl 4 rfl ?_
          refine kx_cv0i K c_L_92 ⟨by decide, by decide, rfl, rfl, (show k0 + 1 ≤ 601024 by omega), (show n0 + 6 ≤ 7293034 by omega)⟩ (Nat.le_of_ble_eq_true rfl) dL_law_1257 hf (fun _ _ _ h => k_X7_thrown h) (fun x220 σ219 hf => ?_)
          refine kx_iload K dL_law_1260 1 rfl ?_
          refine kx_icmp_eq K 1267 hf dL_law_1262 (by decide) (fun hf => ?_) (fun hf => ?_)
          · refine kx_iload K dL_law_1267 1 rfl ?_
            refine kx_if_ne K 1284 hf dL_law_1269 (by decide) (fun hf => ?_) (fun hf => ?_)
            · refine kx_goto K 1569 dL_law_1284 (by decide) ?_
              refine kx_iinc (v := (v10 + 6)) K [(4, .int (v10 + 6)), (6, .int x218), (5, .int x215), (0, .ref b), (1, .ref v7), (2, .ref v8), (3, .ref v9)] dL_law_1569 6 rfl rfl (by decide) rfl ?_
              refine kx_goto K 23 dL_law_1572 (by decide) ?_
              refine kx_sub [(0, .ref b), (1, .ref v7), (2, .ref v8), (3, .ref v9), (4, .int (v10 + 6))] [3, 4, 5, 6, 0] rfl ?_
              refine kx_wd (k' := k0 + 2) (n' := n0 + 12) (by omega) (by omega) ?_
              exact ih23 (k0 + 2) (n0 + 12) _ _ _ _ _ (by omega) (by omega) hf
            · refine kx_aload_n K dL_law_1272 rfl 5 rfl ?_
              refine kx_iconst (v := 0) K dL_law_1273 (by decide) ?_
              refine kx_al K dL_law_1274 hf (fun x221 hf => ?_)
              refine kx_iload K dL_law_1275 0 rfl ?_
              refine kx_i2l K dL_law_1277 ?_
              refine kx_lcmp K dL_law_1278 ?_
              refine kx_if_eq K 1284 hf dL_law_1279 (by decide) (fun hf => ?_) (fun hf => ?_)
              · refine kx_goto K 1569 dL_law_1284 (by decide) ?_
                refine kx_iinc (v := (v10 + 6)) K [(4, .int (v10 + 6)), (6, .int x218), (5, .int x215), (0, .ref b), (1, .ref v7), (2, .ref v8), (3, .ref v9)] dL_law_1569 6 rfl rfl (by decide) rfl ?_
                refine kx_goto K 23 dL_law_1572 (by decide) ?_
                refine kx_sub [(0, .ref b), (1, .ref v7), (2, .ref v8), (3, .ref v9), (4, .int (v10 + 6))] [3, 4, 5, 6, 0] rfl ?_
                refine kx_wd (k' := k0 + 2) (n' := n0 + 12) (by omega) (by omega) ?_
                exact ih23 (k0 + 2) (n0 + 12) _ _ _ _ _ (by omega) (by omega) hf
              · refine kx_iconst (v := 0) K dL_law_1282 (by decide) ?_
                cases hf
          · refine kx_iconst (v := 0) K dL_law_1265 (by decide) ?_
            cases hf
        refine kx_swI (c := 20) K 1287 dL_law_40 (by decide) (by decide) rfl (by decide) hf (fun hf => ?_) (fun h227 hf => ?_)
        · refine kx_aload_n K dL_law_1287 rfl 1 rfl ?_
          refine kx_cv0i K c_L_156 ⟨by decide, by decide, rfl, rfl, (show k0 ≤ 601024 by omega), (show n0 ≤ 7293034 by omega)⟩ (Nat.le_of_ble_eq_true rfl) dL_law_1288 hf (fun _ _ _ h => k_X6_clearFaults h) (fun x224 σ223 hf => ?_)
          refine kx_aload_n K dL_law_1291 rfl 2 rfl ?_
          refine kx_cv0i K c_L_159 ⟨by decide, by decide, rfl, rfl, (show k0 ≤ 601024 by omega), (show n0 ≤ 7293034 by omega)⟩ (Nat.le_of_ble_eq_true rfl) dL_law_1292 hf (fun _ _ _ h => k_X7_clearFaults h) (fun x226 σ225 hf => ?_)
          refine kx_icmp_eq K 1569 hf dL_law_1295 (by decide) (fun hf => ?_) (fun hf => ?_)
          · refine kx_iinc (v := (v10 + 6)) K [(4, .int (v10 + 6)), (0, .ref b), (1, .ref v7), (2, .ref v8), (3, .ref v9)] dL_law_1569 4 rfl rfl (by decide) rfl ?_
            refine kx_goto K 23 dL_law_1572 (by decide) ?_
            refine kx_sub [(0, .ref b), (1, .ref v7), (2, .ref v8), (3, .ref v9), (4, .int (v10 + 6))] [1, 2, 3, 4, 0] rfl ?_
            refine kx_wd (k' := k0 + 2) (n' := n0 + 12) (by omega) (by omega) ?_
            exact ih23 (k0 + 2) (n0 + 12) _ _ _ _ _ (by omega) (by omega) hf
          · refine kx_iconst (v := 0) K dL_law_1298 (by decide) ?_
            cases hf
        refine kx_swI (c := 21) K 1300 dL_law_40 (by decide) (by decide) rfl (by decide) hf (fun hf => ?_) (fun h239 hf => ?_)
        · refine kx_aload_n K dL_law_1300 rfl 1 rfl ?_
          refine kx_aload_n K dL_law_1301 rfl 0 rfl ?_
          refine kx_iload K dL_law_1302 4 rfl ?_
          refine kx_iconst (v := 1) K dL_law_1304 (by decide) ?_
          refine kx_iadd K dL_law_1305 ?_
          refine kx_sld K hX dL_law_1306 hf (fun x228 hf => ?_)
          refine kx_aload_n K dL_law_1307 rfl 0 rfl ?_
          refine kx_iload K dL_law_1308 4 rfl ?_
          refine kx_iconst (v := 2) K dL_law_1310 (by decide) ?_
          refine kx_iadd K dL_law_1311 ?_
          refine kx_sld K hX dL_law_1312 hf (fun x229 hf => ?_)
          refine kx_aload_n K dL_law_1313 rfl 3 rfl ?_
          refine kx_csw (k' := k0 + 1) (n' := n0 + 6) K [.ref v7, .int x228, .int x229, .ref v9] c_L_160 ⟨by decide, by decide, rfl, rfl, (show k0 + 1 ≤ 601024 by omega), (show n0 + 6 ≤ 7293034 by omega)⟩ rfl rfl (Nat.le_of_ble_eq_true rfl) dL_law_1314 (fun _ _ _ _ => trivial) hf (fun _ _ _ h => k_L_set h) (fun x231 σ230 hf => ?_)
          refine kx_istore K [(5, .int x231), (0, .ref b), (1, .ref v7), (2, .ref v8), (3, .ref v9), (4, .int v10)] dL_law_1317 (by decide) rfl ?_
          refine kx_aload_n K dL_law_1319 rfl 3 rfl ?_
          refine kx_aload_n K dL_law_1320 rfl 1 rfl ?_
          refine kx_iload K dL_law_1321 5 rfl ?_
          refine kx_iconst (v := 1) K dL_law_1323 (by decide) ?_
          refine kx_iadd K dL_law_1324 ?_
          refine kx_sld K hX dL_law_1325 hf (fun x232 hf => ?_)
          refine kx_aload_n K dL_law_1326 rfl 1 rfl ?_
          refine kx_iload K dL_law_1327 5 rfl ?_
          refine kx_iconst (v := 2) K dL_law_1329 (by decide) ?_
          refine kx_iadd K dL_law_1330 ?_
          refine kx_sld K hX dL_law_1331 hf (fun x233 hf => ?_)
          refine kx_cv2i K c_L_162 ⟨by decide, by decide, rfl, rfl, (show k0 + 1 ≤ 601024 by omega), (show n0 + 6 ≤ 7293034 by omega)⟩ (Nat.le_of_ble_eq_true rfl) dL_law_1332 hf (fun _ _ _ h => k_X7_set h) (fun x235 σ234 hf => ?_)
          refine kx_istore K [(6, .int x235), (5, .int x231), (0, .ref b), (1, .ref v7), (2, .ref v8), (3, .ref v9), (4, .int v10)] dL_law_1335 (by decide) rfl ?_
          refine kx_aload_n K dL_law_1337 rfl 4 rfl ?_
          refine kx_cv0i K c_L_92 ⟨by decide, by decide, rfl, rfl, (show k0 + 1 ≤ 601024 by omega), (show n0 + 6 ≤ 7293034 by omega)⟩ (Nat.le_of_ble_eq_true rfl) dL_law_1338 hf (fun _ _ _ h => k_X7_thrown h) (fun x237 σ236 hf => ?_)
          refine kx_iload K dL_law_1341 1 rfl ?_
          refine kx_icmp_eq K 1348 hf dL_law_1343 (by decide) (fun hf => ?_) (fun hf => ?_)
          · refine kx_iload K dL_law_1348 1 rfl ?_
            refine kx_if_ne K 1365 hf dL_law_1350 (by decide) (fun hf => ?_) (fun hf => ?_)
            · refine kx_goto K 1569 dL_law_1365 (by decide) ?_
              refine kx_iinc (v := (v10 + 6)) K [(4, .int (v10 + 6)), (6, .int x235), (5, .int x231), (0, .ref b), (1, .ref v7), (2, .ref v8), (3, .ref v9)] dL_law_1569 6 rfl rfl (by decide) rfl ?_
              refine kx_goto K 23 dL_law_1572 (by decide) ?_
              refine kx_sub [(0, .ref b), (1, .ref v7), (2, .ref v8), (3, .ref v9), (4, .int (v10 + 6))] [3, 4, 5, 6, 0] rfl ?_
              refine kx_wd (k' := k0 + 2) (n' := n0 + 12) (by omega) (by omega) ?_
              exact ih23 (k0 + 2) (n0 + 12) _ _ _ _ _ (by omega) (by omega) hf
            · refine kx_aload_n K dL_law_1353 rfl 5 rfl ?_
              refine kx_iconst (v := 0) K dL_law_1354 (by decide) ?_
              refine kx_al K dL_law_1355 hf (fun x238 hf => ?_)
              refine kx_iload K dL_law_1356 0 rfl ?_
              refine kx_i2l K dL_law_1358 ?_
              refine kx_lcmp K dL_law_1359 ?_
              refine kx_if_eq K 1365 hf dL_law_1360 (by decide) (fun hf => ?_) (fun hf => ?_)
              · refine kx_goto K 1569 dL_law_1365 (by decide) ?_
                refine kx_iinc (v := (v10 + 6)) K [(4, .int (v10 + 6)), (6, .int x235), (5, .int x231), (0, .ref b), (1, .ref v7), (2, .ref v8), (3, .ref v9)] dL_law_1569 6 rfl rfl (by decide) rfl ?_
                refine kx_goto K 23 dL_law_1572 (by decide) ?_
                refine kx_sub [(0, .ref b), (1, .ref v7), (2, .ref v8), (3, .ref v9), (4, .int (v10 + 6))] [3, 4, 5, 6, 0] rfl ?_
                refine kx_wd (k' := k0 + 2) (n' := n0 + 12) (by omega) (by omega) ?_
                exact ih23 (k0 + 2) (n0 + 12) _ _ _ _ _ (by omega) (by omega) hf
              · refine kx_iconst (v := 0) K dL_law_1363 (by decide) ?_
                cases hf
          · refine kx_iconst (v := 0) K dL_law_1346 (by decide) ?_
            cases hf
        refine kx_swI (c := 22) K 1368 dL_law_40 (by decide) (by decide) rfl (by decide) hf (fun hf => ?_) (fun h249 hf => ?_)
        · refine kx_aload_n K dL_law_1368 rfl 1 rfl ?_
          refine kx_aload_n K dL_law_1369 rfl 0 rfl ?_
          refine kx_iload K dL_law_1370 4 rfl ?_
          refine kx_iconst (v := 1) K dL_law_1372 (by decide) ?_
          refine kx_iadd K dL_law_1373 ?_
          refine kx_sld K hX dL_law_1374 hf (fun x240 hf => ?_)
          refine kx_aload_n K dL_law_1375 rfl 3 rfl ?_
          refine kx_csw (k' := k0 + 2) (n' := n0 + 12) K [.ref v7, .int x240, .ref v9] c_L_163 ⟨by decide, by decide, rfl, rfl, (show k0 + 2 ≤ 601024 by omega), (show n0 + 12 ≤ 7293034 by omega)⟩ rfl rfl (Nat.le_of_ble_eq_true rfl) dL_law_1376 (fun _ _ _ _ => trivial) hf (fun _ _ _ h => k_L_shrink h) (fun x242 σ241 hf => ?_)
          refine kx_istore K [(5, .int x242), (0, .ref b), (1, .ref v7), (2, .ref v8), (3, .ref v9), (4, .int v10)] dL_law_1379 (by decide) rfl ?_
          refine kx_aload_n K dL_law_1381 rfl 3 rfl ?_
          refine kx_aload_n K dL_law_1382 rfl 1 rfl ?_
          refine kx_iload K dL_law_1383 5 rfl ?_
          refine kx_iconst (v := 1) K dL_law_1385 (by decide) ?_
          refine kx_iadd K dL_law_1386 ?_
          refine kx_sld K hX dL_law_1387 hf (fun x243 hf => ?_)
          refine kx_cv1i K c_L_165 ⟨by decide, by decide, rfl, rfl, (show k0 + 2 ≤ 601024 by omega), (show n0 + 12 ≤ 7293034 by omega)⟩ (Nat.le_of_ble_eq_true rfl) dL_law_1388 hf (fun _ _ _ h => k_X7_shrink h) (fun x245 σ244 hf => ?_)
          refine kx_istore K [(6, .int x245), (5, .int x242), (0, .ref b), (1, .ref v7), (2, .ref v8), (3, .ref v9), (4, .int v10)] dL_law_1391 (by decide) rfl ?_
          refine kx_aload_n K dL_law_1393 rfl 4 rfl ?_
          refine kx_cv0i K c_L_92 ⟨by decide, by decide, rfl, rfl, (show k0 + 2 ≤ 601024 by omega), (show n0 + 12 ≤ 7293034 by omega)⟩ (Nat.le_of_ble_eq_true rfl) dL_law_1394 hf (fun _ _ _ h => k_X7_thrown h) (fun x247 σ246 hf => ?_)
          refine kx_iload K dL_law_1397 1 rfl ?_
          refine kx_icmp_eq K 1404 hf dL_law_1399 (by decide) (fun hf => ?_) (fun hf => ?_)
          · refine kx_iload K dL_law_1404 1 rfl ?_
            refine kx_if_ne K 1421 hf dL_law_1406 (by decide) (fun hf => ?_) (fun hf => ?_)
            · refine kx_goto K 1569 dL_law_1421 (by decide) ?_
              refine kx_iinc (v := (v10 + 6)) K [(4, .int (v10 + 6)), (6, .int x245), (5, .int x242), (0, .ref b), (1, .ref v7), (2, .ref v8), (3, .ref v9)] dL_law_1569 6 rfl rfl (by decide) rfl ?_
              refine kx_goto K 23 dL_law_1572 (by decide) ?_
              refine kx_sub [(0, .ref b), (1, .ref v7), (2, .ref v8), (3, .ref v9), (4, .int (v10 + 6))] [3, 4, 5, 6, 0] rfl ?_
              refine kx_wd (k' := k0 + 2) (n' := n0 + 12) (by omega) (by omega) ?_
              exact ih23 (k0 + 2) (n0 + 12) _ _ _ _ _ (by omega) (by omega) hf
            · refine kx_aload_n K dL_law_1409 rfl 5 rfl ?_
              refine kx_iconst (v := 0) K dL_law_1410 (by decide) ?_
              refine kx_al K dL_law_1411 hf (fun x248 hf => ?_)
              refine kx_iload K dL_law_1412 0 rfl ?_
              refine kx_i2l K dL_law_1414 ?_
              refine kx_lcmp K dL_law_1415 ?_
              refine kx_if_eq K 1421 hf dL_law_1416 (by decide) (fun hf => ?_) (fun hf => ?_)
              · refine kx_goto K 1569 dL_law_1421 (by decide) ?_
                refine kx_iinc (v := (v10 + 6)) K [(4, .int (v10 + 6)), (6, .int x245), (5, .int x242), (0, .ref b), (1, .ref v7), (2, .ref v8), (3, .ref v9)] dL_law_1569 6 rfl rfl (by decide) rfl ?_
                refine kx_goto K 23 dL_law_1572 (by decide) ?_
                refine kx_sub [(0, .ref b), (1, .ref v7), (2, .ref v8), (3, .ref v9), (4, .int (v10 + 6))] [3, 4, 5, 6, 0] rfl ?_
                refine kx_wd (k' := k0 + 2) (n' := n0 + 12) (by omega) (by omega) ?_
                exact ih23 (k0 + 2) (n0 + 12) _ _ _ _ _ (by omega) (by omega) hf
              · refine kx_iconst (v := 0) K dL_law_1419 (by decide) ?_
                cases hf
          · refine kx_iconst (v := 0) K dL_law_1402 (by decide) ?_
            cases hf
        refine kx_swI (c := 23) K 1424 dL_law_40 (by decide) (by decide) rfl (by decide) hf (fun hf => ?_) (fun h254 hf => ?_)
        · refine kx_aload_n K dL_law_1424 rfl 1 rfl ?_
          refine kx_cv0i K c_L_166 ⟨by decide, by decide, rfl, rfl, (show k0 ≤ 601024 by omega), (show n0 ≤ 7293034 by omega)⟩ (Nat.le_of_ble_eq_true rfl) dL_law_1425 hf (fun _ _ _ h => k_X6_record h) (fun x251 σ250 hf => ?_)
          refine kx_aload_n K dL_law_1428 rfl 2 rfl ?_
          refine kx_cv0i K c_L_169 ⟨by decide, by decide, rfl, rfl, (show k0 ≤ 601024 by omega), (show n0 ≤ 7293034 by omega)⟩ (Nat.le_of_ble_eq_true rfl) dL_law_1429 hf (fun _ _ _ h => k_X7_record h) (fun x253 σ252 hf => ?_)
          refine kx_icmp_eq K 1569 hf dL_law_1432 (by decide) (fun hf => ?_) (fun hf => ?_)
          · refine kx_iinc (v := (v10 + 6)) K [(4, .int (v10 + 6)), (0, .ref b), (1, .ref v7), (2, .ref v8), (3, .ref v9)] dL_law_1569 4 rfl rfl (by decide) rfl ?_
            refine kx_goto K 23 dL_law_1572 (by decide) ?_
            refine kx_sub [(0, .ref b), (1, .ref v7), (2, .ref v8), (3, .ref v9), (4, .int (v10 + 6))] [1, 2, 3, 4, 0] rfl ?_
            refine kx_wd (k' := k0 + 2) (n' := n0 + 12) (by omega) (by omega) ?_
            exact ih23 (k0 + 2) (n0 + 12) _ _ _ _ _ (by omega) (by omega) hf
          · refine kx_iconst (v := 0) K dL_law_1435 (by decide) ?_
            cases hf
        refine kx_swI (c := 24) K 1437 dL_law_40 (by decide) (by decide) rfl (by decide) hf (fun hf => ?_) (fun h259 hf => ?_)
        · refine kx_aload_n K dL_law_1437 rfl 1 rfl ?_
          refine kx_cv0i K c_L_170 ⟨by decide, by decide, rfl, rfl, (show k0 ≤ 601024 by omega), (show n0 ≤ 7293034 by omega)⟩ (Nat.le_of_ble_eq_true rfl) dL_law_1438 hf (fun _ _ _ h => k_X6_undo h) (fun x256 σ255 hf => ?_)
          refine kx_aload_n K dL_law_1441 rfl 2 rfl ?_
          refine kx_cv0i K c_L_173 ⟨by decide, by decide, rfl, rfl, (show k0 ≤ 601024 by omega), (show n0 ≤ 7293034 by omega)⟩ (Nat.le_of_ble_eq_true rfl) dL_law_1442 hf (fun _ _ _ h => k_X7_undo h) (fun x258 σ257 hf => ?_)
          refine kx_icmp_eq K 1569 hf dL_law_1445 (by decide) (fun hf => ?_) (fun hf => ?_)
          · refine kx_iinc (v := (v10 + 6)) K [(4, .int (v10 + 6)), (0, .ref b), (1, .ref v7), (2, .ref v8), (3, .ref v9)] dL_law_1569 4 rfl rfl (by decide) rfl ?_
            refine kx_goto K 23 dL_law_1572 (by decide) ?_
            refine kx_sub [(0, .ref b), (1, .ref v7), (2, .ref v8), (3, .ref v9), (4, .int (v10 + 6))] [1, 2, 3, 4, 0] rfl ?_
            refine kx_wd (k' := k0 + 2) (n' := n0 + 12) (by omega) (by omega) ?_
            exact ih23 (k0 + 2) (n0 + 12) _ _ _ _ _ (by omega) (by omega) hf
          · refine kx_iconst (v := 0) K dL_law_1448 (by decide) ?_
            cases hf
        refine kx_swI (c := 25) K 1450 dL_law_40 (by decide) (by decide) rfl (by decide) hf (fun hf => ?_) (fun h269 hf => ?_)
        · refine kx_aload_n K dL_law_1450 rfl 1 rfl ?_
          refine kx_aload_n K dL_law_1451 rfl 0 rfl ?_
          refine kx_iload K dL_law_1452 4 rfl ?_
          refine kx_iconst (v := 1) K dL_law_1454 (by decide) ?_
          refine kx_iadd K dL_law_1455 ?_
          refine kx_sld K hX dL_law_1456 hf (fun x260 hf => ?_)
          refine kx_aload_n K dL_law_1457 rfl 3 rfl ?_
          refine kx_csw (k' := k0 + 1) (n' := n0 + 6) K [.ref v7, .int x260, .ref v9] c_L_174 ⟨by decide, by decide, rfl, rfl, (show k0 + 1 ≤ 601024 by omega), (show n0 + 6 ≤ 7293034 by omega)⟩ rfl rfl (Nat.le_of_ble_eq_true rfl) dL_law_1458 (fun _ _ _ _ => trivial) hf (fun _ _ _ h => k_L_saveSnapshot h) (fun x262 σ261 hf => ?_)
          refine kx_istore K [(5, .int x262), (0, .ref b), (1, .ref v7), (2, .ref v8), (3, .ref v9), (4, .int v10)] dL_law_1461 (by decide) rfl ?_
          refine kx_aload_n K dL_law_1463 rfl 3 rfl ?_
          refine kx_aload_n K dL_law_1464 rfl 1 rfl ?_
          refine kx_iload K dL_law_1465 5 rfl ?_
          refine kx_iconst (v := 1) K dL_law_1467 (by decide) ?_
          refine kx_iadd K dL_law_1468 ?_
          refine kx_sld K hX dL_law_1469 hf (fun x263 hf => ?_)
          refine kx_cv1i K c_L_176 ⟨by decide, by decide, rfl, rfl, (show k0 + 1 ≤ 601024 by omega), (show n0 + 6 ≤ 7293034 by omega)⟩ (Nat.le_of_ble_eq_true rfl) dL_law_1470 hf (fun _ _ _ h => k_X7_saveSnapshot h) (fun x265 σ264 hf => ?_)
          refine kx_istore K [(6, .int x265), (5, .int x262), (0, .ref b), (1, .ref v7), (2, .ref v8), (3, .ref v9), (4, .int v10)] dL_law_1473 (by decide) rfl ?_
          refine kx_aload_n K dL_law_1475 rfl 4 rfl ?_
          refine kx_cv0i K c_L_92 ⟨by decide, by decide, rfl, rfl, (show k0 + 1 ≤ 601024 by omega), (show n0 + 6 ≤ 7293034 by omega)⟩ (Nat.le_of_ble_eq_true rfl) dL_law_1476 hf (fun _ _ _ h => k_X7_thrown h) (fun x267 σ266 hf => ?_)
          refine kx_iload K dL_law_1479 1 rfl ?_
          refine kx_icmp_eq K 1486 hf dL_law_1481 (by decide) (fun hf => ?_) (fun hf => ?_)
          · refine kx_iload K dL_law_1486 1 rfl ?_
            refine kx_if_ne K 1510 hf dL_law_1488 (by decide) (fun hf => ?_) (fun hf => ?_)
            · refine kx_goto K 1569 dL_law_1510 (by decide) ?_
              refine kx_iinc (v := (v10 + 6)) K [(4, .int (v10 + 6)), (6, .int x265), (5, .int x262), (0, .ref b), (1, .ref v7), (2, .ref v8), (3, .ref v9)] dL_law_1569 6 rfl rfl (by decide) rfl ?_
              refine kx_goto K 23 dL_law_1572 (by decide) ?_
              refine kx_sub [(0, .ref b), (1, .ref v7), (2, .ref v8), (3, .ref v9), (4, .int (v10 + 6))] [3, 4, 5, 6, 0] rfl ?_
              refine kx_wd (k' := k0 + 2) (n' := n0 + 12) (by omega) (by omega) ?_
              exact ih23 (k0 + 2) (n0 + 12) _ _ _ _ _ (by omega) (by omega) hf
            · refine kx_aload_n K dL_law_1491 rfl 5 rfl ?_
              refine kx_iconst (v := 0) K dL_law_1492 (by decide) ?_
              refine kx_al K dL_law_1493 hf (fun x268 hf => ?_)
              refine kx_iload K dL_law_1494 0 rfl ?_
              refine kx_if_eq K 1503 hf dL_law_1496 (by decide) (fun hf => ?_) (fun hf => ?_)
              · refine kx_lconst (v := 0) K dL_law_1503 (by decide) ?_
                refine kx_sub [(0, .ref b), (1, .ref v7), (2, .ref v8), (3, .ref v9), (4, .int v10)] [2, 3, 4, 5, 6] rfl ?_
                refine kx_wd (k' := k0 + 2) (n' := n0 + 12) (by omega) (by omega) ?_
                exact B1504 _ _ _ _ _ _ _ hf
              · refine kx_lconst (v := 1) K dL_law_1499 (by decide) ?_
                refine kx_goto K 1504 dL_law_1500 (by decide) ?_
                refine kx_sub [(0, .ref b), (1, .ref v7), (2, .ref v8), (3, .ref v9), (4, .int v10)] [2, 3, 4, 5, 6] rfl ?_
                refine kx_wd (k' := k0 + 2) (n' := n0 + 12) (by omega) (by omega) ?_
                exact B1504 _ _ _ _ _ _ _ hf
          · refine kx_iconst (v := 0) K dL_law_1484 (by decide) ?_
            cases hf
        refine kx_swI (c := 26) K 1513 dL_law_40 (by decide) (by decide) rfl (by decide) hf (fun hf => ?_) (fun h279 hf => ?_)
        · refine kx_aload_n K dL_law_1513 rfl 1 rfl ?_
          refine kx_aload_n K dL_law_1514 rfl 0 rfl ?_
          refine kx_iload K dL_law_1515 4 rfl ?_
          refine kx_iconst (v := 1) K dL_law_1517 (by decide) ?_
          refine kx_iadd K dL_law_1518 ?_
          refine kx_sld K hX dL_law_1519 hf (fun x270 hf => ?_)
          refine kx_aload_n K dL_law_1520 rfl 3 rfl ?_
          refine kx_csw (k' := k0 + 2) (n' := n0 + 12) K [.ref v7, .int x270, .ref v9] c_L_177 ⟨by decide, by decide, rfl, rfl, (show k0 + 2 ≤ 601024 by omega), (show n0 + 12 ≤ 7293034 by omega)⟩ rfl rfl (Nat.le_of_ble_eq_true rfl) dL_law_1521 (fun _ _ _ _ => trivial) hf (fun _ _ _ h => k_L_restoreSnapshot h) (fun x272 σ271 hf => ?_)
          refine kx_istore K [(5, .int x272), (0, .ref b), (1, .ref v7), (2, .ref v8), (3, .ref v9), (4, .int v10)] dL_law_1524 (by decide) rfl ?_
          refine kx_aload_n K dL_law_1526 rfl 3 rfl ?_
          refine kx_aload_n K dL_law_1527 rfl 1 rfl ?_
          refine kx_iload K dL_law_1528 5 rfl ?_
          refine kx_iconst (v := 1) K dL_law_1530 (by decide) ?_
          refine kx_iadd K dL_law_1531 ?_
          refine kx_sld K hX dL_law_1532 hf (fun x273 hf => ?_)
          refine kx_cv1i K c_L_179 ⟨by decide, by decide, rfl, rfl, (show k0 + 2 ≤ 601024 by omega), (show n0 + 12 ≤ 7293034 by omega)⟩ (Nat.le_of_ble_eq_true rfl) dL_law_1533 hf (fun _ _ _ h => k_X7_restoreSnapshot h) (fun x275 σ274 hf => ?_)
          refine kx_istore K [(6, .int x275), (5, .int x272), (0, .ref b), (1, .ref v7), (2, .ref v8), (3, .ref v9), (4, .int v10)] dL_law_1536 (by decide) rfl ?_
          refine kx_aload_n K dL_law_1538 rfl 4 rfl ?_
          refine kx_cv0i K c_L_92 ⟨by decide, by decide, rfl, rfl, (show k0 + 2 ≤ 601024 by omega), (show n0 + 12 ≤ 7293034 by omega)⟩ (Nat.le_of_ble_eq_true rfl) dL_law_1539 hf (fun _ _ _ h => k_X7_thrown h) (fun x277 σ276 hf => ?_)
          refine kx_iload K dL_law_1542 1 rfl ?_
          refine kx_icmp_eq K 1549 hf dL_law_1544 (by decide) (fun hf => ?_) (fun hf => ?_)
          · refine kx_iload K dL_law_1549 1 rfl ?_
            refine kx_if_ne K 1566 hf dL_law_1551 (by decide) (fun hf => ?_) (fun hf => ?_)
            · refine kx_goto K 1569 dL_law_1566 (by decide) ?_
              refine kx_iinc (v := (v10 + 6)) K [(4, .int (v10 + 6)), (6, .int x275), (5, .int x272), (0, .ref b), (1, .ref v7), (2, .ref v8), (3, .ref v9)] dL_law_1569 6 rfl rfl (by decide) rfl ?_
              refine kx_goto K 23 dL_law_1572 (by decide) ?_
              refine kx_sub [(0, .ref b), (1, .ref v7), (2, .ref v8), (3, .ref v9), (4, .int (v10 + 6))] [3, 4, 5, 6, 0] rfl ?_
              refine kx_wd (k' := k0 + 2) (n' := n0 + 12) (by omega) (by omega) ?_
              exact ih23 (k0 + 2) (n0 + 12) _ _ _ _ _ (by omega) (by omega) hf
            · refine kx_aload_n K dL_law_1554 rfl 5 rfl ?_
              refine kx_iconst (v := 0) K dL_law_1555 (by decide) ?_
              refine kx_al K dL_law_1556 hf (fun x278 hf => ?_)
              refine kx_iload K dL_law_1557 0 rfl ?_
              refine kx_i2l K dL_law_1559 ?_
              refine kx_lcmp K dL_law_1560 ?_
              refine kx_if_eq K 1566 hf dL_law_1561 (by decide) (fun hf => ?_) (fun hf => ?_)
              · refine kx_goto K 1569 dL_law_1566 (by decide) ?_
                refine kx_iinc (v := (v10 + 6)) K [(4, .int (v10 + 6)), (6, .int x275), (5, .int x272), (0, .ref b), (1, .ref v7), (2, .ref v8), (3, .ref v9)] dL_law_1569 6 rfl rfl (by decide) rfl ?_
                refine kx_goto K 23 dL_law_1572 (by decide) ?_
                refine kx_sub [(0, .ref b), (1, .ref v7), (2, .ref v8), (3, .ref v9), (4, .int (v10 + 6))] [3, 4, 5, 6, 0] rfl ?_
                refine kx_wd (k' := k0 + 2) (n' := n0 + 12) (by omega) (by omega) ?_
                exact ih23 (k0 + 2) (n0 + 12) _ _ _ _ _ (by omega) (by omega) hf
              · refine kx_iconst (v := 0) K dL_law_1564 (by decide) ?_
                cases hf
          · refine kx_iconst (v := 0) K dL_law_1547 (by decide) ?_
            cases hf
        refine kx_swD K 1569 dL_law_40 (by have := lv_neT h28 (show (0 : Int32).toInt = 0 by decide); have := lv_neT h38 (show (1 : Int32).toInt = 1 by decide); have := lv_neT h43 (show (2 : Int32).toInt = 2 by decide); have := lv_neT h53 (show (3 : Int32).toInt = 3 by decide); have := lv_neT h65 (show (4 : Int32).toInt = 4 by decide); have := lv_neT h75 (show (5 : Int32).toInt = 5 by decide); have := lv_neT h82 (show (6 : Int32).toInt = 6 by decide); have := lv_neT h94 (show (7 : Int32).toInt = 7 by decide); have := lv_neT h104 (show (8 : Int32).toInt = 8 by decide); have := lv_neT h113 (show (9 : Int32).toInt = 9 by decide); have := lv_neT h125 (show (10 : Int32).toInt = 10 by decide); have := lv_neT h135 (show (11 : Int32).toInt = 11 by decide); have := lv_neT h145 (show (12 : Int32).toInt = 12 by decide); have := lv_neT h157 (show (13 : Int32).toInt = 13 by decide); have := lv_neT h169 (show (14 : Int32).toInt = 14 by decide); have := lv_neT h179 (show (15 : Int32).toInt = 15 by decide); have := lv_neT h189 (show (16 : Int32).toInt = 16 by decide); have := lv_neT h198 (show (17 : Int32).toInt = 17 by decide); have := lv_neT h212 (show (18 : Int32).toInt = 18 by decide); have := lv_neT h222 (show (19 : Int32).toInt = 19 by decide); have := lv_neT h227 (show (20 : Int32).toInt = 20 by decide); have := lv_neT h239 (show (21 : Int32).toInt = 21 by decide); have := lv_neT h249 (show (22 : Int32).toInt = 22 by decide); have := lv_neT h254 (show (23 : Int32).toInt = 23 by decide); have := lv_neT h259 (show (24 : Int32).toInt = 24 by decide); have := lv_neT h269 (show (25 : Int32).toInt = 25 by decide); have := lv_neT h279 (show (26 : Int32).toInt = 26 by decide); omega) (by decide) ?_
        refine kx_iinc (v := (v10 + 6)) K [(4, .int (v10 + 6)), (0, .ref b), (1, .ref v7), (2, .ref v8), (3, .ref v9)] dL_law_1569 4 rfl rfl (by decide) rfl ?_
        refine kx_goto K 23 dL_law_1572 (by decide) ?_
        refine kx_sub [(0, .ref b), (1, .ref v7), (2, .ref v8), (3, .ref v9), (4, .int (v10 + 6))] [1, 2, 3, 4, 0] rfl ?_
        refine kx_wd (k' := k0 + 2) (n' := n0 + 12) (by omega) (by omega) ?_
        exact ih23 (k0 + 2) (n0 + 12) _ _ _ _ _ (by omega) (by omega) hf
  unfold m_L_law at hf
  refine kx_new K n_L_8 (by decide) (by decide) dL_law_0 ?_
  refine kx_dup K dL_law_3 rfl ?_
  refine kx_ci (As := []) (k' := 133) (n' := 3198) K c_L_77 (by decide) rfl rfl (Nat.le_of_ble_eq_true rfl) dL_law_4 hf (fun _ _ h => k_X6_init h) (fun z3 σ2 hf => ?_)
  refine kx_astore_n K [(1, .ref q), (0, .ref b)] dL_law_7 rfl (by decide) rfl ?_
  refine kx_new K n_L_78 (by decide) (by decide) dL_law_8 ?_
  refine kx_dup K dL_law_11 rfl ?_
  refine kx_ci (As := []) (k' := 148) (n' := 7469) K c_L_80 (by decide) rfl rfl (Nat.le_of_ble_eq_true rfl) dL_law_12 hf (fun _ _ h => k_X7_init h) (fun z6 σ5 hf => ?_)
  refine kx_astore_n K [(2, .ref z3), (1, .ref q), (0, .ref b)] dL_law_15 rfl (by decide) rfl ?_
  refine kx_iconst (v := 1) K dL_law_16 (by decide) ?_
  refine kx_newa (kd := 3) (M := 1) (at9 := .long) K (by decide) rfl w_6 (by decide) (by decide) (by decide) (by decide) dL_law_17 ?_
  refine kx_astore_n K [(3, .ref z6), (2, .ref z3), (1, .ref q), (0, .ref b)] dL_law_19 rfl (by decide) rfl ?_
  refine kx_iconst (v := 0) K dL_law_20 (by decide) ?_
  refine kx_istore K [(4, .int (0 : Int32)), (3, .ref z6), (2, .ref z3), (1, .ref q), (0, .ref b)] dL_law_21 (by decide) rfl ?_
  refine kx_sub [(0, .ref b), (1, .ref q), (2, .ref z3), (3, .ref z6), (4, .int (0 : Int32))] [4, 3, 2, 1, 0] rfl ?_
  refine kx_N (M := fun _ => True) (fun _ _ => trivial) ?_
  exact B23 600 _ _ _ _ _ _ _ (by decide) (by decide) hf
