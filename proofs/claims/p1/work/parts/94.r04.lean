/-! rows of code, decoded and linked -/
theorem dt_r138 : dt_all (dt_row 138) (dt_co 138) = true := by decide +kernel
theorem dt_m138 : dt_mck 138 = true := by decide +kernel
theorem dt_r139 : dt_all (dt_row 139) (dt_co 139) = true := by decide +kernel
theorem dt_m139 : dt_mck 139 = true := by decide +kernel
theorem dt_r140 : dt_all (dt_row 140) (dt_co 140) = true := by decide +kernel
theorem dt_m140 : dt_mck 140 = true := by decide +kernel
theorem dt_r141 : dt_all (dt_row 141) (dt_co 141) = true := by decide +kernel
theorem dt_m141 : dt_mck 141 = true := by decide +kernel
theorem dt_r142 : dt_all (dt_row 142) (dt_co 142) = true := by decide +kernel
theorem dt_m142 : dt_mck 142 = true := by decide +kernel
theorem dt_r143 : dt_all (dt_row 143) (dt_co 143) = true := by decide +kernel
theorem dt_m143 : dt_mck 143 = true := by decide +kernel
theorem dt_r144 : dt_all (dt_row 144) (dt_co 144) = true := by decide +kernel
theorem dt_m144 : dt_mck 144 = true := by decide +kernel
theorem dt_r145 : dt_all (dt_row 145) (dt_co 145) = true := by decide +kernel
theorem dt_m145 : dt_mck 145 = true := by decide +kernel
theorem dt_r146 : dt_all (dt_row 146) (dt_co 146) = true := by decide +kernel
theorem dt_m146 : dt_mck 146 = true := by decide +kernel
theorem dt_r147 : dt_all (dt_row 147) (dt_co 147) = true := by decide +kernel
theorem dt_m147 : dt_mck 147 = true := by decide +kernel
theorem dt_r148 : dt_all (dt_row 148) (dt_co 148) = true := by decide +kernel
theorem dt_m148 : dt_mck 148 = true := by decide +kernel
theorem dt_r149 : dt_all (dt_row 149) (dt_co 149) = true := by decide +kernel
theorem dt_m149 : dt_mck 149 = true := by decide +kernel
theorem dt_r150 : dt_all (dt_row 150) (dt_co 150) = true := by decide +kernel
theorem dt_m150 : dt_mck 150 = true := by decide +kernel
theorem dt_r151 : dt_all (dt_row 151) (dt_co 151) = true := by decide +kernel
theorem dt_m151 : dt_mck 151 = true := by decide +kernel
theorem dt_r152 : dt_all (dt_row 152) (dt_co 152) = true := by decide +kernel
theorem dt_m152 : dt_mck 152 = true := by decide +kernel
theorem dt_r153 : dt_all (dt_row 153) (dt_co 153) = true := by decide +kernel
theorem dt_m153 : dt_mck 153 = true := by decide +kernel
theorem dt_r154 : dt_all (dt_row 154) (dt_co 154) = true := by decide +kernel
theorem dt_m154 : dt_mck 154 = true := by decide +kernel
theorem dt_r155 : dt_all (dt_row 155) (dt_co 155) = true := by decide +kernel
theorem dt_m155 : dt_mck 155 = true := by decide +kernel
theorem dt_r156 : dt_all (dt_row 156) (dt_co 156) = true := by decide +kernel
theorem dt_m156 : dt_mck 156 = true := by decide +kernel
theorem dt_r157 : dt_all (dt_row 157) (dt_co 157) = true := by decide +kernel
theorem dt_m157 : dt_mck 157 = true := by decide +kernel
theorem dt_r158 : dt_all (dt_row 158) (dt_co 158) = true := by decide +kernel
theorem dt_m158 : dt_mck 158 = true := by decide +kernel
theorem dt_r159 : dt_all (dt_row 159) (dt_co 159) = true := by decide +kernel
theorem dt_m159 : dt_mck 159 = true := by decide +kernel
theorem dt_r160 : dt_all (dt_row 160) (dt_co 160) = true := by decide +kernel
theorem dt_m160 : dt_mck 160 = true := by decide +kernel
theorem dt_r161 : dt_all (dt_row 161) (dt_co 161) = true := by decide +kernel
theorem dt_m161 : dt_mck 161 = true := by decide +kernel
theorem dt_r162 : dt_all (dt_row 162) (dt_co 162) = true := by decide +kernel
theorem dt_m162 : dt_mck 162 = true := by decide +kernel
theorem dt_r163 : dt_all (dt_row 163) (dt_co 163) = true := by decide +kernel
theorem dt_m163 : dt_mck 163 = true := by decide +kernel
theorem dt_r164 : dt_all (dt_row 164) (dt_co 164) = true := by decide +kernel
theorem dt_m164 : dt_mck 164 = true := by decide +kernel
theorem dt_r165 : dt_all (dt_row 165) (dt_co 165) = true := by decide +kernel
theorem dt_m165 : dt_mck 165 = true := by decide +kernel
theorem dt_r166 : dt_all (dt_row 166) (dt_co 166) = true := by decide +kernel
theorem dt_m166 : dt_mck 166 = true := by decide +kernel
theorem dt_r167 : dt_all (dt_row 167) (dt_co 167) = true := by decide +kernel
theorem dt_m167 : dt_mck 167 = true := by decide +kernel
theorem dt_r168 : dt_all (dt_row 168) (dt_co 168) = true := by decide +kernel
theorem dt_m168 : dt_mck 168 = true := by decide +kernel
theorem dt_r169 : dt_all (dt_row 169) (dt_co 169) = true := by decide +kernel
theorem dt_m169 : dt_mck 169 = true := by decide +kernel
theorem dt_r170 : dt_all (dt_row 170) (dt_co 170) = true := by decide +kernel
theorem dt_m170 : dt_mck 170 = true := by decide +kernel
theorem dt_r171 : dt_all (dt_row 171) (dt_co 171) = true := by decide +kernel
theorem dt_m171 : dt_mck 171 = true := by decide +kernel
theorem dt_r172 : dt_all (dt_row 172) (dt_co 172) = true := by decide +kernel
theorem dt_m172 : dt_mck 172 = true := by decide +kernel
theorem dt_r173 : dt_all (dt_row 173) (dt_co 173) = true := by decide +kernel
theorem dt_m173 : dt_mck 173 = true := by decide +kernel
theorem dt_r174 : dt_all (dt_row 174) (dt_co 174) = true := by decide +kernel
theorem dt_m174 : dt_mck 174 = true := by decide +kernel
theorem dt_r175 : dt_all (dt_row 175) (dt_co 175) = true := by decide +kernel
theorem dt_m175 : dt_mck 175 = true := by decide +kernel
theorem dt_r176 : dt_all (dt_row 176) (dt_co 176) = true := by decide +kernel
theorem dt_m176 : dt_mck 176 = true := by decide +kernel
set_option maxRecDepth 10000 in
theorem dt_R4 : ∀ y, y < 177 → dt_all (dt_row y) (dt_co y) = true := (dt_one (dt_one (dt_one (dt_one (dt_one (dt_one (dt_one (dt_one (dt_one (dt_one (dt_one (dt_one (dt_one (dt_one (dt_one (dt_one (dt_one (dt_one (dt_one (dt_one (dt_one (dt_one (dt_one (dt_one (dt_one (dt_one (dt_one (dt_one (dt_one (dt_one (dt_one (dt_one (dt_one (dt_one (dt_one (dt_one (dt_one (dt_one (dt_one dt_R3 dt_r138) dt_r139) dt_r140) dt_r141) dt_r142) dt_r143) dt_r144) dt_r145) dt_r146) dt_r147) dt_r148) dt_r149) dt_r150) dt_r151) dt_r152) dt_r153) dt_r154) dt_r155) dt_r156) dt_r157) dt_r158) dt_r159) dt_r160) dt_r161) dt_r162) dt_r163) dt_r164) dt_r165) dt_r166) dt_r167) dt_r168) dt_r169) dt_r170) dt_r171) dt_r172) dt_r173) dt_r174) dt_r175) dt_r176)
set_option maxRecDepth 10000 in
theorem dt_Q4 : ∀ y, y < 177 → 0 < y → dt_mck y = true := (dt_one (dt_one (dt_one (dt_one (dt_one (dt_one (dt_one (dt_one (dt_one (dt_one (dt_one (dt_one (dt_one (dt_one (dt_one (dt_one (dt_one (dt_one (dt_one (dt_one (dt_one (dt_one (dt_one (dt_one (dt_one (dt_one (dt_one (dt_one (dt_one (dt_one (dt_one (dt_one (dt_one (dt_one (dt_one (dt_one (dt_one (dt_one (dt_one dt_Q3 (fun _ => dt_m138)) (fun _ => dt_m139)) (fun _ => dt_m140)) (fun _ => dt_m141)) (fun _ => dt_m142)) (fun _ => dt_m143)) (fun _ => dt_m144)) (fun _ => dt_m145)) (fun _ => dt_m146)) (fun _ => dt_m147)) (fun _ => dt_m148)) (fun _ => dt_m149)) (fun _ => dt_m150)) (fun _ => dt_m151)) (fun _ => dt_m152)) (fun _ => dt_m153)) (fun _ => dt_m154)) (fun _ => dt_m155)) (fun _ => dt_m156)) (fun _ => dt_m157)) (fun _ => dt_m158)) (fun _ => dt_m159)) (fun _ => dt_m160)) (fun _ => dt_m161)) (fun _ => dt_m162)) (fun _ => dt_m163)) (fun _ => dt_m164)) (fun _ => dt_m165)) (fun _ => dt_m166)) (fun _ => dt_m167)) (fun _ => dt_m168)) (fun _ => dt_m169)) (fun _ => dt_m170)) (fun _ => dt_m171)) (fun _ => dt_m172)) (fun _ => dt_m173)) (fun _ => dt_m174)) (fun _ => dt_m175)) (fun _ => dt_m176))
