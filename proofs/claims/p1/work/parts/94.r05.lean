/-! rows of code, decoded and linked -/
theorem dt_r177 : dt_all (dt_row 177) (dt_co 177) = true := by decide +kernel
theorem dt_m177 : dt_mck 177 = true := by decide +kernel
theorem dt_r178 : dt_all (dt_row 178) (dt_co 178) = true := by decide +kernel
theorem dt_m178 : dt_mck 178 = true := by decide +kernel
theorem dt_r179 : dt_all (dt_row 179) (dt_co 179) = true := by decide +kernel
theorem dt_m179 : dt_mck 179 = true := by decide +kernel
theorem dt_r180 : dt_all (dt_row 180) (dt_co 180) = true := by decide +kernel
theorem dt_m180 : dt_mck 180 = true := by decide +kernel
theorem dt_r181 : dt_all (dt_row 181) (dt_co 181) = true := by decide +kernel
theorem dt_m181 : dt_mck 181 = true := by decide +kernel
theorem dt_r182 : dt_all (dt_row 182) (dt_co 182) = true := by decide +kernel
theorem dt_m182 : dt_mck 182 = true := by decide +kernel
theorem dt_r183 : dt_all (dt_row 183) (dt_co 183) = true := by decide +kernel
theorem dt_m183 : dt_mck 183 = true := by decide +kernel
theorem dt_r184 : dt_all (dt_row 184) (dt_co 184) = true := by decide +kernel
theorem dt_m184 : dt_mck 184 = true := by decide +kernel
theorem dt_r185 : dt_all (dt_row 185) (dt_co 185) = true := by decide +kernel
theorem dt_m185 : dt_mck 185 = true := by decide +kernel
theorem dt_r186 : dt_all (dt_row 186) (dt_co 186) = true := by decide +kernel
theorem dt_m186 : dt_mck 186 = true := by decide +kernel
theorem dt_r187 : dt_all (dt_row 187) (dt_co 187) = true := by decide +kernel
theorem dt_m187 : dt_mck 187 = true := by decide +kernel
theorem dt_r188 : dt_all (dt_row 188) (dt_co 188) = true := by decide +kernel
theorem dt_m188 : dt_mck 188 = true := by decide +kernel
theorem dt_r189 : dt_all (dt_row 189) (dt_co 189) = true := by decide +kernel
theorem dt_m189 : dt_mck 189 = true := by decide +kernel
theorem dt_r190 : dt_all (dt_row 190) (dt_co 190) = true := by decide +kernel
theorem dt_m190 : dt_mck 190 = true := by decide +kernel
theorem dt_r191 : dt_all (dt_row 191) (dt_co 191) = true := by decide +kernel
theorem dt_m191 : dt_mck 191 = true := by decide +kernel
theorem dt_r192 : dt_all (dt_row 192) (dt_co 192) = true := by decide +kernel
theorem dt_m192 : dt_mck 192 = true := by decide +kernel
theorem dt_r193 : dt_all (dt_row 193) (dt_co 193) = true := by decide +kernel
theorem dt_m193 : dt_mck 193 = true := by decide +kernel
theorem dt_r194 : dt_all (dt_row 194) (dt_co 194) = true := by decide +kernel
theorem dt_m194 : dt_mck 194 = true := by decide +kernel
theorem dt_r195 : dt_all (dt_row 195) (dt_co 195) = true := by decide +kernel
theorem dt_m195 : dt_mck 195 = true := by decide +kernel
theorem dt_r196 : dt_all (dt_row 196) (dt_co 196) = true := by decide +kernel
theorem dt_m196 : dt_mck 196 = true := by decide +kernel
theorem dt_r197 : dt_all (dt_row 197) (dt_co 197) = true := by decide +kernel
theorem dt_m197 : dt_mck 197 = true := by decide +kernel
theorem dt_r198 : dt_all (dt_row 198) (dt_co 198) = true := by decide +kernel
theorem dt_m198 : dt_mck 198 = true := by decide +kernel
theorem dt_r199 : dt_all (dt_row 199) (dt_co 199) = true := by decide +kernel
theorem dt_m199 : dt_mck 199 = true := by decide +kernel
theorem dt_r200 : dt_all (dt_row 200) (dt_co 200) = true := by decide +kernel
theorem dt_m200 : dt_mck 200 = true := by decide +kernel
theorem dt_r201 : dt_all (dt_row 201) (dt_co 201) = true := by decide +kernel
theorem dt_m201 : dt_mck 201 = true := by decide +kernel
theorem dt_r202 : dt_all (dt_row 202) (dt_co 202) = true := by decide +kernel
theorem dt_m202 : dt_mck 202 = true := by decide +kernel
theorem dt_r203 : dt_all (dt_row 203) (dt_co 203) = true := by decide +kernel
theorem dt_m203 : dt_mck 203 = true := by decide +kernel
theorem dt_r204 : dt_all (dt_row 204) (dt_co 204) = true := by decide +kernel
theorem dt_m204 : dt_mck 204 = true := by decide +kernel
theorem dt_r205 : dt_all (dt_row 205) (dt_co 205) = true := by decide +kernel
theorem dt_m205 : dt_mck 205 = true := by decide +kernel
theorem dt_r206 : dt_all (dt_row 206) (dt_co 206) = true := by decide +kernel
theorem dt_m206 : dt_mck 206 = true := by decide +kernel
theorem dt_r207 : dt_all (dt_row 207) (dt_co 207) = true := by decide +kernel
theorem dt_m207 : dt_mck 207 = true := by decide +kernel
theorem dt_r208 : dt_all (dt_row 208) (dt_co 208) = true := by decide +kernel
theorem dt_m208 : dt_mck 208 = true := by decide +kernel
theorem dt_r209 : dt_all (dt_row 209) (dt_co 209) = true := by decide +kernel
theorem dt_m209 : dt_mck 209 = true := by decide +kernel
theorem dt_r210 : dt_all (dt_row 210) (dt_co 210) = true := by decide +kernel
theorem dt_m210 : dt_mck 210 = true := by decide +kernel
theorem dt_r211 : dt_all (dt_row 211) (dt_co 211) = true := by decide +kernel
theorem dt_m211 : dt_mck 211 = true := by decide +kernel
theorem dt_r212 : dt_all (dt_row 212) (dt_co 212) = true := by decide +kernel
theorem dt_m212 : dt_mck 212 = true := by decide +kernel
theorem dt_r213 : dt_all (dt_row 213) (dt_co 213) = true := by decide +kernel
theorem dt_m213 : dt_mck 213 = true := by decide +kernel
theorem dt_r214 : dt_all (dt_row 214) (dt_co 214) = true := by decide +kernel
theorem dt_m214 : dt_mck 214 = true := by decide +kernel
theorem dt_r215 : dt_all (dt_row 215) (dt_co 215) = true := by decide +kernel
theorem dt_m215 : dt_mck 215 = true := by decide +kernel
theorem dt_r216 : dt_all (dt_row 216) (dt_co 216) = true := by decide +kernel
theorem dt_m216 : dt_mck 216 = true := by decide +kernel
theorem dt_r217 : dt_all (dt_row 217) (dt_co 217) = true := by decide +kernel
theorem dt_m217 : dt_mck 217 = true := by decide +kernel
theorem dt_r218 : dt_all (dt_row 218) (dt_co 218) = true := by decide +kernel
theorem dt_m218 : dt_mck 218 = true := by decide +kernel
theorem dt_r219 : dt_all (dt_row 219) (dt_co 219) = true := by decide +kernel
theorem dt_m219 : dt_mck 219 = true := by decide +kernel
theorem dt_r220 : dt_all (dt_row 220) (dt_co 220) = true := by decide +kernel
theorem dt_m220 : dt_mck 220 = true := by decide +kernel
theorem dt_r221 : dt_all (dt_row 221) (dt_co 221) = true := by decide +kernel
theorem dt_m221 : dt_mck 221 = true := by decide +kernel
theorem dt_r222 : dt_all (dt_row 222) (dt_co 222) = true := by decide +kernel
theorem dt_m222 : dt_mck 222 = true := by decide +kernel
theorem dt_r223 : dt_all (dt_row 223) (dt_co 223) = true := by decide +kernel
theorem dt_m223 : dt_mck 223 = true := by decide +kernel
theorem dt_r224 : dt_all (dt_row 224) (dt_co 224) = true := by decide +kernel
theorem dt_m224 : dt_mck 224 = true := by decide +kernel
theorem dt_r225 : dt_all (dt_row 225) (dt_co 225) = true := by decide +kernel
theorem dt_m225 : dt_mck 225 = true := by decide +kernel
theorem dt_r226 : dt_all (dt_row 226) (dt_co 226) = true := by decide +kernel
theorem dt_m226 : dt_mck 226 = true := by decide +kernel
theorem dt_r227 : dt_all (dt_row 227) (dt_co 227) = true := by decide +kernel
theorem dt_m227 : dt_mck 227 = true := by decide +kernel
theorem dt_r228 : dt_all (dt_row 228) (dt_co 228) = true := by decide +kernel
theorem dt_m228 : dt_mck 228 = true := by decide +kernel
set_option maxRecDepth 10000 in
theorem dt_R5 : ∀ y, y < 229 → dt_all (dt_row y) (dt_co y) = true := (dt_one (dt_one (dt_one (dt_one (dt_one (dt_one (dt_one (dt_one (dt_one (dt_one (dt_one (dt_one (dt_one (dt_one (dt_one (dt_one (dt_one (dt_one (dt_one (dt_one (dt_one (dt_one (dt_one (dt_one (dt_one (dt_one (dt_one (dt_one (dt_one (dt_one (dt_one (dt_one (dt_one (dt_one (dt_one (dt_one (dt_one (dt_one (dt_one (dt_one (dt_one (dt_one (dt_one (dt_one (dt_one (dt_one (dt_one (dt_one (dt_one (dt_one (dt_one (dt_one dt_R4 dt_r177) dt_r178) dt_r179) dt_r180) dt_r181) dt_r182) dt_r183) dt_r184) dt_r185) dt_r186) dt_r187) dt_r188) dt_r189) dt_r190) dt_r191) dt_r192) dt_r193) dt_r194) dt_r195) dt_r196) dt_r197) dt_r198) dt_r199) dt_r200) dt_r201) dt_r202) dt_r203) dt_r204) dt_r205) dt_r206) dt_r207) dt_r208) dt_r209) dt_r210) dt_r211) dt_r212) dt_r213) dt_r214) dt_r215) dt_r216) dt_r217) dt_r218) dt_r219) dt_r220) dt_r221) dt_r222) dt_r223) dt_r224) dt_r225) dt_r226) dt_r227) dt_r228)
set_option maxRecDepth 10000 in
theorem dt_Q5 : ∀ y, y < 229 → 0 < y → dt_mck y = true := (dt_one (dt_one (dt_one (dt_one (dt_one (dt_one (dt_one (dt_one (dt_one (dt_one (dt_one (dt_one (dt_one (dt_one (dt_one (dt_one (dt_one (dt_one (dt_one (dt_one (dt_one (dt_one (dt_one (dt_one (dt_one (dt_one (dt_one (dt_one (dt_one (dt_one (dt_one (dt_one (dt_one (dt_one (dt_one (dt_one (dt_one (dt_one (dt_one (dt_one (dt_one (dt_one (dt_one (dt_one (dt_one (dt_one (dt_one (dt_one (dt_one (dt_one (dt_one (dt_one dt_Q4 (fun _ => dt_m177)) (fun _ => dt_m178)) (fun _ => dt_m179)) (fun _ => dt_m180)) (fun _ => dt_m181)) (fun _ => dt_m182)) (fun _ => dt_m183)) (fun _ => dt_m184)) (fun _ => dt_m185)) (fun _ => dt_m186)) (fun _ => dt_m187)) (fun _ => dt_m188)) (fun _ => dt_m189)) (fun _ => dt_m190)) (fun _ => dt_m191)) (fun _ => dt_m192)) (fun _ => dt_m193)) (fun _ => dt_m194)) (fun _ => dt_m195)) (fun _ => dt_m196)) (fun _ => dt_m197)) (fun _ => dt_m198)) (fun _ => dt_m199)) (fun _ => dt_m200)) (fun _ => dt_m201)) (fun _ => dt_m202)) (fun _ => dt_m203)) (fun _ => dt_m204)) (fun _ => dt_m205)) (fun _ => dt_m206)) (fun _ => dt_m207)) (fun _ => dt_m208)) (fun _ => dt_m209)) (fun _ => dt_m210)) (fun _ => dt_m211)) (fun _ => dt_m212)) (fun _ => dt_m213)) (fun _ => dt_m214)) (fun _ => dt_m215)) (fun _ => dt_m216)) (fun _ => dt_m217)) (fun _ => dt_m218)) (fun _ => dt_m219)) (fun _ => dt_m220)) (fun _ => dt_m221)) (fun _ => dt_m222)) (fun _ => dt_m223)) (fun _ => dt_m224)) (fun _ => dt_m225)) (fun _ => dt_m226)) (fun _ => dt_m227)) (fun _ => dt_m228))
