-- ===== the law =====
def mL_law : MU := (⟨"RockingGuardLaw", "law", "([I)Z"⟩, code, 4, (some .boolean), 99, 1)
theorem meX10_init : MeC mX10_init := ⟨miX10_init, tb_1 (List.mem_of_getElem? (i := 24) (by decide +kernel)) rfl, rfl, rfl⟩
theorem meX11_init : MeC mX11_init := ⟨miX11_init, tb_5 (List.mem_of_getElem? (i := 190) (by decide +kernel)) rfl, rfl, rfl⟩
theorem meX10_feed : MeV mX10_feed := ⟨miX10_feed, tb_2 (List.mem_of_getElem? (i := 91) (by decide +kernel)) rfl, tb_2 (List.mem_of_getElem? (i := 92) (by decide +kernel)) rfl, by decide, _, rfl, rfl⟩
theorem meX11_feed : MeV mX11_feed := ⟨miX11_feed, tb_6 (List.mem_of_getElem? (i := 70) (by decide +kernel)) rfl, tb_6 (List.mem_of_getElem? (i := 71) (by decide +kernel)) rfl, by decide, _, rfl, rfl⟩
theorem meX10_end : MeV mX10_end := ⟨miX10_end, tb_2 (List.mem_of_getElem? (i := 103) (by decide +kernel)) rfl, tb_2 (List.mem_of_getElem? (i := 104) (by decide +kernel)) rfl, by decide, _, rfl, rfl⟩
theorem meX11_end : MeV mX11_end := ⟨miX11_end, tb_6 (List.mem_of_getElem? (i := 78) (by decide +kernel)) rfl, tb_6 (List.mem_of_getElem? (i := 79) (by decide +kernel)) rfl, by decide, _, rfl, rfl⟩
theorem meX10_text : MeV mX10_text := ⟨miX10_text, tb_2 (List.mem_of_getElem? (i := 111) (by decide +kernel)) rfl, tb_2 (List.mem_of_getElem? (i := 112) (by decide +kernel)) rfl, by decide, _, rfl, rfl⟩
theorem meX11_text : MeV mX11_text := ⟨miX11_text, tb_6 (List.mem_of_getElem? (i := 82) (by decide +kernel)) rfl, tb_6 (List.mem_of_getElem? (i := 83) (by decide +kernel)) rfl, by decide, _, rfl, rfl⟩
theorem meX10_fault : MeV mX10_fault := ⟨miX10_fault, tb_3 (List.mem_of_getElem? (i := 88) (by decide +kernel)) rfl, tb_3 (List.mem_of_getElem? (i := 89) (by decide +kernel)) rfl, by decide, _, rfl, rfl⟩
theorem meX11_fault : MeV mX11_fault := ⟨miX11_fault, tb_6 (List.mem_of_getElem? (i := 222) (by decide +kernel)) rfl, tb_6 (List.mem_of_getElem? (i := 223) (by decide +kernel)) rfl, by decide, _, rfl, rfl⟩
theorem meX10_by : MeV mX10_by := ⟨miX10_by, tb_3 (List.mem_of_getElem? (i := 92) (by decide +kernel)) rfl, tb_3 (List.mem_of_getElem? (i := 93) (by decide +kernel)) rfl, by decide, _, rfl, rfl⟩
theorem meX11_by : MeV mX11_by := ⟨miX11_by, tb_6 (List.mem_of_getElem? (i := 226) (by decide +kernel)) rfl, tb_6 (List.mem_of_getElem? (i := 227) (by decide +kernel)) rfl, by decide, _, rfl, rfl⟩
theorem meX10_minute : MeV mX10_minute := ⟨miX10_minute, tb_3 (List.mem_of_getElem? (i := 187) (by decide +kernel)) rfl, tb_3 (List.mem_of_getElem? (i := 188) (by decide +kernel)) rfl, by decide, _, rfl, rfl⟩
theorem meX11_minute : MeV mX11_minute := ⟨miX11_minute, tb_7 (List.mem_of_getElem? (i := 50) (by decide +kernel)) rfl, tb_7 (List.mem_of_getElem? (i := 51) (by decide +kernel)) rfl, by decide, _, rfl, rfl⟩
theorem meX10_played : MeV mX10_played := ⟨miX10_played, tb_4 (List.mem_of_getElem? (i := 70) (by decide +kernel)) rfl, tb_4 (List.mem_of_getElem? (i := 71) (by decide +kernel)) rfl, by decide, _, rfl, rfl⟩
theorem meX11_played : MeV mX11_played := ⟨miX11_played, tb_7 (List.mem_of_getElem? (i := 142) (by decide +kernel)) rfl, tb_7 (List.mem_of_getElem? (i := 143) (by decide +kernel)) rfl, by decide, _, rfl, rfl⟩
theorem meX10_winters : MeV mX10_winters := ⟨miX10_winters, tb_4 (List.mem_of_getElem? (i := 102) (by decide +kernel)) rfl, tb_4 (List.mem_of_getElem? (i := 103) (by decide +kernel)) rfl, by decide, _, rfl, rfl⟩
theorem meX11_winters : MeV mX11_winters := ⟨miX11_winters, tb_7 (List.mem_of_getElem? (i := 157) (by decide +kernel)) rfl, tb_7 (List.mem_of_getElem? (i := 158) (by decide +kernel)) rfl, by decide, _, rfl, rfl⟩
theorem meX10_undo : MeV mX10_undo := ⟨miX10_undo, tb_4 (List.mem_of_getElem? (i := 124) (by decide +kernel)) rfl, tb_4 (List.mem_of_getElem? (i := 125) (by decide +kernel)) rfl, by decide, _, rfl, rfl⟩
theorem meX11_undo : MeV mX11_undo := ⟨miX11_undo, tb_6 (List.mem_of_getElem? (i := 230) (by decide +kernel)) rfl, tb_6 (List.mem_of_getElem? (i := 231) (by decide +kernel)) rfl, by decide, _, rfl, rfl⟩
theorem meX10_ofHorse : MeV mX10_ofHorse := ⟨miX10_ofHorse, tb_4 (List.mem_of_getElem? (i := 134) (by decide +kernel)) rfl, tb_4 (List.mem_of_getElem? (i := 135) (by decide +kernel)) rfl, by decide, _, rfl, rfl⟩
theorem meX11_ofHorse : MeV mX11_ofHorse := ⟨miX11_ofHorse, tb_7 (List.mem_of_getElem? (i := 168) (by decide +kernel)) rfl, tb_7 (List.mem_of_getElem? (i := 169) (by decide +kernel)) rfl, by decide, _, rfl, rfl⟩
theorem meX10_ofBoy : MeV mX10_ofBoy := ⟨miX10_ofBoy, tb_4 (List.mem_of_getElem? (i := 150) (by decide +kernel)) rfl, tb_4 (List.mem_of_getElem? (i := 151) (by decide +kernel)) rfl, by decide, _, rfl, rfl⟩
theorem meX11_ofBoy : MeV mX11_ofBoy := ⟨miX11_ofBoy, tb_7 (List.mem_of_getElem? (i := 172) (by decide +kernel)) rfl, tb_7 (List.mem_of_getElem? (i := 173) (by decide +kernel)) rfl, by decide, _, rfl, rfl⟩
theorem meX10_is : MeV mX10_is := ⟨miX10_is, tb_4 (List.mem_of_getElem? (i := 158) (by decide +kernel)) rfl, tb_4 (List.mem_of_getElem? (i := 159) (by decide +kernel)) rfl, by decide, _, rfl, rfl⟩
theorem meX11_is : MeV mX11_is := ⟨miX11_is, tb_7 (List.mem_of_getElem? (i := 176) (by decide +kernel)) rfl, tb_7 (List.mem_of_getElem? (i := 177) (by decide +kernel)) rfl, by decide, _, rfl, rfl⟩
theorem meX10_book : MeV mX10_book := ⟨miX10_book, tb_4 (List.mem_of_getElem? (i := 169) (by decide +kernel)) rfl, tb_4 (List.mem_of_getElem? (i := 170) (by decide +kernel)) rfl, by decide, _, rfl, rfl⟩
theorem meX11_book : MeV mX11_book := ⟨miX11_book, tb_7 (List.mem_of_getElem? (i := 184) (by decide +kernel)) rfl, tb_7 (List.mem_of_getElem? (i := 185) (by decide +kernel)) rfl, by decide, _, rfl, rfl⟩
theorem meX10_rocking : MeV mX10_rocking := ⟨miX10_rocking, tb_4 (List.mem_of_getElem? (i := 178) (by decide +kernel)) rfl, tb_4 (List.mem_of_getElem? (i := 179) (by decide +kernel)) rfl, by decide, _, rfl, rfl⟩
theorem meX11_rocking : MeV mX11_rocking := ⟨miX11_rocking, tb_8 (List.mem_of_getElem? (i := 4) (by decide +kernel)) rfl, tb_8 (List.mem_of_getElem? (i := 5) (by decide +kernel)) rfl, by decide, _, rfl, rfl⟩
theorem meX10_together : MeV mX10_together := ⟨miX10_together, tb_4 (List.mem_of_getElem? (i := 182) (by decide +kernel)) rfl, tb_4 (List.mem_of_getElem? (i := 183) (by decide +kernel)) rfl, by decide, _, rfl, rfl⟩
theorem meX11_together : MeV mX11_together := ⟨miX11_together, tb_8 (List.mem_of_getElem? (i := 8) (by decide +kernel)) rfl, tb_8 (List.mem_of_getElem? (i := 9) (by decide +kernel)) rfl, by decide, _, rfl, rfl⟩
theorem meX10_foretold : MeV mX10_foretold := ⟨miX10_foretold, tb_4 (List.mem_of_getElem? (i := 192) (by decide +kernel)) rfl, tb_4 (List.mem_of_getElem? (i := 193) (by decide +kernel)) rfl, by decide, _, rfl, rfl⟩
theorem meX11_foretold : MeV mX11_foretold := ⟨miX11_foretold, tb_7 (List.mem_of_getElem? (i := 220) (by decide +kernel)) rfl, tb_7 (List.mem_of_getElem? (i := 221) (by decide +kernel)) rfl, by decide, _, rfl, rfl⟩
theorem meX10_firstSlide : MeV mX10_firstSlide := ⟨miX10_firstSlide, tb_4 (List.mem_of_getElem? (i := 200) (by decide +kernel)) rfl, tb_4 (List.mem_of_getElem? (i := 201) (by decide +kernel)) rfl, by decide, _, rfl, rfl⟩
theorem meX11_firstSlide : MeV mX11_firstSlide := ⟨miX11_firstSlide, tb_7 (List.mem_of_getElem? (i := 232) (by decide +kernel)) rfl, tb_7 (List.mem_of_getElem? (i := 233) (by decide +kernel)) rfl, by decide, _, rfl, rfl⟩
theorem meX10_unmanned : MeV mX10_unmanned := ⟨miX10_unmanned, tb_4 (List.mem_of_getElem? (i := 204) (by decide +kernel)) rfl, tb_4 (List.mem_of_getElem? (i := 205) (by decide +kernel)) rfl, by decide, _, rfl, rfl⟩
theorem meX11_unmanned : MeV mX11_unmanned := ⟨miX11_unmanned, tb_7 (List.mem_of_getElem? (i := 236) (by decide +kernel)) rfl, tb_7 (List.mem_of_getElem? (i := 237) (by decide +kernel)) rfl, by decide, _, rfl, rfl⟩
theorem meX10_safe : MeV mX10_safe := ⟨miX10_safe, tb_4 (List.mem_of_getElem? (i := 209) (by decide +kernel)) rfl, tb_4 (List.mem_of_getElem? (i := 210) (by decide +kernel)) rfl, by decide, _, rfl, rfl⟩
theorem meX11_safe : MeV mX11_safe := ⟨miX11_safe, tb_8 (List.mem_of_getElem? (i := 12) (by decide +kernel)) rfl, tb_8 (List.mem_of_getElem? (i := 13) (by decide +kernel)) rfl, by decide, _, rfl, rfl⟩
theorem meX10_heard : MeV mX10_heard := ⟨miX10_heard, tb_4 (List.mem_of_getElem? (i := 224) (by decide +kernel)) rfl, tb_4 (List.mem_of_getElem? (i := 225) (by decide +kernel)) rfl, by decide, _, rfl, rfl⟩
theorem meX11_heard : MeV mX11_heard := ⟨miX11_heard, tb_8 (List.mem_of_getElem? (i := 20) (by decide +kernel)) rfl, tb_8 (List.mem_of_getElem? (i := 21) (by decide +kernel)) rfl, by decide, _, rfl, rfl⟩
theorem meX10_rode : MeV mX10_rode := ⟨miX10_rode, tb_4 (List.mem_of_getElem? (i := 236) (by decide +kernel)) rfl, tb_4 (List.mem_of_getElem? (i := 237) (by decide +kernel)) rfl, by decide, _, rfl, rfl⟩
theorem meX11_rode : MeV mX11_rode := ⟨miX11_rode, tb_8 (List.mem_of_getElem? (i := 24) (by decide +kernel)) rfl, tb_8 (List.mem_of_getElem? (i := 25) (by decide +kernel)) rfl, by decide, _, rfl, rfl⟩
theorem meX10_listen : MeV mX10_listen := ⟨miX10_listen, tb_5 (List.mem_of_getElem? (i := 26) (by decide +kernel)) rfl, tb_5 (List.mem_of_getElem? (i := 27) (by decide +kernel)) rfl, by decide, _, rfl, rfl⟩
theorem meX11_listen : MeV mX11_listen := ⟨miX11_listen, tb_8 (List.mem_of_getElem? (i := 32) (by decide +kernel)) rfl, tb_8 (List.mem_of_getElem? (i := 33) (by decide +kernel)) rfl, by decide, _, rfl, rfl⟩
theorem meX10_watch : MeV mX10_watch := ⟨miX10_watch, tb_5 (List.mem_of_getElem? (i := 34) (by decide +kernel)) rfl, tb_5 (List.mem_of_getElem? (i := 35) (by decide +kernel)) rfl, by decide, _, rfl, rfl⟩
theorem meX11_watch : MeV mX11_watch := ⟨miX11_watch, tb_8 (List.mem_of_getElem? (i := 40) (by decide +kernel)) rfl, tb_8 (List.mem_of_getElem? (i := 41) (by decide +kernel)) rfl, by decide, _, rfl, rfl⟩
theorem meX10_manned : MeV mX10_manned := ⟨miX10_manned, tb_5 (List.mem_of_getElem? (i := 38) (by decide +kernel)) rfl, tb_5 (List.mem_of_getElem? (i := 39) (by decide +kernel)) rfl, by decide, _, rfl, rfl⟩
theorem meX11_manned : MeV mX11_manned := ⟨miX11_manned, tb_8 (List.mem_of_getElem? (i := 44) (by decide +kernel)) rfl, tb_8 (List.mem_of_getElem? (i := 45) (by decide +kernel)) rfl, by decide, _, rfl, rfl⟩
theorem meX10_below : MeV mX10_below := ⟨miX10_below, tb_5 (List.mem_of_getElem? (i := 72) (by decide +kernel)) rfl, tb_5 (List.mem_of_getElem? (i := 73) (by decide +kernel)) rfl, by decide, _, rfl, rfl⟩
theorem meX11_below : MeV mX11_below := ⟨miX11_below, tb_8 (List.mem_of_getElem? (i := 60) (by decide +kernel)) rfl, tb_8 (List.mem_of_getElem? (i := 61) (by decide +kernel)) rfl, by decide, _, rfl, rfl⟩
theorem meX10_gale : MeV mX10_gale := ⟨miX10_gale, tb_5 (List.mem_of_getElem? (i := 91) (by decide +kernel)) rfl, tb_5 (List.mem_of_getElem? (i := 92) (by decide +kernel)) rfl, by decide, _, rfl, rfl⟩
theorem meX11_gale : MeV mX11_gale := ⟨miX11_gale, tb_8 (List.mem_of_getElem? (i := 73) (by decide +kernel)) rfl, tb_8 (List.mem_of_getElem? (i := 74) (by decide +kernel)) rfl, by decide, _, rfl, rfl⟩
theorem meX10_ropes : MeV mX10_ropes := ⟨miX10_ropes, tb_5 (List.mem_of_getElem? (i := 97) (by decide +kernel)) rfl, tb_5 (List.mem_of_getElem? (i := 98) (by decide +kernel)) rfl, by decide, _, rfl, rfl⟩
theorem meX11_ropes : MeV mX11_ropes := ⟨miX11_ropes, tb_8 (List.mem_of_getElem? (i := 77) (by decide +kernel)) rfl, tb_8 (List.mem_of_getElem? (i := 78) (by decide +kernel)) rfl, by decide, _, rfl, rfl⟩
theorem meX10_haul : MeV mX10_haul := ⟨miX10_haul, tb_5 (List.mem_of_getElem? (i := 105) (by decide +kernel)) rfl, tb_5 (List.mem_of_getElem? (i := 106) (by decide +kernel)) rfl, by decide, _, rfl, rfl⟩
theorem meX11_haul : MeV mX11_haul := ⟨miX11_haul, tb_8 (List.mem_of_getElem? (i := 81) (by decide +kernel)) rfl, tb_8 (List.mem_of_getElem? (i := 82) (by decide +kernel)) rfl, by decide, _, rfl, rfl⟩
theorem meX10_oilings : MeV mX10_oilings := ⟨miX10_oilings, tb_5 (List.mem_of_getElem? (i := 109) (by decide +kernel)) rfl, tb_5 (List.mem_of_getElem? (i := 110) (by decide +kernel)) rfl, by decide, _, rfl, rfl⟩
theorem meX11_oilings : MeV mX11_oilings := ⟨miX11_oilings, tb_8 (List.mem_of_getElem? (i := 85) (by decide +kernel)) rfl, tb_8 (List.mem_of_getElem? (i := 86) (by decide +kernel)) rfl, by decide, _, rfl, rfl⟩
theorem meX10_show : MeV mX10_show := ⟨miX10_show, tb_5 (List.mem_of_getElem? (i := 121) (by decide +kernel)) rfl, tb_5 (List.mem_of_getElem? (i := 122) (by decide +kernel)) rfl, by decide, _, rfl, rfl⟩
theorem meX11_show : MeV mX11_show := ⟨miX11_show, tb_8 (List.mem_of_getElem? (i := 89) (by decide +kernel)) rfl, tb_8 (List.mem_of_getElem? (i := 90) (by decide +kernel)) rfl, by decide, _, rfl, rfl⟩
theorem meX10_counted : MeV mX10_counted := ⟨miX10_counted, tb_5 (List.mem_of_getElem? (i := 129) (by decide +kernel)) rfl, tb_5 (List.mem_of_getElem? (i := 130) (by decide +kernel)) rfl, by decide, _, rfl, rfl⟩
theorem meX11_counted : MeV mX11_counted := ⟨miX11_counted, tb_8 (List.mem_of_getElem? (i := 93) (by decide +kernel)) rfl, tb_8 (List.mem_of_getElem? (i := 94) (by decide +kernel)) rfl, by decide, _, rfl, rfl⟩
theorem meX10_whose : MeV mX10_whose := ⟨miX10_whose, tb_5 (List.mem_of_getElem? (i := 133) (by decide +kernel)) rfl, tb_5 (List.mem_of_getElem? (i := 134) (by decide +kernel)) rfl, by decide, _, rfl, rfl⟩
theorem meX11_whose : MeV mX11_whose := ⟨miX11_whose, tb_8 (List.mem_of_getElem? (i := 97) (by decide +kernel)) rfl, tb_8 (List.mem_of_getElem? (i := 98) (by decide +kernel)) rfl, by decide, _, rfl, rfl⟩
theorem meX10_slid : MeV mX10_slid := ⟨miX10_slid, tb_5 (List.mem_of_getElem? (i := 142) (by decide +kernel)) rfl, tb_5 (List.mem_of_getElem? (i := 143) (by decide +kernel)) rfl, by decide, _, rfl, rfl⟩
theorem meX11_slid : MeV mX11_slid := ⟨miX11_slid, tb_7 (List.mem_of_getElem? (i := 196) (by decide +kernel)) rfl, tb_7 (List.mem_of_getElem? (i := 197) (by decide +kernel)) rfl, by decide, _, rfl, rfl⟩
theorem meX10_inStep : MeV mX10_inStep := ⟨miX10_inStep, tb_5 (List.mem_of_getElem? (i := 146) (by decide +kernel)) rfl, tb_5 (List.mem_of_getElem? (i := 147) (by decide +kernel)) rfl, by decide, _, rfl, rfl⟩
theorem meX11_inStep : MeV mX11_inStep := ⟨miX11_inStep, tb_7 (List.mem_of_getElem? (i := 200) (by decide +kernel)) rfl, tb_7 (List.mem_of_getElem? (i := 201) (by decide +kernel)) rfl, by decide, _, rfl, rfl⟩
theorem meX10_tiredest : MeV mX10_tiredest := ⟨miX10_tiredest, tb_5 (List.mem_of_getElem? (i := 150) (by decide +kernel)) rfl, tb_5 (List.mem_of_getElem? (i := 151) (by decide +kernel)) rfl, by decide, _, rfl, rfl⟩
theorem meX11_tiredest : MeV mX11_tiredest := ⟨miX11_tiredest, tb_7 (List.mem_of_getElem? (i := 204) (by decide +kernel)) rfl, tb_7 (List.mem_of_getElem? (i := 205) (by decide +kernel)) rfl, by decide, _, rfl, rfl⟩
theorem meX10_veterans : MeV mX10_veterans := ⟨miX10_veterans, tb_5 (List.mem_of_getElem? (i := 154) (by decide +kernel)) rfl, tb_5 (List.mem_of_getElem? (i := 155) (by decide +kernel)) rfl, by decide, _, rfl, rfl⟩
theorem meX11_veterans : MeV mX11_veterans := ⟨miX11_veterans, tb_7 (List.mem_of_getElem? (i := 208) (by decide +kernel)) rfl, tb_7 (List.mem_of_getElem? (i := 209) (by decide +kernel)) rfl, by decide, _, rfl, rfl⟩
theorem meX10_lonely : MeV mX10_lonely := ⟨miX10_lonely, tb_5 (List.mem_of_getElem? (i := 158) (by decide +kernel)) rfl, tb_5 (List.mem_of_getElem? (i := 159) (by decide +kernel)) rfl, by decide, _, rfl, rfl⟩
theorem meX11_lonely : MeV mX11_lonely := ⟨miX11_lonely, tb_7 (List.mem_of_getElem? (i := 212) (by decide +kernel)) rfl, tb_7 (List.mem_of_getElem? (i := 213) (by decide +kernel)) rfl, by decide, _, rfl, rfl⟩
theorem meX10_image : MeV mX10_image := ⟨miX10_image, tb_5 (List.mem_of_getElem? (i := 162) (by decide +kernel)) rfl, tb_5 (List.mem_of_getElem? (i := 163) (by decide +kernel)) rfl, by decide, _, rfl, rfl⟩
theorem meX11_image : MeV mX11_image := ⟨miX11_image, tb_8 (List.mem_of_getElem? (i := 101) (by decide +kernel)) rfl, tb_8 (List.mem_of_getElem? (i := 102) (by decide +kernel)) rfl, by decide, _, rfl, rfl⟩
theorem meX10_back : MeV mX10_back := ⟨miX10_back, tb_5 (List.mem_of_getElem? (i := 180) (by decide +kernel)) rfl, tb_5 (List.mem_of_getElem? (i := 181) (by decide +kernel)) rfl, by decide, _, rfl, rfl⟩
theorem meX11_back : MeV mX11_back := ⟨miX11_back, tb_8 (List.mem_of_getElem? (i := 105) (by decide +kernel)) rfl, tb_8 (List.mem_of_getElem? (i := 106) (by decide +kernel)) rfl, by decide, _, rfl, rfl⟩
theorem meX10_about : MeV mX10_about := ⟨miX10_about, tb_5 (List.mem_of_getElem? (i := 184) (by decide +kernel)) rfl, tb_5 (List.mem_of_getElem? (i := 185) (by decide +kernel)) rfl, by decide, _, rfl, rfl⟩
theorem meX11_about : MeV mX11_about := ⟨miX11_about, tb_8 (List.mem_of_getElem? (i := 109) (by decide +kernel)) rfl, tb_8 (List.mem_of_getElem? (i := 110) (by decide +kernel)) rfl, by decide, _, rfl, rfl⟩
theorem nL_law_0 : NwC mL_law 0 3 9 := ⟨7, (RX10, TX10, 8), tyX10, by decide +kernel, rfl, rfl, rfl, by decide, tb_1 (List.mem_of_getElem? (i := 21) (by decide +kernel)) rfl, tb_1 (List.mem_of_getElem? (i := 22) (by decide +kernel)) rfl, tb_1 (List.mem_of_getElem? (i := 1) (by decide +kernel)) rfl, inX10, tyX10_ok, by decide +kernel⟩
theorem nL_law_8 : NwC mL_law 8 11 10 := ⟨10, (RX11, TX11, 29), tyX11, by decide +kernel, rfl, rfl, rfl, by decide, tb_5 (List.mem_of_getElem? (i := 187) (by decide +kernel)) rfl, tb_5 (List.mem_of_getElem? (i := 188) (by decide +kernel)) rfl, tb_1 (List.mem_of_getElem? (i := 12) (by decide +kernel)) rfl, inX11, tyX11_ok, by decide +kernel⟩
-- ===== the law: rules =====
section LAW
variable {G : gG} {l : Launch} {μ ν : MU} {d d' mc ms cb sb : Nat} {pc pc' : Nat} {ls : List (Option Value)} {st rest : List Value} {h : ph} {Q Q1 : Option Value → ph → Prop} {z i : Int}
theorem r_same {off : Int} {tgt : Nat} (hd : Ins μ pc (.if_icmp .eq off) 3 pc') (ht : (pc : Int) + off = (tgt : Int)) (k : Co G l μ d mc ms cb sb tgt ls st h Q) : Co G l μ d mc ms cb sb pc ls (vI z :: vI z :: st) h Q := by
  have e : vI z = vI (iI z).toInt := by unfold vI; rw [iI_of]
  rw [e]
  exact co_icmp_eq hd ht (iI_rng _) (iI_rng _) (fun _ => k) (fun q => absurd rfl q)
theorem r_lsame (hd : Ins μ pc (.lcmp) 1 pc') (k : Co G l μ d mc ms cb sb pc' ls (vI 0 :: st) h Q) : Co G l μ d mc ms cb sb pc ls (vL z :: vL z :: st) h Q := by
  have e : vL z = vL (iL z).toInt := by unfold vL; rw [iL_of]
  rw [e]
  refine co_lcmp hd (iL_rng _) (iL_rng _) ?_
  have e0 : zcmp (iL z).toInt (iL z).toInt = 0 := by unfold zcmp; rw [if_neg (Int.lt_irrefl _), if_pos rfl]
  rw [e0]
  exact k
theorem r_sld (hd : Ins μ pc .iaload 1 pc') (hl : gS G 8 ≤ 3072) (hi : 0 ≤ i ∧ i < (gS G 8 : Int)) (k : Co G l μ d mc ms cb sb pc' ls (vI (scV G i.toNat) :: st) h Q) : Co G l μ d mc ms cb sb pc ls (vI i :: .ref 1000007 :: st) h Q := by
  obtain ⟨hdc, rfl⟩ := hd
  intro p e s m args below meth c H locs cells slots lsR C hH hS hL hcc hs
  have hT := C.wd.2.2.2.2.2.2.2.2
  have ha : adr G 1000007 = gS G 7 := by
    unfold adr
    rw [if_neg (by omega)]
  show W p l e (rmD d mc ms) s m args below meth c H locs cells slots _ (F0 m pc lsR (Value.int (iI i) :: Value.ref (adr G 1000007) :: st.map (tv G)))
  rw [ha]
  obtain ⟨e1, e2⟩ := iI_idx (z := i) (n := (gS G 8 : Int)) hi (by omega)
  exact va_ti C.1 C.2.1 hT hS (by simpa using e1) (v := vI (scV G i.toNat)) (by rw [e2]) hdc (k p e s m args below meth c H locs cells slots lsR C hH hS hL hcc hs)
theorem r_slen (hd : Ins μ pc .arraylength 1 pc') (k : Co G l μ d mc ms cb sb pc' ls (vI (gS G 8 : Int) :: st) h Q) : Co G l μ d mc ms cb sb pc ls (.ref 1000007 :: st) h Q := by
  obtain ⟨hdc, rfl⟩ := hd
  intro p e s m args below meth c H locs cells slots lsR C hH hS hL hcc hs
  have hT := C.wd.2.2.2.2.2.2.2.2
  have ha : adr G 1000007 = gS G 7 := by
    unfold adr
    rw [if_neg (by omega)]
  show W p l e (rmD d mc ms) s m args below meth c H locs cells slots _ (F0 m pc lsR (Value.ref (adr G 1000007) :: st.map (tv G)))
  rw [ha]
  exact va_tlen C.1 C.2.1 hT hS (v := iI (gS G 8 : Int)) rfl hdc (k p e s m args below meth c H locs cells slots lsR C hH hS hL hcc hs)
theorem scV_r (G : gG) (j : Nat) : -2147483648 ≤ scV G j ∧ scV G j ≤ 2147483647 := by
  have := Nat.mod_lt (gS G (9 + j)) (show 4294967296 > 0 by decide)
  unfold scV
  omega
theorem scV_b (x : Int) : (if x = 0 then (0 : Int) else 1) = 0 ∨ (if x = 0 then (0 : Int) else 1) = 1 := by split; exact Or.inl rfl; exact Or.inr rfl
/-- where the law is at the head of its loop -/
def LwH (G : gG) (l : Launch) (pc : Nat) (i : Int) (h : ph) : Prop := Co G l mL_law 97 179 25836 0 0 pc [some (.ref 1000007), some (.ref 0), some (.ref 166), some (vI i)] [] h (fun v _ => v = some (vI 1))
end LAW
