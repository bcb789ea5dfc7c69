theorem z_cok_0 : z_okc (z_m 0).2.2.2.2.1.1 (z_m 0).2.2.2.1 (z_m 0).2.1 zc_0 = true := by decide +kernel
theorem z_cok_1 : z_okc (z_m 1).2.2.2.2.1.1 (z_m 1).2.2.2.1 (z_m 1).2.1 zc_1 = true := by decide +kernel
theorem z_cok_2 : z_okc (z_m 2).2.2.2.2.1.1 (z_m 2).2.2.2.1 (z_m 2).2.1 zc_2 = true := by decide +kernel
theorem z_cok_3 : z_okc (z_m 3).2.2.2.2.1.1 (z_m 3).2.2.2.1 (z_m 3).2.1 zc_3 = true := by decide +kernel
theorem z_cok_4 : z_okc (z_m 4).2.2.2.2.1.1 (z_m 4).2.2.2.1 (z_m 4).2.1 zc_4 = true := by decide +kernel
theorem z_cok_5 : z_okc (z_m 5).2.2.2.2.1.1 (z_m 5).2.2.2.1 (z_m 5).2.1 zc_5 = true := by decide +kernel
theorem z_cok_6 : z_okc (z_m 6).2.2.2.2.1.1 (z_m 6).2.2.2.1 (z_m 6).2.1 zc_6 = true := by decide +kernel
theorem z_cok_7 : z_okc (z_m 7).2.2.2.2.1.1 (z_m 7).2.2.2.1 (z_m 7).2.1 zc_7 = true := by decide +kernel
theorem z_cok_8 : z_okc (z_m 8).2.2.2.2.1.1 (z_m 8).2.2.2.1 (z_m 8).2.1 zc_8 = true := by decide +kernel
theorem z_cok_9 : z_okc (z_m 9).2.2.2.2.1.1 (z_m 9).2.2.2.1 (z_m 9).2.1 zc_9 = true := by decide +kernel
theorem z_cok_10 : z_okc (z_m 10).2.2.2.2.1.1 (z_m 10).2.2.2.1 (z_m 10).2.1 zc_10 = true := by decide +kernel
theorem z_cok_11 : z_okc (z_m 11).2.2.2.2.1.1 (z_m 11).2.2.2.1 (z_m 11).2.1 zc_11 = true := by decide +kernel
theorem z_cok_12 : z_okc (z_m 12).2.2.2.2.1.1 (z_m 12).2.2.2.1 (z_m 12).2.1 zc_12 = true := by decide +kernel
theorem z_cok_13 : z_okc (z_m 13).2.2.2.2.1.1 (z_m 13).2.2.2.1 (z_m 13).2.1 zc_13 = true := by decide +kernel
theorem z_cok_14 : z_okc (z_m 14).2.2.2.2.1.1 (z_m 14).2.2.2.1 (z_m 14).2.1 zc_14 = true := by decide +kernel
theorem z_cok_15 : z_okc (z_m 15).2.2.2.2.1.1 (z_m 15).2.2.2.1 (z_m 15).2.1 zc_15 = true := by decide +kernel
theorem z_cok_16 : z_okc (z_m 16).2.2.2.2.1.1 (z_m 16).2.2.2.1 (z_m 16).2.1 zc_16 = true := by decide +kernel
theorem z_cok_17 : z_okc (z_m 17).2.2.2.2.1.1 (z_m 17).2.2.2.1 (z_m 17).2.1 zc_17 = true := by decide +kernel
theorem z_cok_18 : z_okc (z_m 18).2.2.2.2.1.1 (z_m 18).2.2.2.1 (z_m 18).2.1 zc_18 = true := by decide +kernel
theorem z_cok_19 : z_okc (z_m 19).2.2.2.2.1.1 (z_m 19).2.2.2.1 (z_m 19).2.1 zc_19 = true := by decide +kernel
theorem z_cok_20 : z_okc (z_m 20).2.2.2.2.1.1 (z_m 20).2.2.2.1 (z_m 20).2.1 zc_20 = true := by decide +kernel
theorem z_cok_21 : z_okc (z_m 21).2.2.2.2.1.1 (z_m 21).2.2.2.1 (z_m 21).2.1 zc_21 = true := by decide +kernel
theorem z_cok_22 : z_okc (z_m 22).2.2.2.2.1.1 (z_m 22).2.2.2.1 (z_m 22).2.1 zc_22 = true := by decide +kernel
theorem z_cok_23 : z_okc (z_m 23).2.2.2.2.1.1 (z_m 23).2.2.2.1 (z_m 23).2.1 zc_23 = true := by decide +kernel
theorem z_cok_24 : z_okc (z_m 24).2.2.2.2.1.1 (z_m 24).2.2.2.1 (z_m 24).2.1 zc_24 = true := by decide +kernel
theorem z_cok_25 : z_okc (z_m 25).2.2.2.2.1.1 (z_m 25).2.2.2.1 (z_m 25).2.1 zc_25 = true := by decide +kernel
theorem z_cok_26 : z_okc (z_m 26).2.2.2.2.1.1 (z_m 26).2.2.2.1 (z_m 26).2.1 zc_26 = true := by decide +kernel
theorem z_cok_27 : z_okc (z_m 27).2.2.2.2.1.1 (z_m 27).2.2.2.1 (z_m 27).2.1 zc_27 = true := by decide +kernel
theorem z_cok_28 : z_okc (z_m 28).2.2.2.2.1.1 (z_m 28).2.2.2.1 (z_m 28).2.1 zc_28 = true := by decide +kernel
theorem z_cok_29 : z_okc (z_m 29).2.2.2.2.1.1 (z_m 29).2.2.2.1 (z_m 29).2.1 zc_29 = true := by decide +kernel
theorem z_cok_30 : z_okc (z_m 30).2.2.2.2.1.1 (z_m 30).2.2.2.1 (z_m 30).2.1 zc_30 = true := by decide +kernel
theorem z_cok_31 : z_okc (z_m 31).2.2.2.2.1.1 (z_m 31).2.2.2.1 (z_m 31).2.1 zc_31 = true := by decide +kernel
theorem z_cok_32 : z_okc (z_m 32).2.2.2.2.1.1 (z_m 32).2.2.2.1 (z_m 32).2.1 zc_32 = true := by decide +kernel
theorem z_cok_33 : z_okc (z_m 33).2.2.2.2.1.1 (z_m 33).2.2.2.1 (z_m 33).2.1 zc_33 = true := by decide +kernel
theorem z_cok_34 : z_okc (z_m 34).2.2.2.2.1.1 (z_m 34).2.2.2.1 (z_m 34).2.1 zc_34 = true := by decide +kernel
theorem z_cok_35 : z_okc (z_m 35).2.2.2.2.1.1 (z_m 35).2.2.2.1 (z_m 35).2.1 zc_35 = true := by decide +kernel
theorem z_cok_36 : z_okc (z_m 36).2.2.2.2.1.1 (z_m 36).2.2.2.1 (z_m 36).2.1 zc_36 = true := by decide +kernel
theorem z_cok_37 : z_okc (z_m 37).2.2.2.2.1.1 (z_m 37).2.2.2.1 (z_m 37).2.1 zc_37 = true := by decide +kernel
theorem z_cok_38 : z_okc (z_m 38).2.2.2.2.1.1 (z_m 38).2.2.2.1 (z_m 38).2.1 zc_38 = true := by decide +kernel
theorem z_cok_39 : z_okc (z_m 39).2.2.2.2.1.1 (z_m 39).2.2.2.1 (z_m 39).2.1 zc_39 = true := by decide +kernel
theorem z_cok_40 : z_okc (z_m 40).2.2.2.2.1.1 (z_m 40).2.2.2.1 (z_m 40).2.1 zc_40 = true := by decide +kernel
theorem z_cok_41 : z_okc (z_m 41).2.2.2.2.1.1 (z_m 41).2.2.2.1 (z_m 41).2.1 zc_41 = true := by decide +kernel
theorem z_cok_42 : z_okc (z_m 42).2.2.2.2.1.1 (z_m 42).2.2.2.1 (z_m 42).2.1 zc_42 = true := by decide +kernel
theorem z_cok_43 : z_okc (z_m 43).2.2.2.2.1.1 (z_m 43).2.2.2.1 (z_m 43).2.1 zc_43 = true := by decide +kernel
theorem z_cok_44 : z_okc (z_m 44).2.2.2.2.1.1 (z_m 44).2.2.2.1 (z_m 44).2.1 zc_44 = true := by decide +kernel
theorem z_cok_45 : z_okc (z_m 45).2.2.2.2.1.1 (z_m 45).2.2.2.1 (z_m 45).2.1 zc_45 = true := by decide +kernel
theorem z_cok_46 : z_okc (z_m 46).2.2.2.2.1.1 (z_m 46).2.2.2.1 (z_m 46).2.1 zc_46 = true := by decide +kernel
theorem z_cok_47 : z_okc (z_m 47).2.2.2.2.1.1 (z_m 47).2.2.2.1 (z_m 47).2.1 zc_47 = true := by decide +kernel
theorem z_cok_48 : z_okc (z_m 48).2.2.2.2.1.1 (z_m 48).2.2.2.1 (z_m 48).2.1 zc_48 = true := by decide +kernel
theorem z_cok_49 : z_okc (z_m 49).2.2.2.2.1.1 (z_m 49).2.2.2.1 (z_m 49).2.1 zc_49 = true := by decide +kernel
theorem z_cok_50 : z_okc (z_m 50).2.2.2.2.1.1 (z_m 50).2.2.2.1 (z_m 50).2.1 zc_50 = true := by decide +kernel
theorem z_cok_51 : z_okc (z_m 51).2.2.2.2.1.1 (z_m 51).2.2.2.1 (z_m 51).2.1 zc_51 = true := by decide +kernel
theorem z_cok_52 : z_okc (z_m 52).2.2.2.2.1.1 (z_m 52).2.2.2.1 (z_m 52).2.1 zc_52 = true := by decide +kernel
theorem z_cok_53 : z_okc (z_m 53).2.2.2.2.1.1 (z_m 53).2.2.2.1 (z_m 53).2.1 zc_53 = true := by decide +kernel
theorem z_cok_54 : z_okc (z_m 54).2.2.2.2.1.1 (z_m 54).2.2.2.1 (z_m 54).2.1 zc_54 = true := by decide +kernel
theorem z_cok_55 : z_okc (z_m 55).2.2.2.2.1.1 (z_m 55).2.2.2.1 (z_m 55).2.1 zc_55 = true := by decide +kernel
theorem z_cok_56 : z_okc (z_m 56).2.2.2.2.1.1 (z_m 56).2.2.2.1 (z_m 56).2.1 zc_56 = true := by decide +kernel
theorem z_cok_57 : z_okc (z_m 57).2.2.2.2.1.1 (z_m 57).2.2.2.1 (z_m 57).2.1 zc_57 = true := by decide +kernel
theorem z_cok_58 : z_okc (z_m 58).2.2.2.2.1.1 (z_m 58).2.2.2.1 (z_m 58).2.1 zc_58 = true := by decide +kernel
theorem z_cok_59 : z_okc (z_m 59).2.2.2.2.1.1 (z_m 59).2.2.2.1 (z_m 59).2.1 zc_59 = true := by decide +kernel
theorem z_cok_60 : z_okc (z_m 60).2.2.2.2.1.1 (z_m 60).2.2.2.1 (z_m 60).2.1 zc_60 = true := by decide +kernel
theorem z_cok_61 : z_okc (z_m 61).2.2.2.2.1.1 (z_m 61).2.2.2.1 (z_m 61).2.1 zc_61 = true := by decide +kernel
theorem z_cok_62 : z_okc (z_m 62).2.2.2.2.1.1 (z_m 62).2.2.2.1 (z_m 62).2.1 zc_62 = true := by decide +kernel
theorem z_cok_63 : z_okc (z_m 63).2.2.2.2.1.1 (z_m 63).2.2.2.1 (z_m 63).2.1 zc_63 = true := by decide +kernel
theorem z_cok_64 : z_okc (z_m 64).2.2.2.2.1.1 (z_m 64).2.2.2.1 (z_m 64).2.1 zc_64 = true := by decide +kernel
theorem z_cok_65 : z_okc (z_m 65).2.2.2.2.1.1 (z_m 65).2.2.2.1 (z_m 65).2.1 zc_65 = true := by decide +kernel
theorem z_cok_66 : z_okc (z_m 66).2.2.2.2.1.1 (z_m 66).2.2.2.1 (z_m 66).2.1 zc_66 = true := by decide +kernel
theorem z_cok_67 : z_okc (z_m 67).2.2.2.2.1.1 (z_m 67).2.2.2.1 (z_m 67).2.1 zc_67 = true := by decide +kernel
theorem z_cok_68 : z_okc (z_m 68).2.2.2.2.1.1 (z_m 68).2.2.2.1 (z_m 68).2.1 zc_68 = true := by decide +kernel
theorem z_cok_69 : z_okc (z_m 69).2.2.2.2.1.1 (z_m 69).2.2.2.1 (z_m 69).2.1 zc_69 = true := by decide +kernel
theorem z_cok_70 : z_okc (z_m 70).2.2.2.2.1.1 (z_m 70).2.2.2.1 (z_m 70).2.1 zc_70 = true := by decide +kernel
theorem z_cok_71 : z_okc (z_m 71).2.2.2.2.1.1 (z_m 71).2.2.2.1 (z_m 71).2.1 zc_71 = true := by decide +kernel
theorem z_cok_72 : z_okc (z_m 72).2.2.2.2.1.1 (z_m 72).2.2.2.1 (z_m 72).2.1 zc_72 = true := by decide +kernel
theorem z_cok_73 : z_okc (z_m 73).2.2.2.2.1.1 (z_m 73).2.2.2.1 (z_m 73).2.1 zc_73 = true := by decide +kernel
theorem z_cok_74 : z_okc (z_m 74).2.2.2.2.1.1 (z_m 74).2.2.2.1 (z_m 74).2.1 zc_74 = true := by decide +kernel
theorem z_cok_75 : z_okc (z_m 75).2.2.2.2.1.1 (z_m 75).2.2.2.1 (z_m 75).2.1 zc_75 = true := by decide +kernel
theorem z_cok_76 : z_okc (z_m 76).2.2.2.2.1.1 (z_m 76).2.2.2.1 (z_m 76).2.1 zc_76 = true := by decide +kernel
theorem z_cok_77 : z_okc (z_m 77).2.2.2.2.1.1 (z_m 77).2.2.2.1 (z_m 77).2.1 zc_77 = true := by decide +kernel
theorem z_cok_78 : z_okc (z_m 78).2.2.2.2.1.1 (z_m 78).2.2.2.1 (z_m 78).2.1 zc_78 = true := by decide +kernel
theorem z_cok_79 : z_okc (z_m 79).2.2.2.2.1.1 (z_m 79).2.2.2.1 (z_m 79).2.1 zc_79 = true := by decide +kernel
theorem z_cok_80 : z_okc (z_m 80).2.2.2.2.1.1 (z_m 80).2.2.2.1 (z_m 80).2.1 zc_80 = true := by decide +kernel
theorem z_cok_81 : z_okc (z_m 81).2.2.2.2.1.1 (z_m 81).2.2.2.1 (z_m 81).2.1 zc_81 = true := by decide +kernel
theorem z_cok_82 : z_okc (z_m 82).2.2.2.2.1.1 (z_m 82).2.2.2.1 (z_m 82).2.1 zc_82 = true := by decide +kernel
theorem z_cok_83 : z_okc (z_m 83).2.2.2.2.1.1 (z_m 83).2.2.2.1 (z_m 83).2.1 zc_83 = true := by decide +kernel
theorem z_cok_84 : z_okc (z_m 84).2.2.2.2.1.1 (z_m 84).2.2.2.1 (z_m 84).2.1 zc_84 = true := by decide +kernel
theorem z_cok_85 : z_okc (z_m 85).2.2.2.2.1.1 (z_m 85).2.2.2.1 (z_m 85).2.1 zc_85 = true := by decide +kernel
theorem z_cok_86 : z_okc (z_m 86).2.2.2.2.1.1 (z_m 86).2.2.2.1 (z_m 86).2.1 zc_86 = true := by decide +kernel
theorem z_cok_87 : z_okc (z_m 87).2.2.2.2.1.1 (z_m 87).2.2.2.1 (z_m 87).2.1 zc_87 = true := by decide +kernel
theorem z_cok_88 : z_okc (z_m 88).2.2.2.2.1.1 (z_m 88).2.2.2.1 (z_m 88).2.1 zc_88 = true := by decide +kernel
theorem z_cok_89 : z_okc (z_m 89).2.2.2.2.1.1 (z_m 89).2.2.2.1 (z_m 89).2.1 zc_89 = true := by decide +kernel
theorem z_cok_90 : z_okc (z_m 90).2.2.2.2.1.1 (z_m 90).2.2.2.1 (z_m 90).2.1 zc_90 = true := by decide +kernel
theorem z_cok_91 : z_okc (z_m 91).2.2.2.2.1.1 (z_m 91).2.2.2.1 (z_m 91).2.1 zc_91 = true := by decide +kernel
theorem z_cok_92 : z_okc (z_m 92).2.2.2.2.1.1 (z_m 92).2.2.2.1 (z_m 92).2.1 zc_92 = true := by decide +kernel
theorem z_cok_93 : z_okc (z_m 93).2.2.2.2.1.1 (z_m 93).2.2.2.1 (z_m 93).2.1 zc_93 = true := by decide +kernel
theorem z_cok_94 : z_okc (z_m 94).2.2.2.2.1.1 (z_m 94).2.2.2.1 (z_m 94).2.1 zc_94 = true := by decide +kernel
theorem z_cok_95 : z_okc (z_m 95).2.2.2.2.1.1 (z_m 95).2.2.2.1 (z_m 95).2.1 zc_95 = true := by decide +kernel
theorem z_cok_96 : z_okc (z_m 96).2.2.2.2.1.1 (z_m 96).2.2.2.1 (z_m 96).2.1 zc_96 = true := by decide +kernel
theorem z_cok_97 : z_okc (z_m 97).2.2.2.2.1.1 (z_m 97).2.2.2.1 (z_m 97).2.1 zc_97 = true := by decide +kernel
theorem z_cok_98 : z_okc (z_m 98).2.2.2.2.1.1 (z_m 98).2.2.2.1 (z_m 98).2.1 zc_98 = true := by decide +kernel
theorem z_cok_99 : z_okc (z_m 99).2.2.2.2.1.1 (z_m 99).2.2.2.1 (z_m 99).2.1 zc_99 = true := by decide +kernel
theorem z_cok_100 : z_okc (z_m 100).2.2.2.2.1.1 (z_m 100).2.2.2.1 (z_m 100).2.1 zc_100 = true := by decide +kernel
theorem z_cok_101 : z_okc (z_m 101).2.2.2.2.1.1 (z_m 101).2.2.2.1 (z_m 101).2.1 zc_101 = true := by decide +kernel
theorem z_cok_102 : z_okc (z_m 102).2.2.2.2.1.1 (z_m 102).2.2.2.1 (z_m 102).2.1 zc_102 = true := by decide +kernel
theorem z_cok_103 : z_okc (z_m 103).2.2.2.2.1.1 (z_m 103).2.2.2.1 (z_m 103).2.1 zc_103 = true := by decide +kernel
theorem z_cok_104 : z_okc (z_m 104).2.2.2.2.1.1 (z_m 104).2.2.2.1 (z_m 104).2.1 zc_104 = true := by decide +kernel
theorem z_cok_105 : z_okc (z_m 105).2.2.2.2.1.1 (z_m 105).2.2.2.1 (z_m 105).2.1 zc_105 = true := by decide +kernel
theorem z_cok_106 : z_okc (z_m 106).2.2.2.2.1.1 (z_m 106).2.2.2.1 (z_m 106).2.1 zc_106 = true := by decide +kernel
theorem z_cok_107 : z_okc (z_m 107).2.2.2.2.1.1 (z_m 107).2.2.2.1 (z_m 107).2.1 zc_107 = true := by decide +kernel
theorem z_cok_108 : z_okc (z_m 108).2.2.2.2.1.1 (z_m 108).2.2.2.1 (z_m 108).2.1 zc_108 = true := by decide +kernel
theorem z_cok_109 : z_okc (z_m 109).2.2.2.2.1.1 (z_m 109).2.2.2.1 (z_m 109).2.1 zc_109 = true := by decide +kernel
theorem z_cok_110 : z_okc (z_m 110).2.2.2.2.1.1 (z_m 110).2.2.2.1 (z_m 110).2.1 zc_110 = true := by decide +kernel
theorem z_cok_111 : z_okc (z_m 111).2.2.2.2.1.1 (z_m 111).2.2.2.1 (z_m 111).2.1 zc_111 = true := by decide +kernel
theorem z_cok_112 : z_okc (z_m 112).2.2.2.2.1.1 (z_m 112).2.2.2.1 (z_m 112).2.1 zc_112 = true := by decide +kernel
theorem z_cok_113 : z_okc (z_m 113).2.2.2.2.1.1 (z_m 113).2.2.2.1 (z_m 113).2.1 zc_113 = true := by decide +kernel
theorem z_cok_114 : z_okc (z_m 114).2.2.2.2.1.1 (z_m 114).2.2.2.1 (z_m 114).2.1 zc_114 = true := by decide +kernel
theorem z_cok_115 : z_okc (z_m 115).2.2.2.2.1.1 (z_m 115).2.2.2.1 (z_m 115).2.1 zc_115 = true := by decide +kernel
theorem z_cok_116 : z_okc (z_m 116).2.2.2.2.1.1 (z_m 116).2.2.2.1 (z_m 116).2.1 zc_116 = true := by decide +kernel
theorem z_cok_117 : z_okc (z_m 117).2.2.2.2.1.1 (z_m 117).2.2.2.1 (z_m 117).2.1 zc_117 = true := by decide +kernel
theorem z_cok_118 : z_okc (z_m 118).2.2.2.2.1.1 (z_m 118).2.2.2.1 (z_m 118).2.1 zc_118 = true := by decide +kernel
theorem z_cok_119 : z_okc (z_m 119).2.2.2.2.1.1 (z_m 119).2.2.2.1 (z_m 119).2.1 zc_119 = true := by decide +kernel
theorem z_cok_120 : z_okc (z_m 120).2.2.2.2.1.1 (z_m 120).2.2.2.1 (z_m 120).2.1 zc_120 = true := by decide +kernel
theorem z_cok_121 : z_okc (z_m 121).2.2.2.2.1.1 (z_m 121).2.2.2.1 (z_m 121).2.1 zc_121 = true := by decide +kernel
theorem z_cok_122 : z_okc (z_m 122).2.2.2.2.1.1 (z_m 122).2.2.2.1 (z_m 122).2.1 zc_122 = true := by decide +kernel
theorem z_cok_123 : z_okc (z_m 123).2.2.2.2.1.1 (z_m 123).2.2.2.1 (z_m 123).2.1 zc_123 = true := by decide +kernel
theorem z_cok_124 : z_okc (z_m 124).2.2.2.2.1.1 (z_m 124).2.2.2.1 (z_m 124).2.1 zc_124 = true := by decide +kernel
theorem z_cok_125 : z_okc (z_m 125).2.2.2.2.1.1 (z_m 125).2.2.2.1 (z_m 125).2.1 zc_125 = true := by decide +kernel
theorem z_cok_126 : z_okc (z_m 126).2.2.2.2.1.1 (z_m 126).2.2.2.1 (z_m 126).2.1 zc_126 = true := by decide +kernel
theorem z_cok_127 : z_okc (z_m 127).2.2.2.2.1.1 (z_m 127).2.2.2.1 (z_m 127).2.1 zc_127 = true := by decide +kernel
theorem z_cok_128 : z_okc (z_m 128).2.2.2.2.1.1 (z_m 128).2.2.2.1 (z_m 128).2.1 zc_128 = true := by decide +kernel
theorem z_cok_129 : z_okc (z_m 129).2.2.2.2.1.1 (z_m 129).2.2.2.1 (z_m 129).2.1 zc_129 = true := by decide +kernel
theorem z_cok_130 : z_okc (z_m 130).2.2.2.2.1.1 (z_m 130).2.2.2.1 (z_m 130).2.1 zc_130 = true := by decide +kernel
theorem z_cok_131 : z_okc (z_m 131).2.2.2.2.1.1 (z_m 131).2.2.2.1 (z_m 131).2.1 zc_131 = true := by decide +kernel
theorem z_cok_132 : z_okc (z_m 132).2.2.2.2.1.1 (z_m 132).2.2.2.1 (z_m 132).2.1 zc_132 = true := by decide +kernel
theorem z_cok_133 : z_okc (z_m 133).2.2.2.2.1.1 (z_m 133).2.2.2.1 (z_m 133).2.1 zc_133 = true := by decide +kernel
theorem z_cok_134 : z_okc (z_m 134).2.2.2.2.1.1 (z_m 134).2.2.2.1 (z_m 134).2.1 zc_134 = true := by decide +kernel
theorem z_cok_135 : z_okc (z_m 135).2.2.2.2.1.1 (z_m 135).2.2.2.1 (z_m 135).2.1 zc_135 = true := by decide +kernel
theorem z_cok_136 : z_okc (z_m 136).2.2.2.2.1.1 (z_m 136).2.2.2.1 (z_m 136).2.1 zc_136 = true := by decide +kernel
theorem z_cok_137 : z_okc (z_m 137).2.2.2.2.1.1 (z_m 137).2.2.2.1 (z_m 137).2.1 zc_137 = true := by decide +kernel
theorem z_cok_138 : z_okc (z_m 138).2.2.2.2.1.1 (z_m 138).2.2.2.1 (z_m 138).2.1 zc_138 = true := by decide +kernel
theorem z_cok_139 : z_okc (z_m 139).2.2.2.2.1.1 (z_m 139).2.2.2.1 (z_m 139).2.1 zc_139 = true := by decide +kernel
theorem z_cok_140 : z_okc (z_m 140).2.2.2.2.1.1 (z_m 140).2.2.2.1 (z_m 140).2.1 zc_140 = true := by decide +kernel
theorem z_cok_141 : z_okc (z_m 141).2.2.2.2.1.1 (z_m 141).2.2.2.1 (z_m 141).2.1 zc_141 = true := by decide +kernel
theorem z_cok_142 : z_okc (z_m 142).2.2.2.2.1.1 (z_m 142).2.2.2.1 (z_m 142).2.1 zc_142 = true := by decide +kernel
theorem z_cok_143 : z_okc (z_m 143).2.2.2.2.1.1 (z_m 143).2.2.2.1 (z_m 143).2.1 zc_143 = true := by decide +kernel
theorem z_cok_144 : z_okc (z_m 144).2.2.2.2.1.1 (z_m 144).2.2.2.1 (z_m 144).2.1 zc_144 = true := by decide +kernel
theorem z_cok_145 : z_okc (z_m 145).2.2.2.2.1.1 (z_m 145).2.2.2.1 (z_m 145).2.1 zc_145 = true := by decide +kernel
theorem z_cok_146 : z_okc (z_m 146).2.2.2.2.1.1 (z_m 146).2.2.2.1 (z_m 146).2.1 zc_146 = true := by decide +kernel
theorem z_cok_147 : z_okc (z_m 147).2.2.2.2.1.1 (z_m 147).2.2.2.1 (z_m 147).2.1 zc_147 = true := by decide +kernel
theorem z_cok_148 : z_okc (z_m 148).2.2.2.2.1.1 (z_m 148).2.2.2.1 (z_m 148).2.1 zc_148 = true := by decide +kernel
theorem z_cok_149 : z_okc (z_m 149).2.2.2.2.1.1 (z_m 149).2.2.2.1 (z_m 149).2.1 zc_149 = true := by decide +kernel
theorem z_cok_150 : z_okc (z_m 150).2.2.2.2.1.1 (z_m 150).2.2.2.1 (z_m 150).2.1 zc_150 = true := by decide +kernel
theorem z_cok_151 : z_okc (z_m 151).2.2.2.2.1.1 (z_m 151).2.2.2.1 (z_m 151).2.1 zc_151 = true := by decide +kernel
theorem z_cok_152 : z_okc (z_m 152).2.2.2.2.1.1 (z_m 152).2.2.2.1 (z_m 152).2.1 zc_152 = true := by decide +kernel
theorem z_cok_153 : z_okc (z_m 153).2.2.2.2.1.1 (z_m 153).2.2.2.1 (z_m 153).2.1 zc_153 = true := by decide +kernel
theorem z_cok_154 : z_okc (z_m 154).2.2.2.2.1.1 (z_m 154).2.2.2.1 (z_m 154).2.1 zc_154 = true := by decide +kernel
theorem z_cok_155 : z_okc (z_m 155).2.2.2.2.1.1 (z_m 155).2.2.2.1 (z_m 155).2.1 zc_155 = true := by decide +kernel
theorem z_cok_156 : z_okc (z_m 156).2.2.2.2.1.1 (z_m 156).2.2.2.1 (z_m 156).2.1 zc_156 = true := by decide +kernel
theorem z_cok_157 : z_okc (z_m 157).2.2.2.2.1.1 (z_m 157).2.2.2.1 (z_m 157).2.1 zc_157 = true := by decide +kernel
theorem z_cok_158 : z_okc (z_m 158).2.2.2.2.1.1 (z_m 158).2.2.2.1 (z_m 158).2.1 zc_158 = true := by decide +kernel
theorem z_cok_159 : z_okc (z_m 159).2.2.2.2.1.1 (z_m 159).2.2.2.1 (z_m 159).2.1 zc_159 = true := by decide +kernel
theorem z_cok_160 : z_okc (z_m 160).2.2.2.2.1.1 (z_m 160).2.2.2.1 (z_m 160).2.1 zc_160 = true := by decide +kernel
theorem z_cok_161 : z_okc (z_m 161).2.2.2.2.1.1 (z_m 161).2.2.2.1 (z_m 161).2.1 zc_161 = true := by decide +kernel
theorem z_cok_162 : z_okc (z_m 162).2.2.2.2.1.1 (z_m 162).2.2.2.1 (z_m 162).2.1 zc_162 = true := by decide +kernel
theorem z_cok_163 : z_okc (z_m 163).2.2.2.2.1.1 (z_m 163).2.2.2.1 (z_m 163).2.1 zc_163 = true := by decide +kernel
theorem z_cok_164 : z_okc (z_m 164).2.2.2.2.1.1 (z_m 164).2.2.2.1 (z_m 164).2.1 zc_164 = true := by decide +kernel
theorem z_cok_165 : z_okc (z_m 165).2.2.2.2.1.1 (z_m 165).2.2.2.1 (z_m 165).2.1 zc_165 = true := by decide +kernel
theorem z_cok_166 : z_okc (z_m 166).2.2.2.2.1.1 (z_m 166).2.2.2.1 (z_m 166).2.1 zc_166 = true := by decide +kernel
theorem z_cok_167 : z_okc (z_m 167).2.2.2.2.1.1 (z_m 167).2.2.2.1 (z_m 167).2.1 zc_167 = true := by decide +kernel
theorem z_cok_168 : z_okc (z_m 168).2.2.2.2.1.1 (z_m 168).2.2.2.1 (z_m 168).2.1 zc_168 = true := by decide +kernel
theorem z_cok_169 : z_okc (z_m 169).2.2.2.2.1.1 (z_m 169).2.2.2.1 (z_m 169).2.1 zc_169 = true := by decide +kernel
theorem z_cok_170 : z_okc (z_m 170).2.2.2.2.1.1 (z_m 170).2.2.2.1 (z_m 170).2.1 zc_170 = true := by decide +kernel
theorem z_cok_171 : z_okc (z_m 171).2.2.2.2.1.1 (z_m 171).2.2.2.1 (z_m 171).2.1 zc_171 = true := by decide +kernel
theorem z_cok_172 : z_okc (z_m 172).2.2.2.2.1.1 (z_m 172).2.2.2.1 (z_m 172).2.1 zc_172 = true := by decide +kernel
theorem z_cok_173 : z_okc (z_m 173).2.2.2.2.1.1 (z_m 173).2.2.2.1 (z_m 173).2.1 zc_173 = true := by decide +kernel
theorem z_cok_174 : z_okc (z_m 174).2.2.2.2.1.1 (z_m 174).2.2.2.1 (z_m 174).2.1 zc_174 = true := by decide +kernel
theorem z_cok_175 : z_okc (z_m 175).2.2.2.2.1.1 (z_m 175).2.2.2.1 (z_m 175).2.1 zc_175 = true := by decide +kernel
theorem z_cok_176 : z_okc (z_m 176).2.2.2.2.1.1 (z_m 176).2.2.2.1 (z_m 176).2.1 zc_176 = true := by decide +kernel
theorem z_cok_177 : z_okc (z_m 177).2.2.2.2.1.1 (z_m 177).2.2.2.1 (z_m 177).2.1 zc_177 = true := by decide +kernel
theorem z_cok_178 : z_okc (z_m 178).2.2.2.2.1.1 (z_m 178).2.2.2.1 (z_m 178).2.1 zc_178 = true := by decide +kernel
theorem z_cok_179 : z_okc (z_m 179).2.2.2.2.1.1 (z_m 179).2.2.2.1 (z_m 179).2.1 zc_179 = true := by decide +kernel
theorem z_cok_180 : z_okc (z_m 180).2.2.2.2.1.1 (z_m 180).2.2.2.1 (z_m 180).2.1 zc_180 = true := by decide +kernel
theorem z_cok_181 : z_okc (z_m 181).2.2.2.2.1.1 (z_m 181).2.2.2.1 (z_m 181).2.1 zc_181 = true := by decide +kernel
theorem z_cok_182 : z_okc (z_m 182).2.2.2.2.1.1 (z_m 182).2.2.2.1 (z_m 182).2.1 zc_182 = true := by decide +kernel
theorem z_cok_183 : z_okc (z_m 183).2.2.2.2.1.1 (z_m 183).2.2.2.1 (z_m 183).2.1 zc_183 = true := by decide +kernel
theorem z_cok_184 : z_okc (z_m 184).2.2.2.2.1.1 (z_m 184).2.2.2.1 (z_m 184).2.1 zc_184 = true := by decide +kernel
theorem z_cok_185 : z_okc (z_m 185).2.2.2.2.1.1 (z_m 185).2.2.2.1 (z_m 185).2.1 zc_185 = true := by decide +kernel
theorem z_cok_186 : z_okc (z_m 186).2.2.2.2.1.1 (z_m 186).2.2.2.1 (z_m 186).2.1 zc_186 = true := by decide +kernel
theorem z_cok_187 : z_okc (z_m 187).2.2.2.2.1.1 (z_m 187).2.2.2.1 (z_m 187).2.1 zc_187 = true := by decide +kernel
theorem z_cok_188 : z_okc (z_m 188).2.2.2.2.1.1 (z_m 188).2.2.2.1 (z_m 188).2.1 zc_188 = true := by decide +kernel
theorem z_cok_189 : z_okc (z_m 189).2.2.2.2.1.1 (z_m 189).2.2.2.1 (z_m 189).2.1 zc_189 = true := by decide +kernel
theorem z_cok_190 : z_okc (z_m 190).2.2.2.2.1.1 (z_m 190).2.2.2.1 (z_m 190).2.1 zc_190 = true := by decide +kernel
theorem z_cok_191 : z_okc (z_m 191).2.2.2.2.1.1 (z_m 191).2.2.2.1 (z_m 191).2.1 zc_191 = true := by decide +kernel
theorem z_cok_192 : z_okc (z_m 192).2.2.2.2.1.1 (z_m 192).2.2.2.1 (z_m 192).2.1 zc_192 = true := by decide +kernel
theorem z_cok_193 : z_okc (z_m 193).2.2.2.2.1.1 (z_m 193).2.2.2.1 (z_m 193).2.1 zc_193 = true := by decide +kernel
theorem z_cok_194 : z_okc (z_m 194).2.2.2.2.1.1 (z_m 194).2.2.2.1 (z_m 194).2.1 zc_194 = true := by decide +kernel
theorem z_cok_195 : z_okc (z_m 195).2.2.2.2.1.1 (z_m 195).2.2.2.1 (z_m 195).2.1 zc_195 = true := by decide +kernel
theorem z_cok_196 : z_okc (z_m 196).2.2.2.2.1.1 (z_m 196).2.2.2.1 (z_m 196).2.1 zc_196 = true := by decide +kernel
theorem z_cok_197 : z_okc (z_m 197).2.2.2.2.1.1 (z_m 197).2.2.2.1 (z_m 197).2.1 zc_197 = true := by decide +kernel
theorem z_cok_198 : z_okc (z_m 198).2.2.2.2.1.1 (z_m 198).2.2.2.1 (z_m 198).2.1 zc_198 = true := by decide +kernel
theorem z_cok_199 : z_okc (z_m 199).2.2.2.2.1.1 (z_m 199).2.2.2.1 (z_m 199).2.1 zc_199 = true := by decide +kernel
theorem z_cok_200 : z_okc (z_m 200).2.2.2.2.1.1 (z_m 200).2.2.2.1 (z_m 200).2.1 zc_200 = true := by decide +kernel
theorem z_cok_201 : z_okc (z_m 201).2.2.2.2.1.1 (z_m 201).2.2.2.1 (z_m 201).2.1 zc_201 = true := by decide +kernel
theorem z_cok_202 : z_okc (z_m 202).2.2.2.2.1.1 (z_m 202).2.2.2.1 (z_m 202).2.1 zc_202 = true := by decide +kernel
theorem z_cok_203 : z_okc (z_m 203).2.2.2.2.1.1 (z_m 203).2.2.2.1 (z_m 203).2.1 zc_203 = true := by decide +kernel
theorem z_cok_204 : z_okc (z_m 204).2.2.2.2.1.1 (z_m 204).2.2.2.1 (z_m 204).2.1 zc_204 = true := by decide +kernel
theorem z_cok_205 : z_okc (z_m 205).2.2.2.2.1.1 (z_m 205).2.2.2.1 (z_m 205).2.1 zc_205 = true := by decide +kernel
theorem z_cok_206 : z_okc (z_m 206).2.2.2.2.1.1 (z_m 206).2.2.2.1 (z_m 206).2.1 zc_206 = true := by decide +kernel
theorem z_cok_207 : z_okc (z_m 207).2.2.2.2.1.1 (z_m 207).2.2.2.1 (z_m 207).2.1 zc_207 = true := by decide +kernel
theorem z_cok_208 : z_okc (z_m 208).2.2.2.2.1.1 (z_m 208).2.2.2.1 (z_m 208).2.1 zc_208 = true := by decide +kernel
theorem z_cok_209 : z_okc (z_m 209).2.2.2.2.1.1 (z_m 209).2.2.2.1 (z_m 209).2.1 zc_209 = true := by decide +kernel
theorem z_cok_210 : z_okc (z_m 210).2.2.2.2.1.1 (z_m 210).2.2.2.1 (z_m 210).2.1 zc_210 = true := by decide +kernel
theorem z_cok_211 : z_okc (z_m 211).2.2.2.2.1.1 (z_m 211).2.2.2.1 (z_m 211).2.1 zc_211 = true := by decide +kernel
theorem z_cok_212 : z_okc (z_m 212).2.2.2.2.1.1 (z_m 212).2.2.2.1 (z_m 212).2.1 zc_212 = true := by decide +kernel
theorem z_cok_213 : z_okc (z_m 213).2.2.2.2.1.1 (z_m 213).2.2.2.1 (z_m 213).2.1 zc_213 = true := by decide +kernel
theorem z_cok_214 : z_okc (z_m 214).2.2.2.2.1.1 (z_m 214).2.2.2.1 (z_m 214).2.1 zc_214 = true := by decide +kernel
theorem z_cok_215 : z_okc (z_m 215).2.2.2.2.1.1 (z_m 215).2.2.2.1 (z_m 215).2.1 zc_215 = true := by decide +kernel
theorem z_cok_216 : z_okc (z_m 216).2.2.2.2.1.1 (z_m 216).2.2.2.1 (z_m 216).2.1 zc_216 = true := by decide +kernel
theorem z_cok_217 : z_okc (z_m 217).2.2.2.2.1.1 (z_m 217).2.2.2.1 (z_m 217).2.1 zc_217 = true := by decide +kernel
theorem z_cok_218 : z_okc (z_m 218).2.2.2.2.1.1 (z_m 218).2.2.2.1 (z_m 218).2.1 zc_218 = true := by decide +kernel
theorem z_cok_219 : z_okc (z_m 219).2.2.2.2.1.1 (z_m 219).2.2.2.1 (z_m 219).2.1 zc_219 = true := by decide +kernel
theorem z_cok_220 : z_okc (z_m 220).2.2.2.2.1.1 (z_m 220).2.2.2.1 (z_m 220).2.1 zc_220 = true := by decide +kernel
theorem z_cok_221 : z_okc (z_m 221).2.2.2.2.1.1 (z_m 221).2.2.2.1 (z_m 221).2.1 zc_221 = true := by decide +kernel
theorem z_cok_222 : z_okc (z_m 222).2.2.2.2.1.1 (z_m 222).2.2.2.1 (z_m 222).2.1 zc_222 = true := by decide +kernel
theorem z_cok_223 : z_okc (z_m 223).2.2.2.2.1.1 (z_m 223).2.2.2.1 (z_m 223).2.1 zc_223 = true := by decide +kernel
theorem z_cok_224 : z_okc (z_m 224).2.2.2.2.1.1 (z_m 224).2.2.2.1 (z_m 224).2.1 zc_224 = true := by decide +kernel
theorem z_cok_225 : z_okc (z_m 225).2.2.2.2.1.1 (z_m 225).2.2.2.1 (z_m 225).2.1 zc_225 = true := by decide +kernel
theorem z_cok_226 : z_okc (z_m 226).2.2.2.2.1.1 (z_m 226).2.2.2.1 (z_m 226).2.1 zc_226 = true := by decide +kernel
theorem z_cok_227 : z_okc (z_m 227).2.2.2.2.1.1 (z_m 227).2.2.2.1 (z_m 227).2.1 zc_227 = true := by decide +kernel
theorem z_cok_228 : z_okc (z_m 228).2.2.2.2.1.1 (z_m 228).2.2.2.1 (z_m 228).2.1 zc_228 = true := by decide +kernel
theorem z_cok_229 : z_okc (z_m 229).2.2.2.2.1.1 (z_m 229).2.2.2.1 (z_m 229).2.1 zc_229 = true := by decide +kernel
theorem z_cok_230 : z_okc (z_m 230).2.2.2.2.1.1 (z_m 230).2.2.2.1 (z_m 230).2.1 zc_230 = true := by decide +kernel
theorem z_cok_231 : z_okc (z_m 231).2.2.2.2.1.1 (z_m 231).2.2.2.1 (z_m 231).2.1 zc_231 = true := by decide +kernel
theorem z_cok_232 : z_okc (z_m 232).2.2.2.2.1.1 (z_m 232).2.2.2.1 (z_m 232).2.1 zc_232 = true := by decide +kernel
theorem z_cok_233 : z_okc (z_m 233).2.2.2.2.1.1 (z_m 233).2.2.2.1 (z_m 233).2.1 zc_233 = true := by decide +kernel
theorem z_cok_234 : z_okc (z_m 234).2.2.2.2.1.1 (z_m 234).2.2.2.1 (z_m 234).2.1 zc_234 = true := by decide +kernel
theorem z_cok_235 : z_okc (z_m 235).2.2.2.2.1.1 (z_m 235).2.2.2.1 (z_m 235).2.1 zc_235 = true := by decide +kernel
theorem z_cok_236 : z_okc (z_m 236).2.2.2.2.1.1 (z_m 236).2.2.2.1 (z_m 236).2.1 zc_236 = true := by decide +kernel
theorem z_cok_237 : z_okc (z_m 237).2.2.2.2.1.1 (z_m 237).2.2.2.1 (z_m 237).2.1 zc_237 = true := by decide +kernel
theorem z_cok_238 : z_okc (z_m 238).2.2.2.2.1.1 (z_m 238).2.2.2.1 (z_m 238).2.1 zc_238 = true := by decide +kernel
theorem z_cok_239 : z_okc (z_m 239).2.2.2.2.1.1 (z_m 239).2.2.2.1 (z_m 239).2.1 zc_239 = true := by decide +kernel
theorem z_cok_240 : z_okc (z_m 240).2.2.2.2.1.1 (z_m 240).2.2.2.1 (z_m 240).2.1 zc_240 = true := by decide +kernel
theorem z_cok_241 : z_okc (z_m 241).2.2.2.2.1.1 (z_m 241).2.2.2.1 (z_m 241).2.1 zc_241 = true := by decide +kernel
theorem z_cok_242 : z_okc (z_m 242).2.2.2.2.1.1 (z_m 242).2.2.2.1 (z_m 242).2.1 zc_242 = true := by decide +kernel
theorem z_cok_243 : z_okc (z_m 243).2.2.2.2.1.1 (z_m 243).2.2.2.1 (z_m 243).2.1 zc_243 = true := by decide +kernel
theorem z_cok_244 : z_okc (z_m 244).2.2.2.2.1.1 (z_m 244).2.2.2.1 (z_m 244).2.1 zc_244 = true := by decide +kernel
theorem z_cok_245 : z_okc (z_m 245).2.2.2.2.1.1 (z_m 245).2.2.2.1 (z_m 245).2.1 zc_245 = true := by decide +kernel
theorem z_cok_246 : z_okc (z_m 246).2.2.2.2.1.1 (z_m 246).2.2.2.1 (z_m 246).2.1 zc_246 = true := by decide +kernel
theorem z_cro_0 : z_okr 0 zc_0 = true := by decide +kernel
theorem z_cro_1 : z_okr 1 zc_1 = true := by decide +kernel
theorem z_cro_2 : z_okr 2 zc_2 = true := by decide +kernel
theorem z_cro_3 : z_okr 3 zc_3 = true := by decide +kernel
theorem z_cro_4 : z_okr 4 zc_4 = true := by decide +kernel
theorem z_cro_5 : z_okr 5 zc_5 = true := by decide +kernel
theorem z_cro_6 : z_okr 6 zc_6 = true := by decide +kernel
theorem z_cro_7 : z_okr 7 zc_7 = true := by decide +kernel
theorem z_cro_8 : z_okr 8 zc_8 = true := by decide +kernel
theorem z_cro_9 : z_okr 9 zc_9 = true := by decide +kernel
theorem z_cro_10 : z_okr 10 zc_10 = true := by decide +kernel
theorem z_cro_11 : z_okr 11 zc_11 = true := by decide +kernel
theorem z_cro_12 : z_okr 12 zc_12 = true := by decide +kernel
theorem z_cro_13 : z_okr 13 zc_13 = true := by decide +kernel
theorem z_cro_14 : z_okr 14 zc_14 = true := by decide +kernel
theorem z_cro_15 : z_okr 15 zc_15 = true := by decide +kernel
theorem z_cro_16 : z_okr 16 zc_16 = true := by decide +kernel
theorem z_cro_17 : z_okr 17 zc_17 = true := by decide +kernel
theorem z_cro_18 : z_okr 18 zc_18 = true := by decide +kernel
theorem z_cro_19 : z_okr 19 zc_19 = true := by decide +kernel
theorem z_cro_20 : z_okr 20 zc_20 = true := by decide +kernel
theorem z_cro_21 : z_okr 21 zc_21 = true := by decide +kernel
theorem z_cro_22 : z_okr 22 zc_22 = true := by decide +kernel
theorem z_cro_23 : z_okr 23 zc_23 = true := by decide +kernel
theorem z_cro_24 : z_okr 24 zc_24 = true := by decide +kernel
theorem z_cro_25 : z_okr 25 zc_25 = true := by decide +kernel
theorem z_cro_26 : z_okr 26 zc_26 = true := by decide +kernel
theorem z_cro_27 : z_okr 27 zc_27 = true := by decide +kernel
theorem z_cro_28 : z_okr 28 zc_28 = true := by decide +kernel
theorem z_cro_29 : z_okr 29 zc_29 = true := by decide +kernel
theorem z_cro_30 : z_okr 30 zc_30 = true := by decide +kernel
theorem z_cro_31 : z_okr 31 zc_31 = true := by decide +kernel
theorem z_cro_32 : z_okr 32 zc_32 = true := by decide +kernel
theorem z_cro_33 : z_okr 33 zc_33 = true := by decide +kernel
theorem z_cro_34 : z_okr 34 zc_34 = true := by decide +kernel
theorem z_cro_35 : z_okr 35 zc_35 = true := by decide +kernel
theorem z_cro_36 : z_okr 36 zc_36 = true := by decide +kernel
theorem z_cro_37 : z_okr 37 zc_37 = true := by decide +kernel
theorem z_cro_38 : z_okr 38 zc_38 = true := by decide +kernel
theorem z_cro_39 : z_okr 39 zc_39 = true := by decide +kernel
theorem z_cro_40 : z_okr 40 zc_40 = true := by decide +kernel
theorem z_cro_41 : z_okr 41 zc_41 = true := by decide +kernel
theorem z_cro_42 : z_okr 42 zc_42 = true := by decide +kernel
theorem z_cro_43 : z_okr 43 zc_43 = true := by decide +kernel
theorem z_cro_44 : z_okr 44 zc_44 = true := by decide +kernel
theorem z_cro_45 : z_okr 45 zc_45 = true := by decide +kernel
theorem z_cro_46 : z_okr 46 zc_46 = true := by decide +kernel
theorem z_cro_47 : z_okr 47 zc_47 = true := by decide +kernel
theorem z_cro_48 : z_okr 48 zc_48 = true := by decide +kernel
theorem z_cro_49 : z_okr 49 zc_49 = true := by decide +kernel
theorem z_cro_50 : z_okr 50 zc_50 = true := by decide +kernel
theorem z_cro_51 : z_okr 51 zc_51 = true := by decide +kernel
theorem z_cro_52 : z_okr 52 zc_52 = true := by decide +kernel
theorem z_cro_53 : z_okr 53 zc_53 = true := by decide +kernel
theorem z_cro_54 : z_okr 54 zc_54 = true := by decide +kernel
theorem z_cro_55 : z_okr 55 zc_55 = true := by decide +kernel
theorem z_cro_56 : z_okr 56 zc_56 = true := by decide +kernel
theorem z_cro_57 : z_okr 57 zc_57 = true := by decide +kernel
theorem z_cro_58 : z_okr 58 zc_58 = true := by decide +kernel
theorem z_cro_59 : z_okr 59 zc_59 = true := by decide +kernel
theorem z_cro_60 : z_okr 60 zc_60 = true := by decide +kernel
theorem z_cro_61 : z_okr 61 zc_61 = true := by decide +kernel
theorem z_cro_62 : z_okr 62 zc_62 = true := by decide +kernel
theorem z_cro_63 : z_okr 63 zc_63 = true := by decide +kernel
theorem z_cro_64 : z_okr 64 zc_64 = true := by decide +kernel
theorem z_cro_65 : z_okr 65 zc_65 = true := by decide +kernel
theorem z_cro_66 : z_okr 66 zc_66 = true := by decide +kernel
theorem z_cro_67 : z_okr 67 zc_67 = true := by decide +kernel
theorem z_cro_68 : z_okr 68 zc_68 = true := by decide +kernel
theorem z_cro_69 : z_okr 69 zc_69 = true := by decide +kernel
theorem z_cro_70 : z_okr 70 zc_70 = true := by decide +kernel
theorem z_cro_71 : z_okr 71 zc_71 = true := by decide +kernel
theorem z_cro_72 : z_okr 72 zc_72 = true := by decide +kernel
theorem z_cro_73 : z_okr 73 zc_73 = true := by decide +kernel
theorem z_cro_74 : z_okr 74 zc_74 = true := by decide +kernel
theorem z_cro_75 : z_okr 75 zc_75 = true := by decide +kernel
theorem z_cro_76 : z_okr 76 zc_76 = true := by decide +kernel
theorem z_cro_77 : z_okr 77 zc_77 = true := by decide +kernel
theorem z_cro_78 : z_okr 78 zc_78 = true := by decide +kernel
theorem z_cro_79 : z_okr 79 zc_79 = true := by decide +kernel
theorem z_cro_80 : z_okr 80 zc_80 = true := by decide +kernel
theorem z_cro_81 : z_okr 81 zc_81 = true := by decide +kernel
theorem z_cro_82 : z_okr 82 zc_82 = true := by decide +kernel
theorem z_cro_83 : z_okr 83 zc_83 = true := by decide +kernel
theorem z_cro_84 : z_okr 84 zc_84 = true := by decide +kernel
theorem z_cro_85 : z_okr 85 zc_85 = true := by decide +kernel
theorem z_cro_86 : z_okr 86 zc_86 = true := by decide +kernel
theorem z_cro_87 : z_okr 87 zc_87 = true := by decide +kernel
theorem z_cro_88 : z_okr 88 zc_88 = true := by decide +kernel
theorem z_cro_89 : z_okr 89 zc_89 = true := by decide +kernel
theorem z_cro_90 : z_okr 90 zc_90 = true := by decide +kernel
theorem z_cro_91 : z_okr 91 zc_91 = true := by decide +kernel
theorem z_cro_92 : z_okr 92 zc_92 = true := by decide +kernel
theorem z_cro_93 : z_okr 93 zc_93 = true := by decide +kernel
theorem z_cro_94 : z_okr 94 zc_94 = true := by decide +kernel
theorem z_cro_95 : z_okr 95 zc_95 = true := by decide +kernel
theorem z_cro_96 : z_okr 96 zc_96 = true := by decide +kernel
theorem z_cro_97 : z_okr 97 zc_97 = true := by decide +kernel
theorem z_cro_98 : z_okr 98 zc_98 = true := by decide +kernel
theorem z_cro_99 : z_okr 99 zc_99 = true := by decide +kernel
theorem z_cro_100 : z_okr 100 zc_100 = true := by decide +kernel
theorem z_cro_101 : z_okr 101 zc_101 = true := by decide +kernel
theorem z_cro_102 : z_okr 102 zc_102 = true := by decide +kernel
theorem z_cro_103 : z_okr 103 zc_103 = true := by decide +kernel
theorem z_cro_104 : z_okr 104 zc_104 = true := by decide +kernel
theorem z_cro_105 : z_okr 105 zc_105 = true := by decide +kernel
theorem z_cro_106 : z_okr 106 zc_106 = true := by decide +kernel
theorem z_cro_107 : z_okr 107 zc_107 = true := by decide +kernel
theorem z_cro_108 : z_okr 108 zc_108 = true := by decide +kernel
theorem z_cro_109 : z_okr 109 zc_109 = true := by decide +kernel
theorem z_cro_110 : z_okr 110 zc_110 = true := by decide +kernel
theorem z_cro_111 : z_okr 111 zc_111 = true := by decide +kernel
theorem z_cro_112 : z_okr 112 zc_112 = true := by decide +kernel
theorem z_cro_113 : z_okr 113 zc_113 = true := by decide +kernel
theorem z_cro_114 : z_okr 114 zc_114 = true := by decide +kernel
theorem z_cro_115 : z_okr 115 zc_115 = true := by decide +kernel
theorem z_cro_116 : z_okr 116 zc_116 = true := by decide +kernel
theorem z_cro_117 : z_okr 117 zc_117 = true := by decide +kernel
theorem z_cro_118 : z_okr 118 zc_118 = true := by decide +kernel
theorem z_cro_119 : z_okr 119 zc_119 = true := by decide +kernel
theorem z_cro_120 : z_okr 120 zc_120 = true := by decide +kernel
theorem z_cro_121 : z_okr 121 zc_121 = true := by decide +kernel
theorem z_cro_122 : z_okr 122 zc_122 = true := by decide +kernel
theorem z_cro_123 : z_okr 123 zc_123 = true := by decide +kernel
theorem z_cro_124 : z_okr 124 zc_124 = true := by decide +kernel
theorem z_cro_125 : z_okr 125 zc_125 = true := by decide +kernel
theorem z_cro_126 : z_okr 126 zc_126 = true := by decide +kernel
theorem z_cro_127 : z_okr 127 zc_127 = true := by decide +kernel
theorem z_cro_128 : z_okr 128 zc_128 = true := by decide +kernel
theorem z_cro_129 : z_okr 129 zc_129 = true := by decide +kernel
theorem z_cro_130 : z_okr 130 zc_130 = true := by decide +kernel
theorem z_cro_131 : z_okr 131 zc_131 = true := by decide +kernel
theorem z_cro_132 : z_okr 132 zc_132 = true := by decide +kernel
theorem z_cro_133 : z_okr 133 zc_133 = true := by decide +kernel
theorem z_cro_134 : z_okr 134 zc_134 = true := by decide +kernel
theorem z_cro_135 : z_okr 135 zc_135 = true := by decide +kernel
theorem z_cro_136 : z_okr 136 zc_136 = true := by decide +kernel
theorem z_cro_137 : z_okr 137 zc_137 = true := by decide +kernel
theorem z_cro_138 : z_okr 138 zc_138 = true := by decide +kernel
theorem z_cro_139 : z_okr 139 zc_139 = true := by decide +kernel
theorem z_cro_140 : z_okr 140 zc_140 = true := by decide +kernel
theorem z_cro_141 : z_okr 141 zc_141 = true := by decide +kernel
theorem z_cro_142 : z_okr 142 zc_142 = true := by decide +kernel
theorem z_cro_143 : z_okr 143 zc_143 = true := by decide +kernel
theorem z_cro_144 : z_okr 144 zc_144 = true := by decide +kernel
theorem z_cro_145 : z_okr 145 zc_145 = true := by decide +kernel
theorem z_cro_146 : z_okr 146 zc_146 = true := by decide +kernel
theorem z_cro_147 : z_okr 147 zc_147 = true := by decide +kernel
theorem z_cro_148 : z_okr 148 zc_148 = true := by decide +kernel
theorem z_cro_149 : z_okr 149 zc_149 = true := by decide +kernel
theorem z_cro_150 : z_okr 150 zc_150 = true := by decide +kernel
theorem z_cro_151 : z_okr 151 zc_151 = true := by decide +kernel
theorem z_cro_152 : z_okr 152 zc_152 = true := by decide +kernel
theorem z_cro_153 : z_okr 153 zc_153 = true := by decide +kernel
theorem z_cro_154 : z_okr 154 zc_154 = true := by decide +kernel
theorem z_cro_155 : z_okr 155 zc_155 = true := by decide +kernel
theorem z_cro_156 : z_okr 156 zc_156 = true := by decide +kernel
theorem z_cro_157 : z_okr 157 zc_157 = true := by decide +kernel
theorem z_cro_158 : z_okr 158 zc_158 = true := by decide +kernel
theorem z_cro_159 : z_okr 159 zc_159 = true := by decide +kernel
theorem z_cro_160 : z_okr 160 zc_160 = true := by decide +kernel
theorem z_cro_161 : z_okr 161 zc_161 = true := by decide +kernel
theorem z_cro_162 : z_okr 162 zc_162 = true := by decide +kernel
theorem z_cro_163 : z_okr 163 zc_163 = true := by decide +kernel
theorem z_cro_164 : z_okr 164 zc_164 = true := by decide +kernel
theorem z_cro_165 : z_okr 165 zc_165 = true := by decide +kernel
theorem z_cro_166 : z_okr 166 zc_166 = true := by decide +kernel
theorem z_cro_167 : z_okr 167 zc_167 = true := by decide +kernel
theorem z_cro_168 : z_okr 168 zc_168 = true := by decide +kernel
theorem z_cro_169 : z_okr 169 zc_169 = true := by decide +kernel
theorem z_cro_170 : z_okr 170 zc_170 = true := by decide +kernel
theorem z_cro_171 : z_okr 171 zc_171 = true := by decide +kernel
theorem z_cro_172 : z_okr 172 zc_172 = true := by decide +kernel
theorem z_cro_173 : z_okr 173 zc_173 = true := by decide +kernel
theorem z_cro_174 : z_okr 174 zc_174 = true := by decide +kernel
theorem z_cro_175 : z_okr 175 zc_175 = true := by decide +kernel
theorem z_cro_176 : z_okr 176 zc_176 = true := by decide +kernel
theorem z_cro_177 : z_okr 177 zc_177 = true := by decide +kernel
theorem z_cro_178 : z_okr 178 zc_178 = true := by decide +kernel
theorem z_cro_179 : z_okr 179 zc_179 = true := by decide +kernel
theorem z_cro_180 : z_okr 180 zc_180 = true := by decide +kernel
theorem z_cro_181 : z_okr 181 zc_181 = true := by decide +kernel
theorem z_cro_182 : z_okr 182 zc_182 = true := by decide +kernel
theorem z_cro_183 : z_okr 183 zc_183 = true := by decide +kernel
theorem z_cro_184 : z_okr 184 zc_184 = true := by decide +kernel
theorem z_cro_185 : z_okr 185 zc_185 = true := by decide +kernel
theorem z_cro_186 : z_okr 186 zc_186 = true := by decide +kernel
theorem z_cro_187 : z_okr 187 zc_187 = true := by decide +kernel
theorem z_cro_188 : z_okr 188 zc_188 = true := by decide +kernel
theorem z_cro_189 : z_okr 189 zc_189 = true := by decide +kernel
theorem z_cro_190 : z_okr 190 zc_190 = true := by decide +kernel
theorem z_cro_191 : z_okr 191 zc_191 = true := by decide +kernel
theorem z_cro_192 : z_okr 192 zc_192 = true := by decide +kernel
theorem z_cro_193 : z_okr 193 zc_193 = true := by decide +kernel
theorem z_cro_194 : z_okr 194 zc_194 = true := by decide +kernel
theorem z_cro_195 : z_okr 195 zc_195 = true := by decide +kernel
theorem z_cro_196 : z_okr 196 zc_196 = true := by decide +kernel
theorem z_cro_197 : z_okr 197 zc_197 = true := by decide +kernel
theorem z_cro_198 : z_okr 198 zc_198 = true := by decide +kernel
theorem z_cro_199 : z_okr 199 zc_199 = true := by decide +kernel
theorem z_cro_200 : z_okr 200 zc_200 = true := by decide +kernel
theorem z_cro_201 : z_okr 201 zc_201 = true := by decide +kernel
theorem z_cro_202 : z_okr 202 zc_202 = true := by decide +kernel
theorem z_cro_203 : z_okr 203 zc_203 = true := by decide +kernel
theorem z_cro_204 : z_okr 204 zc_204 = true := by decide +kernel
theorem z_cro_205 : z_okr 205 zc_205 = true := by decide +kernel
theorem z_cro_206 : z_okr 206 zc_206 = true := by decide +kernel
theorem z_cro_207 : z_okr 207 zc_207 = true := by decide +kernel
theorem z_cro_208 : z_okr 208 zc_208 = true := by decide +kernel
theorem z_cro_209 : z_okr 209 zc_209 = true := by decide +kernel
theorem z_cro_210 : z_okr 210 zc_210 = true := by decide +kernel
theorem z_cro_211 : z_okr 211 zc_211 = true := by decide +kernel
theorem z_cro_212 : z_okr 212 zc_212 = true := by decide +kernel
theorem z_cro_213 : z_okr 213 zc_213 = true := by decide +kernel
theorem z_cro_214 : z_okr 214 zc_214 = true := by decide +kernel
theorem z_cro_215 : z_okr 215 zc_215 = true := by decide +kernel
theorem z_cro_216 : z_okr 216 zc_216 = true := by decide +kernel
theorem z_cro_217 : z_okr 217 zc_217 = true := by decide +kernel
theorem z_cro_218 : z_okr 218 zc_218 = true := by decide +kernel
theorem z_cro_219 : z_okr 219 zc_219 = true := by decide +kernel
theorem z_cro_220 : z_okr 220 zc_220 = true := by decide +kernel
theorem z_cro_221 : z_okr 221 zc_221 = true := by decide +kernel
theorem z_cro_222 : z_okr 222 zc_222 = true := by decide +kernel
theorem z_cro_223 : z_okr 223 zc_223 = true := by decide +kernel
theorem z_cro_224 : z_okr 224 zc_224 = true := by decide +kernel
theorem z_cro_225 : z_okr 225 zc_225 = true := by decide +kernel
theorem z_cro_226 : z_okr 226 zc_226 = true := by decide +kernel
theorem z_cro_227 : z_okr 227 zc_227 = true := by decide +kernel
theorem z_cro_228 : z_okr 228 zc_228 = true := by decide +kernel
theorem z_cro_229 : z_okr 229 zc_229 = true := by decide +kernel
theorem z_cro_230 : z_okr 230 zc_230 = true := by decide +kernel
theorem z_cro_231 : z_okr 231 zc_231 = true := by decide +kernel
theorem z_cro_232 : z_okr 232 zc_232 = true := by decide +kernel
theorem z_cro_233 : z_okr 233 zc_233 = true := by decide +kernel
theorem z_cro_234 : z_okr 234 zc_234 = true := by decide +kernel
theorem z_cro_235 : z_okr 235 zc_235 = true := by decide +kernel
theorem z_cro_236 : z_okr 236 zc_236 = true := by decide +kernel
theorem z_cro_237 : z_okr 237 zc_237 = true := by decide +kernel
theorem z_cro_238 : z_okr 238 zc_238 = true := by decide +kernel
theorem z_cro_239 : z_okr 239 zc_239 = true := by decide +kernel
theorem z_cro_240 : z_okr 240 zc_240 = true := by decide +kernel
theorem z_cro_241 : z_okr 241 zc_241 = true := by decide +kernel
theorem z_cro_242 : z_okr 242 zc_242 = true := by decide +kernel
theorem z_cro_243 : z_okr 243 zc_243 = true := by decide +kernel
theorem z_cro_244 : z_okr 244 zc_244 = true := by decide +kernel
theorem z_cro_245 : z_okr 245 zc_245 = true := by decide +kernel
theorem z_cro_246 : z_okr 246 zc_246 = true := by decide +kernel
