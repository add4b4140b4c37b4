/-! the words by their numbers -/
noncomputable def MWz0 (i : Nat) : Cond := (cond (Nat.ble i 15) (cond (Nat.ble i 7) (cond (Nat.ble i 3) (cond (Nat.ble i 1) (cond (Nat.ble i 0) q0_ q1_) (cond (Nat.ble i 2) q2_ q3_)) (cond (Nat.ble i 5) (cond (Nat.ble i 4) q4_ q5_) (cond (Nat.ble i 6) q6_ q7_))) (cond (Nat.ble i 11) (cond (Nat.ble i 9) (cond (Nat.ble i 8) q8_ q9_) (cond (Nat.ble i 10) q10_ q11_)) (cond (Nat.ble i 13) (cond (Nat.ble i 12) q12_ q13_) (cond (Nat.ble i 14) q14_ q15_)))) (cond (Nat.ble i 23) (cond (Nat.ble i 19) (cond (Nat.ble i 17) (cond (Nat.ble i 16) q16_ q17_) (cond (Nat.ble i 18) q18_ q19_)) (cond (Nat.ble i 21) (cond (Nat.ble i 20) q20_ q21_) (cond (Nat.ble i 22) q22_ q23_))) (cond (Nat.ble i 27) (cond (Nat.ble i 25) (cond (Nat.ble i 24) q24_ q25_) (cond (Nat.ble i 26) q26_ q27_)) (cond (Nat.ble i 29) (cond (Nat.ble i 28) q28_ q29_) (cond (Nat.ble i 30) q30_ q31_)))))
noncomputable def MWz1 (i : Nat) : Cond := (cond (Nat.ble i 47) (cond (Nat.ble i 39) (cond (Nat.ble i 35) (cond (Nat.ble i 33) (cond (Nat.ble i 32) q32_ q33_) (cond (Nat.ble i 34) q34_ q35_)) (cond (Nat.ble i 37) (cond (Nat.ble i 36) q36_ q37_) (cond (Nat.ble i 38) q38_ q39_))) (cond (Nat.ble i 43) (cond (Nat.ble i 41) (cond (Nat.ble i 40) q40_ q41_) (cond (Nat.ble i 42) q42_ q43_)) (cond (Nat.ble i 45) (cond (Nat.ble i 44) q44_ q45_) (cond (Nat.ble i 46) q46_ q47_)))) (cond (Nat.ble i 55) (cond (Nat.ble i 51) (cond (Nat.ble i 49) (cond (Nat.ble i 48) q48_ q49_) (cond (Nat.ble i 50) q50_ q51_)) (cond (Nat.ble i 53) (cond (Nat.ble i 52) q52_ q53_) (cond (Nat.ble i 54) q54_ q55_))) (cond (Nat.ble i 59) (cond (Nat.ble i 57) (cond (Nat.ble i 56) q56_ q57_) (cond (Nat.ble i 58) q58_ q59_)) (cond (Nat.ble i 61) (cond (Nat.ble i 60) q60_ q61_) (cond (Nat.ble i 62) q62_ q63_)))))
noncomputable def MWz2 (i : Nat) : Cond := (cond (Nat.ble i 79) (cond (Nat.ble i 71) (cond (Nat.ble i 67) (cond (Nat.ble i 65) (cond (Nat.ble i 64) q64_ q65_) (cond (Nat.ble i 66) q66_ q67_)) (cond (Nat.ble i 69) (cond (Nat.ble i 68) q68_ q69_) (cond (Nat.ble i 70) q70_ q71_))) (cond (Nat.ble i 75) (cond (Nat.ble i 73) (cond (Nat.ble i 72) q72_ q73_) (cond (Nat.ble i 74) q74_ q75_)) (cond (Nat.ble i 77) (cond (Nat.ble i 76) q76_ q77_) (cond (Nat.ble i 78) q78_ q79_)))) (cond (Nat.ble i 87) (cond (Nat.ble i 83) (cond (Nat.ble i 81) (cond (Nat.ble i 80) q80_ q81_) (cond (Nat.ble i 82) q82_ q83_)) (cond (Nat.ble i 85) (cond (Nat.ble i 84) q84_ q85_) (cond (Nat.ble i 86) q86_ q87_))) (cond (Nat.ble i 91) (cond (Nat.ble i 89) (cond (Nat.ble i 88) q88_ q89_) (cond (Nat.ble i 90) q90_ q91_)) (cond (Nat.ble i 93) (cond (Nat.ble i 92) q92_ q93_) (cond (Nat.ble i 94) q94_ q95_)))))
noncomputable def MWz3 (i : Nat) : Cond := (cond (Nat.ble i 111) (cond (Nat.ble i 103) (cond (Nat.ble i 99) (cond (Nat.ble i 97) (cond (Nat.ble i 96) q96_ q97_) (cond (Nat.ble i 98) q98_ q99_)) (cond (Nat.ble i 101) (cond (Nat.ble i 100) q100_ q101_) (cond (Nat.ble i 102) q102_ q103_))) (cond (Nat.ble i 107) (cond (Nat.ble i 105) (cond (Nat.ble i 104) q104_ q105_) (cond (Nat.ble i 106) q106_ q107_)) (cond (Nat.ble i 109) (cond (Nat.ble i 108) q108_ q109_) (cond (Nat.ble i 110) q110_ q111_)))) (cond (Nat.ble i 119) (cond (Nat.ble i 115) (cond (Nat.ble i 113) (cond (Nat.ble i 112) q112_ q113_) (cond (Nat.ble i 114) q114_ q115_)) (cond (Nat.ble i 117) (cond (Nat.ble i 116) q116_ q117_) (cond (Nat.ble i 118) q118_ q119_))) (cond (Nat.ble i 123) (cond (Nat.ble i 121) (cond (Nat.ble i 120) q120_ q121_) (cond (Nat.ble i 122) q122_ q123_)) (cond (Nat.ble i 125) (cond (Nat.ble i 124) q124_ q125_) (cond (Nat.ble i 126) q126_ q127_)))))
noncomputable def MWz4 (i : Nat) : Cond := (cond (Nat.ble i 143) (cond (Nat.ble i 135) (cond (Nat.ble i 131) (cond (Nat.ble i 129) (cond (Nat.ble i 128) q128_ q129_) (cond (Nat.ble i 130) q130_ q131_)) (cond (Nat.ble i 133) (cond (Nat.ble i 132) q132_ q133_) (cond (Nat.ble i 134) q134_ q135_))) (cond (Nat.ble i 139) (cond (Nat.ble i 137) (cond (Nat.ble i 136) q136_ q137_) (cond (Nat.ble i 138) q138_ q139_)) (cond (Nat.ble i 141) (cond (Nat.ble i 140) q140_ q141_) (cond (Nat.ble i 142) q142_ q143_)))) (cond (Nat.ble i 151) (cond (Nat.ble i 147) (cond (Nat.ble i 145) (cond (Nat.ble i 144) q144_ q145_) (cond (Nat.ble i 146) q146_ q147_)) (cond (Nat.ble i 149) (cond (Nat.ble i 148) q148_ q149_) (cond (Nat.ble i 150) q150_ q151_))) (cond (Nat.ble i 155) (cond (Nat.ble i 153) (cond (Nat.ble i 152) q152_ q153_) (cond (Nat.ble i 154) q154_ q155_)) (cond (Nat.ble i 157) (cond (Nat.ble i 156) q156_ q157_) (cond (Nat.ble i 158) q158_ q159_)))))
noncomputable def MWz5 (i : Nat) : Cond := (cond (Nat.ble i 175) (cond (Nat.ble i 167) (cond (Nat.ble i 163) (cond (Nat.ble i 161) (cond (Nat.ble i 160) q160_ q161_) (cond (Nat.ble i 162) q162_ q163_)) (cond (Nat.ble i 165) (cond (Nat.ble i 164) q164_ q165_) (cond (Nat.ble i 166) q166_ q167_))) (cond (Nat.ble i 171) (cond (Nat.ble i 169) (cond (Nat.ble i 168) q168_ q169_) (cond (Nat.ble i 170) q170_ q171_)) (cond (Nat.ble i 173) (cond (Nat.ble i 172) q172_ q173_) (cond (Nat.ble i 174) q174_ q175_)))) (cond (Nat.ble i 183) (cond (Nat.ble i 179) (cond (Nat.ble i 177) (cond (Nat.ble i 176) q176_ q177_) (cond (Nat.ble i 178) q178_ q179_)) (cond (Nat.ble i 181) (cond (Nat.ble i 180) q180_ q181_) (cond (Nat.ble i 182) q182_ q183_))) (cond (Nat.ble i 187) (cond (Nat.ble i 185) (cond (Nat.ble i 184) q184_ q185_) (cond (Nat.ble i 186) q186_ q187_)) (cond (Nat.ble i 189) (cond (Nat.ble i 188) q188_ q189_) (cond (Nat.ble i 190) q190_ q191_)))))
noncomputable def MWz6 (i : Nat) : Cond := (cond (Nat.ble i 207) (cond (Nat.ble i 199) (cond (Nat.ble i 195) (cond (Nat.ble i 193) (cond (Nat.ble i 192) q192_ q193_) (cond (Nat.ble i 194) q194_ q195_)) (cond (Nat.ble i 197) (cond (Nat.ble i 196) q196_ q197_) (cond (Nat.ble i 198) q198_ q199_))) (cond (Nat.ble i 203) (cond (Nat.ble i 201) (cond (Nat.ble i 200) q200_ q201_) (cond (Nat.ble i 202) q202_ q203_)) (cond (Nat.ble i 205) (cond (Nat.ble i 204) q204_ q205_) (cond (Nat.ble i 206) q206_ q207_)))) (cond (Nat.ble i 215) (cond (Nat.ble i 211) (cond (Nat.ble i 209) (cond (Nat.ble i 208) q208_ q209_) (cond (Nat.ble i 210) q210_ q211_)) (cond (Nat.ble i 213) (cond (Nat.ble i 212) q212_ q213_) (cond (Nat.ble i 214) q214_ q215_))) (cond (Nat.ble i 219) (cond (Nat.ble i 217) (cond (Nat.ble i 216) q216_ q217_) (cond (Nat.ble i 218) q218_ q219_)) (cond (Nat.ble i 221) (cond (Nat.ble i 220) q220_ q221_) (cond (Nat.ble i 222) q222_ q223_)))))
noncomputable def MWz7 (i : Nat) : Cond := (cond (Nat.ble i 239) (cond (Nat.ble i 231) (cond (Nat.ble i 227) (cond (Nat.ble i 225) (cond (Nat.ble i 224) q224_ q225_) (cond (Nat.ble i 226) q226_ q227_)) (cond (Nat.ble i 229) (cond (Nat.ble i 228) q228_ q229_) (cond (Nat.ble i 230) q230_ q231_))) (cond (Nat.ble i 235) (cond (Nat.ble i 233) (cond (Nat.ble i 232) q232_ q233_) (cond (Nat.ble i 234) q234_ q235_)) (cond (Nat.ble i 237) (cond (Nat.ble i 236) q236_ q237_) (cond (Nat.ble i 238) q238_ q239_)))) (cond (Nat.ble i 247) (cond (Nat.ble i 243) (cond (Nat.ble i 241) (cond (Nat.ble i 240) q240_ q241_) (cond (Nat.ble i 242) q242_ q243_)) (cond (Nat.ble i 245) (cond (Nat.ble i 244) q244_ q245_) (cond (Nat.ble i 246) q246_ q247_))) (cond (Nat.ble i 251) (cond (Nat.ble i 249) (cond (Nat.ble i 248) q248_ q249_) (cond (Nat.ble i 250) q250_ q251_)) (cond (Nat.ble i 253) (cond (Nat.ble i 252) q252_ q253_) (cond (Nat.ble i 254) q254_ q255_)))))
noncomputable def MWz8 (i : Nat) : Cond := (cond (Nat.ble i 271) (cond (Nat.ble i 263) (cond (Nat.ble i 259) (cond (Nat.ble i 257) (cond (Nat.ble i 256) q256_ q257_) (cond (Nat.ble i 258) q258_ q259_)) (cond (Nat.ble i 261) (cond (Nat.ble i 260) q260_ q261_) (cond (Nat.ble i 262) q262_ q263_))) (cond (Nat.ble i 267) (cond (Nat.ble i 265) (cond (Nat.ble i 264) q264_ q265_) (cond (Nat.ble i 266) q266_ q267_)) (cond (Nat.ble i 269) (cond (Nat.ble i 268) q268_ q269_) (cond (Nat.ble i 270) q270_ q271_)))) (cond (Nat.ble i 279) (cond (Nat.ble i 275) (cond (Nat.ble i 273) (cond (Nat.ble i 272) q272_ q273_) (cond (Nat.ble i 274) q274_ q275_)) (cond (Nat.ble i 277) (cond (Nat.ble i 276) q276_ q277_) (cond (Nat.ble i 278) q278_ q279_))) (cond (Nat.ble i 283) (cond (Nat.ble i 281) (cond (Nat.ble i 280) q280_ q281_) (cond (Nat.ble i 282) q282_ q283_)) (cond (Nat.ble i 285) (cond (Nat.ble i 284) q284_ q285_) (cond (Nat.ble i 286) q286_ q287_)))))
noncomputable def MWz9 (i : Nat) : Cond := (cond (Nat.ble i 303) (cond (Nat.ble i 295) (cond (Nat.ble i 291) (cond (Nat.ble i 289) (cond (Nat.ble i 288) q288_ q289_) (cond (Nat.ble i 290) q290_ q291_)) (cond (Nat.ble i 293) (cond (Nat.ble i 292) q292_ q293_) (cond (Nat.ble i 294) q294_ q295_))) (cond (Nat.ble i 299) (cond (Nat.ble i 297) (cond (Nat.ble i 296) q296_ q297_) (cond (Nat.ble i 298) q298_ q299_)) (cond (Nat.ble i 301) (cond (Nat.ble i 300) q300_ q301_) (cond (Nat.ble i 302) q302_ q303_)))) (cond (Nat.ble i 311) (cond (Nat.ble i 307) (cond (Nat.ble i 305) (cond (Nat.ble i 304) q304_ q305_) (cond (Nat.ble i 306) q306_ q307_)) (cond (Nat.ble i 309) (cond (Nat.ble i 308) q308_ q309_) (cond (Nat.ble i 310) q310_ q311_))) (cond (Nat.ble i 315) (cond (Nat.ble i 313) (cond (Nat.ble i 312) q312_ q313_) (cond (Nat.ble i 314) q314_ q315_)) (cond (Nat.ble i 317) (cond (Nat.ble i 316) q316_ q317_) (cond (Nat.ble i 318) q318_ q319_)))))
noncomputable def MWz10 (i : Nat) : Cond := (cond (Nat.ble i 335) (cond (Nat.ble i 327) (cond (Nat.ble i 323) (cond (Nat.ble i 321) (cond (Nat.ble i 320) q320_ q321_) (cond (Nat.ble i 322) q322_ q323_)) (cond (Nat.ble i 325) (cond (Nat.ble i 324) q324_ q325_) (cond (Nat.ble i 326) q326_ q327_))) (cond (Nat.ble i 331) (cond (Nat.ble i 329) (cond (Nat.ble i 328) q328_ q329_) (cond (Nat.ble i 330) q330_ q331_)) (cond (Nat.ble i 333) (cond (Nat.ble i 332) q332_ q333_) (cond (Nat.ble i 334) q334_ q335_)))) (cond (Nat.ble i 343) (cond (Nat.ble i 339) (cond (Nat.ble i 337) (cond (Nat.ble i 336) q336_ q337_) (cond (Nat.ble i 338) q338_ q339_)) (cond (Nat.ble i 341) (cond (Nat.ble i 340) q340_ q341_) (cond (Nat.ble i 342) q342_ q343_))) (cond (Nat.ble i 347) (cond (Nat.ble i 345) (cond (Nat.ble i 344) q344_ q345_) (cond (Nat.ble i 346) q346_ q347_)) (cond (Nat.ble i 349) (cond (Nat.ble i 348) q348_ q349_) (cond (Nat.ble i 350) q350_ q351_)))))
noncomputable def MWz11 (i : Nat) : Cond := (cond (Nat.ble i 367) (cond (Nat.ble i 359) (cond (Nat.ble i 355) (cond (Nat.ble i 353) (cond (Nat.ble i 352) q352_ q353_) (cond (Nat.ble i 354) q354_ q355_)) (cond (Nat.ble i 357) (cond (Nat.ble i 356) q356_ q357_) (cond (Nat.ble i 358) q358_ q359_))) (cond (Nat.ble i 363) (cond (Nat.ble i 361) (cond (Nat.ble i 360) q360_ q361_) (cond (Nat.ble i 362) q362_ q363_)) (cond (Nat.ble i 365) (cond (Nat.ble i 364) q364_ q365_) (cond (Nat.ble i 366) q366_ q367_)))) (cond (Nat.ble i 375) (cond (Nat.ble i 371) (cond (Nat.ble i 369) (cond (Nat.ble i 368) q368_ q369_) (cond (Nat.ble i 370) q370_ q371_)) (cond (Nat.ble i 373) (cond (Nat.ble i 372) q372_ q373_) (cond (Nat.ble i 374) q374_ q375_))) (cond (Nat.ble i 379) (cond (Nat.ble i 377) (cond (Nat.ble i 376) q376_ q377_) (cond (Nat.ble i 378) q378_ q379_)) (cond (Nat.ble i 381) (cond (Nat.ble i 380) q380_ q381_) (cond (Nat.ble i 382) q382_ q383_)))))
noncomputable def MWz12 (i : Nat) : Cond := (cond (Nat.ble i 399) (cond (Nat.ble i 391) (cond (Nat.ble i 387) (cond (Nat.ble i 385) (cond (Nat.ble i 384) q384_ q385_) (cond (Nat.ble i 386) q386_ q387_)) (cond (Nat.ble i 389) (cond (Nat.ble i 388) q388_ q389_) (cond (Nat.ble i 390) q390_ q391_))) (cond (Nat.ble i 395) (cond (Nat.ble i 393) (cond (Nat.ble i 392) q392_ q393_) (cond (Nat.ble i 394) q394_ q395_)) (cond (Nat.ble i 397) (cond (Nat.ble i 396) q396_ q397_) (cond (Nat.ble i 398) q398_ q399_)))) (cond (Nat.ble i 407) (cond (Nat.ble i 403) (cond (Nat.ble i 401) (cond (Nat.ble i 400) q400_ q401_) (cond (Nat.ble i 402) q402_ q403_)) (cond (Nat.ble i 405) (cond (Nat.ble i 404) q404_ q405_) (cond (Nat.ble i 406) q406_ q407_))) (cond (Nat.ble i 411) (cond (Nat.ble i 409) (cond (Nat.ble i 408) q408_ q409_) (cond (Nat.ble i 410) q410_ q411_)) (cond (Nat.ble i 413) (cond (Nat.ble i 412) q412_ q413_) (cond (Nat.ble i 414) q414_ q415_)))))
noncomputable def MWz13 (i : Nat) : Cond := (cond (Nat.ble i 431) (cond (Nat.ble i 423) (cond (Nat.ble i 419) (cond (Nat.ble i 417) (cond (Nat.ble i 416) q416_ q417_) (cond (Nat.ble i 418) q418_ q419_)) (cond (Nat.ble i 421) (cond (Nat.ble i 420) q420_ q421_) (cond (Nat.ble i 422) q422_ q423_))) (cond (Nat.ble i 427) (cond (Nat.ble i 425) (cond (Nat.ble i 424) q424_ q425_) (cond (Nat.ble i 426) q426_ q427_)) (cond (Nat.ble i 429) (cond (Nat.ble i 428) q428_ q429_) (cond (Nat.ble i 430) q430_ q431_)))) (cond (Nat.ble i 439) (cond (Nat.ble i 435) (cond (Nat.ble i 433) (cond (Nat.ble i 432) q432_ q433_) (cond (Nat.ble i 434) q434_ q435_)) (cond (Nat.ble i 437) (cond (Nat.ble i 436) q436_ q437_) (cond (Nat.ble i 438) q438_ q439_))) (cond (Nat.ble i 443) (cond (Nat.ble i 441) (cond (Nat.ble i 440) q440_ q441_) (cond (Nat.ble i 442) q442_ q443_)) (cond (Nat.ble i 445) (cond (Nat.ble i 444) q444_ q445_) (cond (Nat.ble i 446) q446_ q447_)))))
noncomputable def MWz14 (i : Nat) : Cond := (cond (Nat.ble i 463) (cond (Nat.ble i 455) (cond (Nat.ble i 451) (cond (Nat.ble i 449) (cond (Nat.ble i 448) q448_ q449_) (cond (Nat.ble i 450) q450_ q451_)) (cond (Nat.ble i 453) (cond (Nat.ble i 452) q452_ q453_) (cond (Nat.ble i 454) q454_ q455_))) (cond (Nat.ble i 459) (cond (Nat.ble i 457) (cond (Nat.ble i 456) q456_ q457_) (cond (Nat.ble i 458) q458_ q459_)) (cond (Nat.ble i 461) (cond (Nat.ble i 460) q460_ q461_) (cond (Nat.ble i 462) q462_ q463_)))) (cond (Nat.ble i 471) (cond (Nat.ble i 467) (cond (Nat.ble i 465) (cond (Nat.ble i 464) q464_ q465_) (cond (Nat.ble i 466) q466_ q467_)) (cond (Nat.ble i 469) (cond (Nat.ble i 468) q468_ q469_) (cond (Nat.ble i 470) q470_ q471_))) (cond (Nat.ble i 475) (cond (Nat.ble i 473) (cond (Nat.ble i 472) q472_ q473_) (cond (Nat.ble i 474) q474_ q475_)) (cond (Nat.ble i 477) (cond (Nat.ble i 476) q476_ q477_) (cond (Nat.ble i 478) q478_ q479_)))))
noncomputable def MWz15 (i : Nat) : Cond := (cond (Nat.ble i 495) (cond (Nat.ble i 487) (cond (Nat.ble i 483) (cond (Nat.ble i 481) (cond (Nat.ble i 480) q480_ q481_) (cond (Nat.ble i 482) q482_ q483_)) (cond (Nat.ble i 485) (cond (Nat.ble i 484) q484_ q485_) (cond (Nat.ble i 486) q486_ q487_))) (cond (Nat.ble i 491) (cond (Nat.ble i 489) (cond (Nat.ble i 488) q488_ q489_) (cond (Nat.ble i 490) q490_ q491_)) (cond (Nat.ble i 493) (cond (Nat.ble i 492) q492_ q493_) (cond (Nat.ble i 494) q494_ q495_)))) (cond (Nat.ble i 503) (cond (Nat.ble i 499) (cond (Nat.ble i 497) (cond (Nat.ble i 496) q496_ q497_) (cond (Nat.ble i 498) q498_ q499_)) (cond (Nat.ble i 501) (cond (Nat.ble i 500) q500_ q501_) (cond (Nat.ble i 502) q502_ q503_))) (cond (Nat.ble i 507) (cond (Nat.ble i 505) (cond (Nat.ble i 504) q504_ q505_) (cond (Nat.ble i 506) q506_ q507_)) (cond (Nat.ble i 509) (cond (Nat.ble i 508) q508_ q509_) (cond (Nat.ble i 510) q510_ q511_)))))
noncomputable def MWz16 (i : Nat) : Cond := (cond (Nat.ble i 527) (cond (Nat.ble i 519) (cond (Nat.ble i 515) (cond (Nat.ble i 513) (cond (Nat.ble i 512) q512_ q513_) (cond (Nat.ble i 514) q514_ q515_)) (cond (Nat.ble i 517) (cond (Nat.ble i 516) q516_ q517_) (cond (Nat.ble i 518) q518_ q519_))) (cond (Nat.ble i 523) (cond (Nat.ble i 521) (cond (Nat.ble i 520) q520_ q521_) (cond (Nat.ble i 522) q522_ q523_)) (cond (Nat.ble i 525) (cond (Nat.ble i 524) q524_ q525_) (cond (Nat.ble i 526) q526_ q527_)))) (cond (Nat.ble i 535) (cond (Nat.ble i 531) (cond (Nat.ble i 529) (cond (Nat.ble i 528) q528_ q529_) (cond (Nat.ble i 530) q530_ q531_)) (cond (Nat.ble i 533) (cond (Nat.ble i 532) q532_ q533_) (cond (Nat.ble i 534) q534_ q535_))) (cond (Nat.ble i 539) (cond (Nat.ble i 537) (cond (Nat.ble i 536) q536_ q537_) (cond (Nat.ble i 538) q538_ q539_)) (cond (Nat.ble i 541) (cond (Nat.ble i 540) q540_ q541_) (cond (Nat.ble i 542) q542_ q543_)))))
noncomputable def MWz17 (i : Nat) : Cond := (cond (Nat.ble i 559) (cond (Nat.ble i 551) (cond (Nat.ble i 547) (cond (Nat.ble i 545) (cond (Nat.ble i 544) q544_ q545_) (cond (Nat.ble i 546) q546_ q547_)) (cond (Nat.ble i 549) (cond (Nat.ble i 548) q548_ q549_) (cond (Nat.ble i 550) q550_ q551_))) (cond (Nat.ble i 555) (cond (Nat.ble i 553) (cond (Nat.ble i 552) q552_ q553_) (cond (Nat.ble i 554) q554_ q555_)) (cond (Nat.ble i 557) (cond (Nat.ble i 556) q556_ q557_) (cond (Nat.ble i 558) q558_ q559_)))) (cond (Nat.ble i 567) (cond (Nat.ble i 563) (cond (Nat.ble i 561) (cond (Nat.ble i 560) q560_ q561_) (cond (Nat.ble i 562) q562_ q563_)) (cond (Nat.ble i 565) (cond (Nat.ble i 564) q564_ q565_) (cond (Nat.ble i 566) q566_ q567_))) (cond (Nat.ble i 571) (cond (Nat.ble i 569) (cond (Nat.ble i 568) q568_ q569_) (cond (Nat.ble i 570) q570_ q571_)) (cond (Nat.ble i 573) (cond (Nat.ble i 572) q572_ q573_) (cond (Nat.ble i 574) q574_ q575_)))))
noncomputable def MWz18 (i : Nat) : Cond := (cond (Nat.ble i 591) (cond (Nat.ble i 583) (cond (Nat.ble i 579) (cond (Nat.ble i 577) (cond (Nat.ble i 576) q576_ q577_) (cond (Nat.ble i 578) q578_ q579_)) (cond (Nat.ble i 581) (cond (Nat.ble i 580) q580_ q581_) (cond (Nat.ble i 582) q582_ q583_))) (cond (Nat.ble i 587) (cond (Nat.ble i 585) (cond (Nat.ble i 584) q584_ q585_) (cond (Nat.ble i 586) q586_ q587_)) (cond (Nat.ble i 589) (cond (Nat.ble i 588) q588_ q589_) (cond (Nat.ble i 590) q590_ q591_)))) (cond (Nat.ble i 599) (cond (Nat.ble i 595) (cond (Nat.ble i 593) (cond (Nat.ble i 592) q592_ q593_) (cond (Nat.ble i 594) q594_ q595_)) (cond (Nat.ble i 597) (cond (Nat.ble i 596) q596_ q597_) (cond (Nat.ble i 598) q598_ q599_))) (cond (Nat.ble i 603) (cond (Nat.ble i 601) (cond (Nat.ble i 600) q600_ q601_) (cond (Nat.ble i 602) q602_ q603_)) (cond (Nat.ble i 605) (cond (Nat.ble i 604) q604_ q605_) (cond (Nat.ble i 606) q606_ q607_)))))
noncomputable def MWz19 (i : Nat) : Cond := (cond (Nat.ble i 623) (cond (Nat.ble i 615) (cond (Nat.ble i 611) (cond (Nat.ble i 609) (cond (Nat.ble i 608) q608_ q609_) (cond (Nat.ble i 610) q610_ q611_)) (cond (Nat.ble i 613) (cond (Nat.ble i 612) q612_ q613_) (cond (Nat.ble i 614) q614_ q615_))) (cond (Nat.ble i 619) (cond (Nat.ble i 617) (cond (Nat.ble i 616) q616_ q617_) (cond (Nat.ble i 618) q618_ q619_)) (cond (Nat.ble i 621) (cond (Nat.ble i 620) q620_ q621_) (cond (Nat.ble i 622) q622_ q623_)))) (cond (Nat.ble i 631) (cond (Nat.ble i 627) (cond (Nat.ble i 625) (cond (Nat.ble i 624) q624_ q625_) (cond (Nat.ble i 626) q626_ q627_)) (cond (Nat.ble i 629) (cond (Nat.ble i 628) q628_ q629_) (cond (Nat.ble i 630) q630_ q631_))) (cond (Nat.ble i 635) (cond (Nat.ble i 633) (cond (Nat.ble i 632) q632_ q633_) (cond (Nat.ble i 634) q634_ q635_)) (cond (Nat.ble i 637) (cond (Nat.ble i 636) q636_ q637_) (cond (Nat.ble i 638) q638_ q639_)))))
noncomputable def MWz20 (i : Nat) : Cond := (cond (Nat.ble i 655) (cond (Nat.ble i 647) (cond (Nat.ble i 643) (cond (Nat.ble i 641) (cond (Nat.ble i 640) q640_ q641_) (cond (Nat.ble i 642) q642_ q643_)) (cond (Nat.ble i 645) (cond (Nat.ble i 644) q644_ q645_) (cond (Nat.ble i 646) q646_ q647_))) (cond (Nat.ble i 651) (cond (Nat.ble i 649) (cond (Nat.ble i 648) q648_ q649_) (cond (Nat.ble i 650) q650_ q651_)) (cond (Nat.ble i 653) (cond (Nat.ble i 652) q652_ q653_) (cond (Nat.ble i 654) q654_ q655_)))) (cond (Nat.ble i 663) (cond (Nat.ble i 659) (cond (Nat.ble i 657) (cond (Nat.ble i 656) q656_ q657_) (cond (Nat.ble i 658) q658_ q659_)) (cond (Nat.ble i 661) (cond (Nat.ble i 660) q660_ q661_) (cond (Nat.ble i 662) q662_ q663_))) (cond (Nat.ble i 667) (cond (Nat.ble i 665) (cond (Nat.ble i 664) q664_ q665_) (cond (Nat.ble i 666) q666_ q667_)) (cond (Nat.ble i 669) (cond (Nat.ble i 668) q668_ q669_) (cond (Nat.ble i 670) q670_ q671_)))))
noncomputable def MWz21 (i : Nat) : Cond := (cond (Nat.ble i 687) (cond (Nat.ble i 679) (cond (Nat.ble i 675) (cond (Nat.ble i 673) (cond (Nat.ble i 672) q672_ q673_) (cond (Nat.ble i 674) q674_ q675_)) (cond (Nat.ble i 677) (cond (Nat.ble i 676) q676_ q677_) (cond (Nat.ble i 678) q678_ q679_))) (cond (Nat.ble i 683) (cond (Nat.ble i 681) (cond (Nat.ble i 680) q680_ q681_) (cond (Nat.ble i 682) q682_ q683_)) (cond (Nat.ble i 685) (cond (Nat.ble i 684) q684_ q685_) (cond (Nat.ble i 686) q686_ q687_)))) (cond (Nat.ble i 695) (cond (Nat.ble i 691) (cond (Nat.ble i 689) (cond (Nat.ble i 688) q688_ q689_) (cond (Nat.ble i 690) q690_ q691_)) (cond (Nat.ble i 693) (cond (Nat.ble i 692) q692_ q693_) (cond (Nat.ble i 694) q694_ q695_))) (cond (Nat.ble i 699) (cond (Nat.ble i 697) (cond (Nat.ble i 696) q696_ q697_) (cond (Nat.ble i 698) q698_ q699_)) (cond (Nat.ble i 701) (cond (Nat.ble i 700) q700_ q701_) (cond (Nat.ble i 702) q702_ q703_)))))
noncomputable def MWz22 (i : Nat) : Cond := (cond (Nat.ble i 719) (cond (Nat.ble i 711) (cond (Nat.ble i 707) (cond (Nat.ble i 705) (cond (Nat.ble i 704) q704_ q705_) (cond (Nat.ble i 706) q706_ q707_)) (cond (Nat.ble i 709) (cond (Nat.ble i 708) q708_ q709_) (cond (Nat.ble i 710) q710_ q711_))) (cond (Nat.ble i 715) (cond (Nat.ble i 713) (cond (Nat.ble i 712) q712_ q713_) (cond (Nat.ble i 714) q714_ q715_)) (cond (Nat.ble i 717) (cond (Nat.ble i 716) q716_ q717_) (cond (Nat.ble i 718) q718_ q719_)))) (cond (Nat.ble i 727) (cond (Nat.ble i 723) (cond (Nat.ble i 721) (cond (Nat.ble i 720) q720_ q721_) (cond (Nat.ble i 722) q722_ q723_)) (cond (Nat.ble i 725) (cond (Nat.ble i 724) q724_ q725_) (cond (Nat.ble i 726) q726_ q727_))) (cond (Nat.ble i 731) (cond (Nat.ble i 729) (cond (Nat.ble i 728) q728_ q729_) (cond (Nat.ble i 730) q730_ q731_)) (cond (Nat.ble i 733) (cond (Nat.ble i 732) q732_ q733_) (cond (Nat.ble i 734) q734_ q735_)))))
noncomputable def MWz23 (i : Nat) : Cond := (cond (Nat.ble i 751) (cond (Nat.ble i 743) (cond (Nat.ble i 739) (cond (Nat.ble i 737) (cond (Nat.ble i 736) q736_ q737_) (cond (Nat.ble i 738) q738_ q739_)) (cond (Nat.ble i 741) (cond (Nat.ble i 740) q740_ q741_) (cond (Nat.ble i 742) q742_ q743_))) (cond (Nat.ble i 747) (cond (Nat.ble i 745) (cond (Nat.ble i 744) q744_ q745_) (cond (Nat.ble i 746) q746_ q747_)) (cond (Nat.ble i 749) (cond (Nat.ble i 748) q748_ q749_) (cond (Nat.ble i 750) q750_ q751_)))) (cond (Nat.ble i 759) (cond (Nat.ble i 755) (cond (Nat.ble i 753) (cond (Nat.ble i 752) q752_ q753_) (cond (Nat.ble i 754) q754_ q755_)) (cond (Nat.ble i 757) (cond (Nat.ble i 756) q756_ q757_) (cond (Nat.ble i 758) q758_ q759_))) (cond (Nat.ble i 763) (cond (Nat.ble i 761) (cond (Nat.ble i 760) q760_ q761_) (cond (Nat.ble i 762) q762_ q763_)) (cond (Nat.ble i 765) (cond (Nat.ble i 764) q764_ q765_) (cond (Nat.ble i 766) q766_ q767_)))))
noncomputable def MWz24 (i : Nat) : Cond := (cond (Nat.ble i 783) (cond (Nat.ble i 775) (cond (Nat.ble i 771) (cond (Nat.ble i 769) (cond (Nat.ble i 768) q768_ q769_) (cond (Nat.ble i 770) q770_ q771_)) (cond (Nat.ble i 773) (cond (Nat.ble i 772) q772_ q773_) (cond (Nat.ble i 774) q774_ q775_))) (cond (Nat.ble i 779) (cond (Nat.ble i 777) (cond (Nat.ble i 776) q776_ q777_) (cond (Nat.ble i 778) q778_ q779_)) (cond (Nat.ble i 781) (cond (Nat.ble i 780) q780_ q781_) (cond (Nat.ble i 782) q782_ q783_)))) (cond (Nat.ble i 791) (cond (Nat.ble i 787) (cond (Nat.ble i 785) (cond (Nat.ble i 784) q784_ q785_) (cond (Nat.ble i 786) q786_ q787_)) (cond (Nat.ble i 789) (cond (Nat.ble i 788) q788_ q789_) (cond (Nat.ble i 790) q790_ q791_))) (cond (Nat.ble i 795) (cond (Nat.ble i 793) (cond (Nat.ble i 792) q792_ q793_) (cond (Nat.ble i 794) q794_ q795_)) (cond (Nat.ble i 797) (cond (Nat.ble i 796) q796_ q797_) (cond (Nat.ble i 798) q798_ q799_)))))
noncomputable def MWz25 (i : Nat) : Cond := (cond (Nat.ble i 815) (cond (Nat.ble i 807) (cond (Nat.ble i 803) (cond (Nat.ble i 801) (cond (Nat.ble i 800) q800_ q801_) (cond (Nat.ble i 802) q802_ q803_)) (cond (Nat.ble i 805) (cond (Nat.ble i 804) q804_ q805_) (cond (Nat.ble i 806) q806_ q807_))) (cond (Nat.ble i 811) (cond (Nat.ble i 809) (cond (Nat.ble i 808) q808_ q809_) (cond (Nat.ble i 810) q810_ q811_)) (cond (Nat.ble i 813) (cond (Nat.ble i 812) q812_ q813_) (cond (Nat.ble i 814) q814_ q815_)))) (cond (Nat.ble i 823) (cond (Nat.ble i 819) (cond (Nat.ble i 817) (cond (Nat.ble i 816) q816_ q817_) (cond (Nat.ble i 818) q818_ q819_)) (cond (Nat.ble i 821) (cond (Nat.ble i 820) q820_ q821_) (cond (Nat.ble i 822) q822_ q823_))) (cond (Nat.ble i 827) (cond (Nat.ble i 825) (cond (Nat.ble i 824) q824_ q825_) (cond (Nat.ble i 826) q826_ q827_)) (cond (Nat.ble i 829) (cond (Nat.ble i 828) q828_ q829_) (cond (Nat.ble i 830) q830_ q831_)))))
noncomputable def MWz26 (i : Nat) : Cond := (cond (Nat.ble i 847) (cond (Nat.ble i 839) (cond (Nat.ble i 835) (cond (Nat.ble i 833) (cond (Nat.ble i 832) q832_ q833_) (cond (Nat.ble i 834) q834_ q835_)) (cond (Nat.ble i 837) (cond (Nat.ble i 836) q836_ q837_) (cond (Nat.ble i 838) q838_ q839_))) (cond (Nat.ble i 843) (cond (Nat.ble i 841) (cond (Nat.ble i 840) q840_ q841_) (cond (Nat.ble i 842) q842_ q843_)) (cond (Nat.ble i 845) (cond (Nat.ble i 844) q844_ q845_) (cond (Nat.ble i 846) q846_ q847_)))) (cond (Nat.ble i 855) (cond (Nat.ble i 851) (cond (Nat.ble i 849) (cond (Nat.ble i 848) q848_ q849_) (cond (Nat.ble i 850) q850_ q851_)) (cond (Nat.ble i 853) (cond (Nat.ble i 852) q852_ q853_) (cond (Nat.ble i 854) q854_ q855_))) (cond (Nat.ble i 859) (cond (Nat.ble i 857) (cond (Nat.ble i 856) q856_ q857_) (cond (Nat.ble i 858) q858_ q859_)) (cond (Nat.ble i 861) (cond (Nat.ble i 860) q860_ q861_) (cond (Nat.ble i 862) q862_ q863_)))))
noncomputable def MWz27 (i : Nat) : Cond := (cond (Nat.ble i 879) (cond (Nat.ble i 871) (cond (Nat.ble i 867) (cond (Nat.ble i 865) (cond (Nat.ble i 864) q864_ q865_) (cond (Nat.ble i 866) q866_ q867_)) (cond (Nat.ble i 869) (cond (Nat.ble i 868) q868_ q869_) (cond (Nat.ble i 870) q870_ q871_))) (cond (Nat.ble i 875) (cond (Nat.ble i 873) (cond (Nat.ble i 872) q872_ q873_) (cond (Nat.ble i 874) q874_ q875_)) (cond (Nat.ble i 877) (cond (Nat.ble i 876) q876_ q877_) (cond (Nat.ble i 878) q878_ q879_)))) (cond (Nat.ble i 887) (cond (Nat.ble i 883) (cond (Nat.ble i 881) (cond (Nat.ble i 880) q880_ q881_) (cond (Nat.ble i 882) q882_ q883_)) (cond (Nat.ble i 885) (cond (Nat.ble i 884) q884_ q885_) (cond (Nat.ble i 886) q886_ q887_))) (cond (Nat.ble i 891) (cond (Nat.ble i 889) (cond (Nat.ble i 888) q888_ q889_) (cond (Nat.ble i 890) q890_ q891_)) (cond (Nat.ble i 893) (cond (Nat.ble i 892) q892_ q893_) (cond (Nat.ble i 894) q894_ q895_)))))
noncomputable def MWz28 (i : Nat) : Cond := (cond (Nat.ble i 911) (cond (Nat.ble i 903) (cond (Nat.ble i 899) (cond (Nat.ble i 897) (cond (Nat.ble i 896) q896_ q897_) (cond (Nat.ble i 898) q898_ q899_)) (cond (Nat.ble i 901) (cond (Nat.ble i 900) q900_ q901_) (cond (Nat.ble i 902) q902_ q903_))) (cond (Nat.ble i 907) (cond (Nat.ble i 905) (cond (Nat.ble i 904) q904_ q905_) (cond (Nat.ble i 906) q906_ q907_)) (cond (Nat.ble i 909) (cond (Nat.ble i 908) q908_ q909_) (cond (Nat.ble i 910) q910_ q911_)))) (cond (Nat.ble i 919) (cond (Nat.ble i 915) (cond (Nat.ble i 913) (cond (Nat.ble i 912) q912_ q913_) (cond (Nat.ble i 914) q914_ q915_)) (cond (Nat.ble i 917) (cond (Nat.ble i 916) q916_ q917_) (cond (Nat.ble i 918) q918_ q919_))) (cond (Nat.ble i 923) (cond (Nat.ble i 921) (cond (Nat.ble i 920) q920_ q921_) (cond (Nat.ble i 922) q922_ q923_)) (cond (Nat.ble i 925) (cond (Nat.ble i 924) q924_ q925_) (cond (Nat.ble i 926) q926_ q927_)))))
noncomputable def MWz29 (i : Nat) : Cond := (cond (Nat.ble i 943) (cond (Nat.ble i 935) (cond (Nat.ble i 931) (cond (Nat.ble i 929) (cond (Nat.ble i 928) q928_ q929_) (cond (Nat.ble i 930) q930_ q931_)) (cond (Nat.ble i 933) (cond (Nat.ble i 932) q932_ q933_) (cond (Nat.ble i 934) q934_ q935_))) (cond (Nat.ble i 939) (cond (Nat.ble i 937) (cond (Nat.ble i 936) q936_ q937_) (cond (Nat.ble i 938) q938_ q939_)) (cond (Nat.ble i 941) (cond (Nat.ble i 940) q940_ q941_) (cond (Nat.ble i 942) q942_ q943_)))) (cond (Nat.ble i 951) (cond (Nat.ble i 947) (cond (Nat.ble i 945) (cond (Nat.ble i 944) q944_ q945_) (cond (Nat.ble i 946) q946_ q947_)) (cond (Nat.ble i 949) (cond (Nat.ble i 948) q948_ q949_) (cond (Nat.ble i 950) q950_ q951_))) (cond (Nat.ble i 955) (cond (Nat.ble i 953) (cond (Nat.ble i 952) q952_ q953_) (cond (Nat.ble i 954) q954_ q955_)) (cond (Nat.ble i 957) (cond (Nat.ble i 956) q956_ q957_) (cond (Nat.ble i 958) q958_ q959_)))))
noncomputable def MWz30 (i : Nat) : Cond := (cond (Nat.ble i 975) (cond (Nat.ble i 967) (cond (Nat.ble i 963) (cond (Nat.ble i 961) (cond (Nat.ble i 960) q960_ q961_) (cond (Nat.ble i 962) q962_ q963_)) (cond (Nat.ble i 965) (cond (Nat.ble i 964) q964_ q965_) (cond (Nat.ble i 966) q966_ q967_))) (cond (Nat.ble i 971) (cond (Nat.ble i 969) (cond (Nat.ble i 968) q968_ q969_) (cond (Nat.ble i 970) q970_ q971_)) (cond (Nat.ble i 973) (cond (Nat.ble i 972) q972_ q973_) (cond (Nat.ble i 974) q974_ q975_)))) (cond (Nat.ble i 983) (cond (Nat.ble i 979) (cond (Nat.ble i 977) (cond (Nat.ble i 976) q976_ q977_) (cond (Nat.ble i 978) q978_ q979_)) (cond (Nat.ble i 981) (cond (Nat.ble i 980) q980_ q981_) (cond (Nat.ble i 982) q982_ q983_))) (cond (Nat.ble i 987) (cond (Nat.ble i 985) (cond (Nat.ble i 984) q984_ q985_) (cond (Nat.ble i 986) q986_ q987_)) (cond (Nat.ble i 989) (cond (Nat.ble i 988) q988_ q989_) (cond (Nat.ble i 990) q990_ q991_)))))
noncomputable def MWz31 (i : Nat) : Cond := (cond (Nat.ble i 1007) (cond (Nat.ble i 999) (cond (Nat.ble i 995) (cond (Nat.ble i 993) (cond (Nat.ble i 992) q992_ q993_) (cond (Nat.ble i 994) q994_ q995_)) (cond (Nat.ble i 997) (cond (Nat.ble i 996) q996_ q997_) (cond (Nat.ble i 998) q998_ q999_))) (cond (Nat.ble i 1003) (cond (Nat.ble i 1001) (cond (Nat.ble i 1000) q1000_ q1001_) (cond (Nat.ble i 1002) q1002_ q1003_)) (cond (Nat.ble i 1005) (cond (Nat.ble i 1004) q1004_ q1005_) (cond (Nat.ble i 1006) q1006_ q1007_)))) (cond (Nat.ble i 1015) (cond (Nat.ble i 1011) (cond (Nat.ble i 1009) (cond (Nat.ble i 1008) q1008_ q1009_) (cond (Nat.ble i 1010) q1010_ q1011_)) (cond (Nat.ble i 1013) (cond (Nat.ble i 1012) q1012_ q1013_) (cond (Nat.ble i 1014) q1014_ q1015_))) (cond (Nat.ble i 1019) (cond (Nat.ble i 1017) (cond (Nat.ble i 1016) q1016_ q1017_) (cond (Nat.ble i 1018) q1018_ q1019_)) (cond (Nat.ble i 1021) (cond (Nat.ble i 1020) q1020_ q1021_) (cond (Nat.ble i 1022) q1022_ q1023_)))))
noncomputable def MWz32 (i : Nat) : Cond := (cond (Nat.ble i 1039) (cond (Nat.ble i 1031) (cond (Nat.ble i 1027) (cond (Nat.ble i 1025) (cond (Nat.ble i 1024) q1024_ q1025_) (cond (Nat.ble i 1026) q1026_ q1027_)) (cond (Nat.ble i 1029) (cond (Nat.ble i 1028) q1028_ q1029_) (cond (Nat.ble i 1030) q1030_ q1031_))) (cond (Nat.ble i 1035) (cond (Nat.ble i 1033) (cond (Nat.ble i 1032) q1032_ q1033_) (cond (Nat.ble i 1034) q1034_ q1035_)) (cond (Nat.ble i 1037) (cond (Nat.ble i 1036) q1036_ q1037_) (cond (Nat.ble i 1038) q1038_ q1039_)))) (cond (Nat.ble i 1047) (cond (Nat.ble i 1043) (cond (Nat.ble i 1041) (cond (Nat.ble i 1040) q1040_ q1041_) (cond (Nat.ble i 1042) q1042_ q1043_)) (cond (Nat.ble i 1045) (cond (Nat.ble i 1044) q1044_ q1045_) (cond (Nat.ble i 1046) q1046_ q1047_))) (cond (Nat.ble i 1051) (cond (Nat.ble i 1049) (cond (Nat.ble i 1048) q1048_ q1049_) (cond (Nat.ble i 1050) q1050_ q1051_)) (cond (Nat.ble i 1053) (cond (Nat.ble i 1052) q1052_ q1053_) (cond (Nat.ble i 1054) q1054_ q1055_)))))
noncomputable def MWz33 (i : Nat) : Cond := (cond (Nat.ble i 1071) (cond (Nat.ble i 1063) (cond (Nat.ble i 1059) (cond (Nat.ble i 1057) (cond (Nat.ble i 1056) q1056_ q1057_) (cond (Nat.ble i 1058) q1058_ q1059_)) (cond (Nat.ble i 1061) (cond (Nat.ble i 1060) q1060_ q1061_) (cond (Nat.ble i 1062) q1062_ q1063_))) (cond (Nat.ble i 1067) (cond (Nat.ble i 1065) (cond (Nat.ble i 1064) q1064_ q1065_) (cond (Nat.ble i 1066) q1066_ q1067_)) (cond (Nat.ble i 1069) (cond (Nat.ble i 1068) q1068_ q1069_) (cond (Nat.ble i 1070) q1070_ q1071_)))) (cond (Nat.ble i 1079) (cond (Nat.ble i 1075) (cond (Nat.ble i 1073) (cond (Nat.ble i 1072) q1072_ q1073_) (cond (Nat.ble i 1074) q1074_ q1075_)) (cond (Nat.ble i 1077) (cond (Nat.ble i 1076) q1076_ q1077_) (cond (Nat.ble i 1078) q1078_ q1079_))) (cond (Nat.ble i 1083) (cond (Nat.ble i 1081) (cond (Nat.ble i 1080) q1080_ q1081_) (cond (Nat.ble i 1082) q1082_ q1083_)) (cond (Nat.ble i 1085) (cond (Nat.ble i 1084) q1084_ q1085_) (cond (Nat.ble i 1086) q1086_ q1087_)))))
noncomputable def MWz34 (i : Nat) : Cond := (cond (Nat.ble i 1103) (cond (Nat.ble i 1095) (cond (Nat.ble i 1091) (cond (Nat.ble i 1089) (cond (Nat.ble i 1088) q1088_ q1089_) (cond (Nat.ble i 1090) q1090_ q1091_)) (cond (Nat.ble i 1093) (cond (Nat.ble i 1092) q1092_ q1093_) (cond (Nat.ble i 1094) q1094_ q1095_))) (cond (Nat.ble i 1099) (cond (Nat.ble i 1097) (cond (Nat.ble i 1096) q1096_ q1097_) (cond (Nat.ble i 1098) q1098_ q1099_)) (cond (Nat.ble i 1101) (cond (Nat.ble i 1100) q1100_ q1101_) (cond (Nat.ble i 1102) q1102_ q1103_)))) (cond (Nat.ble i 1111) (cond (Nat.ble i 1107) (cond (Nat.ble i 1105) (cond (Nat.ble i 1104) q1104_ q1105_) (cond (Nat.ble i 1106) q1106_ q1107_)) (cond (Nat.ble i 1109) (cond (Nat.ble i 1108) q1108_ q1109_) (cond (Nat.ble i 1110) q1110_ q1111_))) (cond (Nat.ble i 1115) (cond (Nat.ble i 1113) (cond (Nat.ble i 1112) q1112_ q1113_) (cond (Nat.ble i 1114) q1114_ q1115_)) (cond (Nat.ble i 1117) (cond (Nat.ble i 1116) q1116_ q1117_) (cond (Nat.ble i 1118) q1118_ q1119_)))))
noncomputable def MWz35 (i : Nat) : Cond := (cond (Nat.ble i 1135) (cond (Nat.ble i 1127) (cond (Nat.ble i 1123) (cond (Nat.ble i 1121) (cond (Nat.ble i 1120) q1120_ q1121_) (cond (Nat.ble i 1122) q1122_ q1123_)) (cond (Nat.ble i 1125) (cond (Nat.ble i 1124) q1124_ q1125_) (cond (Nat.ble i 1126) q1126_ q1127_))) (cond (Nat.ble i 1131) (cond (Nat.ble i 1129) (cond (Nat.ble i 1128) q1128_ q1129_) (cond (Nat.ble i 1130) q1130_ q1131_)) (cond (Nat.ble i 1133) (cond (Nat.ble i 1132) q1132_ q1133_) (cond (Nat.ble i 1134) q1134_ q1135_)))) (cond (Nat.ble i 1143) (cond (Nat.ble i 1139) (cond (Nat.ble i 1137) (cond (Nat.ble i 1136) q1136_ q1137_) (cond (Nat.ble i 1138) q1138_ q1139_)) (cond (Nat.ble i 1141) (cond (Nat.ble i 1140) q1140_ q1141_) (cond (Nat.ble i 1142) q1142_ q1143_))) (cond (Nat.ble i 1147) (cond (Nat.ble i 1145) (cond (Nat.ble i 1144) q1144_ q1145_) (cond (Nat.ble i 1146) q1146_ q1147_)) (cond (Nat.ble i 1149) (cond (Nat.ble i 1148) q1148_ q1149_) (cond (Nat.ble i 1150) q1150_ q1151_)))))
noncomputable def MWz36 (i : Nat) : Cond := (cond (Nat.ble i 1167) (cond (Nat.ble i 1159) (cond (Nat.ble i 1155) (cond (Nat.ble i 1153) (cond (Nat.ble i 1152) q1152_ q1153_) (cond (Nat.ble i 1154) q1154_ q1155_)) (cond (Nat.ble i 1157) (cond (Nat.ble i 1156) q1156_ q1157_) (cond (Nat.ble i 1158) q1158_ q1159_))) (cond (Nat.ble i 1163) (cond (Nat.ble i 1161) (cond (Nat.ble i 1160) q1160_ q1161_) (cond (Nat.ble i 1162) q1162_ q1163_)) (cond (Nat.ble i 1165) (cond (Nat.ble i 1164) q1164_ q1165_) (cond (Nat.ble i 1166) q1166_ q1167_)))) (cond (Nat.ble i 1175) (cond (Nat.ble i 1171) (cond (Nat.ble i 1169) (cond (Nat.ble i 1168) q1168_ q1169_) (cond (Nat.ble i 1170) q1170_ q1171_)) (cond (Nat.ble i 1173) (cond (Nat.ble i 1172) q1172_ q1173_) (cond (Nat.ble i 1174) q1174_ q1175_))) (cond (Nat.ble i 1179) (cond (Nat.ble i 1177) (cond (Nat.ble i 1176) q1176_ q1177_) (cond (Nat.ble i 1178) q1178_ q1179_)) (cond (Nat.ble i 1181) (cond (Nat.ble i 1180) q1180_ q1181_) (cond (Nat.ble i 1182) q1182_ q1183_)))))
noncomputable def MWz37 (i : Nat) : Cond := (cond (Nat.ble i 1199) (cond (Nat.ble i 1191) (cond (Nat.ble i 1187) (cond (Nat.ble i 1185) (cond (Nat.ble i 1184) q1184_ q1185_) (cond (Nat.ble i 1186) q1186_ q1187_)) (cond (Nat.ble i 1189) (cond (Nat.ble i 1188) q1188_ q1189_) (cond (Nat.ble i 1190) q1190_ q1191_))) (cond (Nat.ble i 1195) (cond (Nat.ble i 1193) (cond (Nat.ble i 1192) q1192_ q1193_) (cond (Nat.ble i 1194) q1194_ q1195_)) (cond (Nat.ble i 1197) (cond (Nat.ble i 1196) q1196_ q1197_) (cond (Nat.ble i 1198) q1198_ q1199_)))) (cond (Nat.ble i 1207) (cond (Nat.ble i 1203) (cond (Nat.ble i 1201) (cond (Nat.ble i 1200) q1200_ q1201_) (cond (Nat.ble i 1202) q1202_ q1203_)) (cond (Nat.ble i 1205) (cond (Nat.ble i 1204) q1204_ q1205_) (cond (Nat.ble i 1206) q1206_ q1207_))) (cond (Nat.ble i 1211) (cond (Nat.ble i 1209) (cond (Nat.ble i 1208) q1208_ q1209_) (cond (Nat.ble i 1210) q1210_ q1211_)) (cond (Nat.ble i 1213) (cond (Nat.ble i 1212) q1212_ q1213_) (cond (Nat.ble i 1214) q1214_ q1215_)))))
noncomputable def MWz38 (i : Nat) : Cond := (cond (Nat.ble i 1231) (cond (Nat.ble i 1223) (cond (Nat.ble i 1219) (cond (Nat.ble i 1217) (cond (Nat.ble i 1216) q1216_ q1217_) (cond (Nat.ble i 1218) q1218_ q1219_)) (cond (Nat.ble i 1221) (cond (Nat.ble i 1220) q1220_ q1221_) (cond (Nat.ble i 1222) q1222_ q1223_))) (cond (Nat.ble i 1227) (cond (Nat.ble i 1225) (cond (Nat.ble i 1224) q1224_ q1225_) (cond (Nat.ble i 1226) q1226_ q1227_)) (cond (Nat.ble i 1229) (cond (Nat.ble i 1228) q1228_ q1229_) (cond (Nat.ble i 1230) q1230_ q1231_)))) (cond (Nat.ble i 1239) (cond (Nat.ble i 1235) (cond (Nat.ble i 1233) (cond (Nat.ble i 1232) q1232_ q1233_) (cond (Nat.ble i 1234) q1234_ q1235_)) (cond (Nat.ble i 1237) (cond (Nat.ble i 1236) q1236_ q1237_) (cond (Nat.ble i 1238) q1238_ q1239_))) (cond (Nat.ble i 1243) (cond (Nat.ble i 1241) (cond (Nat.ble i 1240) q1240_ q1241_) (cond (Nat.ble i 1242) q1242_ q1243_)) (cond (Nat.ble i 1245) (cond (Nat.ble i 1244) q1244_ q1245_) (cond (Nat.ble i 1246) q1246_ q1247_)))))
noncomputable def MWz39 (i : Nat) : Cond := (cond (Nat.ble i 1263) (cond (Nat.ble i 1255) (cond (Nat.ble i 1251) (cond (Nat.ble i 1249) (cond (Nat.ble i 1248) q1248_ q1249_) (cond (Nat.ble i 1250) q1250_ q1251_)) (cond (Nat.ble i 1253) (cond (Nat.ble i 1252) q1252_ q1253_) (cond (Nat.ble i 1254) q1254_ q1255_))) (cond (Nat.ble i 1259) (cond (Nat.ble i 1257) (cond (Nat.ble i 1256) q1256_ q1257_) (cond (Nat.ble i 1258) q1258_ q1259_)) (cond (Nat.ble i 1261) (cond (Nat.ble i 1260) q1260_ q1261_) (cond (Nat.ble i 1262) q1262_ q1263_)))) (cond (Nat.ble i 1271) (cond (Nat.ble i 1267) (cond (Nat.ble i 1265) (cond (Nat.ble i 1264) q1264_ q1265_) (cond (Nat.ble i 1266) q1266_ q1267_)) (cond (Nat.ble i 1269) (cond (Nat.ble i 1268) q1268_ q1269_) (cond (Nat.ble i 1270) q1270_ q1271_))) (cond (Nat.ble i 1275) (cond (Nat.ble i 1273) (cond (Nat.ble i 1272) q1272_ q1273_) (cond (Nat.ble i 1274) q1274_ q1275_)) (cond (Nat.ble i 1277) (cond (Nat.ble i 1276) q1276_ q1277_) (cond (Nat.ble i 1278) q1278_ q1279_)))))
noncomputable def MWz40 (i : Nat) : Cond := (cond (Nat.ble i 1295) (cond (Nat.ble i 1287) (cond (Nat.ble i 1283) (cond (Nat.ble i 1281) (cond (Nat.ble i 1280) q1280_ q1281_) (cond (Nat.ble i 1282) q1282_ q1283_)) (cond (Nat.ble i 1285) (cond (Nat.ble i 1284) q1284_ q1285_) (cond (Nat.ble i 1286) q1286_ q1287_))) (cond (Nat.ble i 1291) (cond (Nat.ble i 1289) (cond (Nat.ble i 1288) q1288_ q1289_) (cond (Nat.ble i 1290) q1290_ q1291_)) (cond (Nat.ble i 1293) (cond (Nat.ble i 1292) q1292_ q1293_) (cond (Nat.ble i 1294) q1294_ q1295_)))) (cond (Nat.ble i 1303) (cond (Nat.ble i 1299) (cond (Nat.ble i 1297) (cond (Nat.ble i 1296) q1296_ q1297_) (cond (Nat.ble i 1298) q1298_ q1299_)) (cond (Nat.ble i 1301) (cond (Nat.ble i 1300) q1300_ q1301_) (cond (Nat.ble i 1302) q1302_ q1303_))) (cond (Nat.ble i 1307) (cond (Nat.ble i 1305) (cond (Nat.ble i 1304) q1304_ q1305_) (cond (Nat.ble i 1306) q1306_ q1307_)) (cond (Nat.ble i 1309) (cond (Nat.ble i 1308) q1308_ q1309_) (cond (Nat.ble i 1310) q1310_ q1311_)))))
noncomputable def MWz41 (i : Nat) : Cond := (cond (Nat.ble i 1327) (cond (Nat.ble i 1319) (cond (Nat.ble i 1315) (cond (Nat.ble i 1313) (cond (Nat.ble i 1312) q1312_ q1313_) (cond (Nat.ble i 1314) q1314_ q1315_)) (cond (Nat.ble i 1317) (cond (Nat.ble i 1316) q1316_ q1317_) (cond (Nat.ble i 1318) q1318_ q1319_))) (cond (Nat.ble i 1323) (cond (Nat.ble i 1321) (cond (Nat.ble i 1320) q1320_ q1321_) (cond (Nat.ble i 1322) q1322_ q1323_)) (cond (Nat.ble i 1325) (cond (Nat.ble i 1324) q1324_ q1325_) (cond (Nat.ble i 1326) q1326_ q1327_)))) (cond (Nat.ble i 1335) (cond (Nat.ble i 1331) (cond (Nat.ble i 1329) (cond (Nat.ble i 1328) q1328_ q1329_) (cond (Nat.ble i 1330) q1330_ q1331_)) (cond (Nat.ble i 1333) (cond (Nat.ble i 1332) q1332_ q1333_) (cond (Nat.ble i 1334) q1334_ q1335_))) (cond (Nat.ble i 1339) (cond (Nat.ble i 1337) (cond (Nat.ble i 1336) q1336_ q1337_) (cond (Nat.ble i 1338) q1338_ q1339_)) (cond (Nat.ble i 1341) (cond (Nat.ble i 1340) q1340_ q1341_) (cond (Nat.ble i 1342) q1342_ q1343_)))))
noncomputable def MWz42 (i : Nat) : Cond := (cond (Nat.ble i 1359) (cond (Nat.ble i 1351) (cond (Nat.ble i 1347) (cond (Nat.ble i 1345) (cond (Nat.ble i 1344) q1344_ q1345_) (cond (Nat.ble i 1346) q1346_ q1347_)) (cond (Nat.ble i 1349) (cond (Nat.ble i 1348) q1348_ q1349_) (cond (Nat.ble i 1350) q1350_ q1351_))) (cond (Nat.ble i 1355) (cond (Nat.ble i 1353) (cond (Nat.ble i 1352) q1352_ q1353_) (cond (Nat.ble i 1354) q1354_ q1355_)) (cond (Nat.ble i 1357) (cond (Nat.ble i 1356) q1356_ q1357_) (cond (Nat.ble i 1358) q1358_ q1359_)))) (cond (Nat.ble i 1367) (cond (Nat.ble i 1363) (cond (Nat.ble i 1361) (cond (Nat.ble i 1360) q1360_ q1361_) (cond (Nat.ble i 1362) q1362_ q1363_)) (cond (Nat.ble i 1365) (cond (Nat.ble i 1364) q1364_ q1365_) (cond (Nat.ble i 1366) q1366_ q1367_))) (cond (Nat.ble i 1371) (cond (Nat.ble i 1369) (cond (Nat.ble i 1368) q1368_ q1369_) (cond (Nat.ble i 1370) q1370_ q1371_)) (cond (Nat.ble i 1373) (cond (Nat.ble i 1372) q1372_ q1373_) (cond (Nat.ble i 1374) q1374_ q1375_)))))
noncomputable def MWz43 (i : Nat) : Cond := (cond (Nat.ble i 1376) q1376_ (cond (Nat.ble i 1377) q1377_ q1378_))
noncomputable def MW (i : Nat) : Cond := (cond (Nat.ble i 703) (cond (Nat.ble i 351) (cond (Nat.ble i 159) (cond (Nat.ble i 63) (cond (Nat.ble i 31) (MWz0 i) (MWz1 i)) (cond (Nat.ble i 95) (MWz2 i) (cond (Nat.ble i 127) (MWz3 i) (MWz4 i)))) (cond (Nat.ble i 255) (cond (Nat.ble i 191) (MWz5 i) (cond (Nat.ble i 223) (MWz6 i) (MWz7 i))) (cond (Nat.ble i 287) (MWz8 i) (cond (Nat.ble i 319) (MWz9 i) (MWz10 i))))) (cond (Nat.ble i 511) (cond (Nat.ble i 415) (cond (Nat.ble i 383) (MWz11 i) (MWz12 i)) (cond (Nat.ble i 447) (MWz13 i) (cond (Nat.ble i 479) (MWz14 i) (MWz15 i)))) (cond (Nat.ble i 607) (cond (Nat.ble i 543) (MWz16 i) (cond (Nat.ble i 575) (MWz17 i) (MWz18 i))) (cond (Nat.ble i 639) (MWz19 i) (cond (Nat.ble i 671) (MWz20 i) (MWz21 i)))))) (cond (Nat.ble i 1055) (cond (Nat.ble i 863) (cond (Nat.ble i 767) (cond (Nat.ble i 735) (MWz22 i) (MWz23 i)) (cond (Nat.ble i 799) (MWz24 i) (cond (Nat.ble i 831) (MWz25 i) (MWz26 i)))) (cond (Nat.ble i 959) (cond (Nat.ble i 895) (MWz27 i) (cond (Nat.ble i 927) (MWz28 i) (MWz29 i))) (cond (Nat.ble i 991) (MWz30 i) (cond (Nat.ble i 1023) (MWz31 i) (MWz32 i))))) (cond (Nat.ble i 1215) (cond (Nat.ble i 1119) (cond (Nat.ble i 1087) (MWz33 i) (MWz34 i)) (cond (Nat.ble i 1151) (MWz35 i) (cond (Nat.ble i 1183) (MWz36 i) (MWz37 i)))) (cond (Nat.ble i 1311) (cond (Nat.ble i 1247) (MWz38 i) (cond (Nat.ble i 1279) (MWz39 i) (MWz40 i))) (cond (Nat.ble i 1343) (MWz41 i) (cond (Nat.ble i 1375) (MWz42 i) (MWz43 i)))))))
noncomputable def nMW : Nat := 1379
noncomputable def wl (n : List Nat) : List Cond := n.map MW
noncomputable def mask : List Nat → Nat
  | [] => 0
  | i :: r => 2 ^ i ||| mask r
theorem mask_bit : ∀ (n : List Nat) (i : Nat), (mask n).testBit i = true ↔ i ∈ n
  | [], i => by simp [mask]
  | k :: r, i => by
    show (2 ^ k ||| mask r).testBit i = true ↔ _
    rw [Nat.testBit_or, Bool.or_eq_true, mask_bit r i, Nat.testBit_two_pow, decide_eq_true_eq, List.mem_cons]
    exact ⟨fun h => h.elim (fun e => Or.inl e.symm) Or.inr, fun h => h.elim (fun e => Or.inl e.symm) Or.inr⟩
/-- the words of a list are those of a mask -/
noncomputable def CH (ws : List Cond) (M : Nat) : Prop := (∀ w, w ∈ ws → ∃ i, M.testBit i = true ∧ MW i = w) ∧ (∀ i, M.testBit i = true → MW i ∈ ws)
theorem ch_of {ws : List Cond} {n : List Nat} (h : ws = wl n) : CH ws (mask n) := by
  subst h
  refine ⟨fun w hw => ?_, fun i hi => List.mem_map.mpr ⟨i, (mask_bit n i).mp hi, rfl⟩⟩
  obtain ⟨i, hi, e⟩ := List.mem_map.mp hw
  exact ⟨i, (mask_bit n i).mpr hi, e⟩
theorem ch_app {a b : List Cond} {A B : Nat} (ha : CH a A) (hb : CH b B) : CH (a ++ b) (A ||| B) := by
  refine ⟨fun w hw => ?_, fun i hi => ?_⟩
  · rcases List.mem_append.mp hw with h | h
    · obtain ⟨i, h1, e⟩ := ha.1 w h
      exact ⟨i, by rw [Nat.testBit_or, h1]; rfl, e⟩
    · obtain ⟨i, h1, e⟩ := hb.1 w h
      exact ⟨i, by rw [Nat.testBit_or, h1, Bool.or_true], e⟩
  · rw [Nat.testBit_or, Bool.or_eq_true] at hi
    exact List.mem_append.mpr (hi.elim (fun h => Or.inl (ha.2 i h)) (fun h => Or.inr (hb.2 i h)))
theorem ch_cons {w : Cond} {l : List Cond} {B : Nat} (i : Nat) (h : MW i = w) (hl : CH l B) : CH (w :: l) (mask [i] ||| B) := ch_app (a := [w]) (ch_of (n := [i]) (by rw [← h]; rfl)) hl
theorem ch_to {ws : List Cond} {A B : Nat} (h : CH ws A) (e : A = B) : CH ws B := e ▸ h
theorem ch_v {own C : String} {idx : Nat} {y : MethodName} {ws : List Cond} {B : Nat} (n : List Nat) (h : ([.methodLink own idx y, .instanceMethod y, .selects C y y, .initialized C] : List Cond) = wl n) (hw : CH ws B) : CH (wsV own idx C y ws) (mask n ||| B) := ch_app (ch_of h) hw
theorem ch_s {own : String} {idx : Nat} {y : MethodName} {ws : List Cond} {B : Nat} (n : List Nat) (h : ([.methodLink own idx y, .static y, .initialized y.cls] : List Cond) = wl n) (hw : CH ws B) : CH (va_wsS own idx y ws) (mask n ||| B) := ch_app (ch_of h) hw
theorem MW_good : (List.range nMW).all (fun i => goodWord (MW i) || k2_isCode (MW i)) = true := by decide +kernel
theorem good_MW {i : Nat} (hi : i < nMW) : ((MW i).onTables && (MW i).keeps) = true ∨ ∃ ty, MW i = .arrayClass ty := by
  have h := List.all_eq_true.mp MW_good i (List.mem_range.mpr hi)
  generalize MW i = w at h ⊢
  rw [Bool.or_eq_true] at h
  rcases h with h | h
  · exact good_of_word h
  · cases w <;> first | (simp [k2_isCode] at h; done) | exact Or.inl rfl
theorem lt_MW {M i : Nat} (hM : M < 2 ^ nMW) (hi : M.testBit i = true) : i < nMW := by
  apply Nat.lt_of_not_le
  intro h
  have h1 : M < 2 ^ i := Nat.lt_of_lt_of_le hM (Nat.pow_le_pow_right (by decide) h)
  rw [Nat.testBit_lt_two_pow h1] at hi
  cases hi
noncomputable def chk (A B : Nat) : Bool := Nat.beq (B &&& A) B && Nat.ble (B + 1) (2 ^ nMW)
theorem gi_ch {big ws : List Cond} {A B : Nat} (ha : CH big A) (hb : CH ws B) (h : chk A B = true) : GoodIn big ws := by
  unfold chk at h
  rw [Bool.and_eq_true] at h
  have e : B &&& A = B := Nat.eq_of_beq_eq_true h.1
  have hM : B < 2 ^ nMW := Nat.le_of_ble_eq_true h.2
  intro w hw
  obtain ⟨i, hi, ew⟩ := hb.1 w hw
  subst ew
  refine ⟨ha.2 i ?_, good_MW (lt_MW hM hi)⟩
  rw [← e, Nat.testBit_and, Bool.and_eq_true] at hi
  exact hi.2
set_option maxRecDepth 100000 in
set_option maxHeartbeats 4000000 in
theorem ch_X00 : CH wsX00 711426596274070704682420131893378505850490785785695625458427396144618268507766784 := ch_to (ch_of (n := [267, 268]) rfl) (by decide +kernel)
set_option maxRecDepth 100000 in
set_option maxHeartbeats 4000000 in
theorem ch_X10 : CH wsX10 2029078804551929499993959572439029027609861095253178687157093025724090747811136172174868480 := ch_to (ch_of (n := [292, 293, 294, 295, 296, 297, 298, 299]) rfl) (by decide +kernel)
set_option maxRecDepth 100000 in
set_option maxHeartbeats 4000000 in
theorem ch_X20 : CH wsX20 27197364491160206992872466695529264692993695746729953297525373736344659992872918974464 := ch_to (ch_of (n := [281, 282, 283]) rfl) (by decide +kernel)
set_option maxRecDepth 100000 in
set_option maxHeartbeats 4000000 in
theorem ch_X30 : CH wsX30 44464162267129419042651258243336156615655674111605976591151712259038641781735424 := ch_to (ch_of (n := [263, 264]) rfl) (by decide +kernel)
set_option maxRecDepth 100000 in
set_option maxHeartbeats 4000000 in
theorem ch_X40 : CH wsX40 33902386234136684827773784520323131162974126178844792764599444399354271487590326809964454243857334272 := ch_to (ch_of (n := [329, 330, 331, 332, 333]) rfl) (by decide +kernel)
set_option maxRecDepth 100000 in
set_option maxHeartbeats 4000000 in
theorem ch_X50 : CH wsX50 1051306119242322931178799746005326431406018632097415035208309541349998771282659020714426652164096 := ch_to (ch_of (n := [313, 314, 315, 316, 317, 318]) rfl) (by decide +kernel)
set_option maxRecDepth 100000 in
set_option maxHeartbeats 4000000 in
theorem ch_X60 : CH wsX60 3423266188008119638567638907689404624415750050196511731360612015004450816 := ch_to (ch_of (n := [236, 237, 238, 239, 240]) rfl) (by decide +kernel)
set_option maxRecDepth 100000 in
set_option maxHeartbeats 4000000 in
theorem ch_X70 : CH wsX70 3235193600058076775360041810442355680836457330704868697732433229905920 := ch_to (ch_of (n := [227, 228, 229, 230]) rfl) (by decide +kernel)
set_option maxRecDepth 100000 in
set_option maxHeartbeats 4000000 in
theorem ch_X80 : CH wsX80 207333574222471961311526117002226163627824719069831062781924737024 := ch_to (ch_of (n := [211, 212, 213, 214, 215, 216]) rfl) (by decide +kernel)
set_option maxRecDepth 100000 in
set_option maxHeartbeats 4000000 in
theorem ch_X90 : CH wsX90 25083887012892868833609424140396260717471521951901200416768 := ch_to (ch_of (n := [184, 185, 186, 187, 188, 189, 190, 191, 192, 193]) rfl) (by decide +kernel)
set_option maxRecDepth 100000 in
set_option maxHeartbeats 4000000 in
theorem ch_X100 : CH wsX100 1897137590064188545819787018382342682267975428761855001222473056385648716020711424 := ch_to (ch_of (n := [270]) rfl) (by decide +kernel)
set_option maxRecDepth 100000 in
set_option maxHeartbeats 4000000 in
theorem ch_X110 : CH wsX110 601222314192869326196683811136279674834293139390551550338819013534566736583587584557090803549394567724802244608 := ch_to (ch_of (n := [351, 352, 353, 354, 355, 356, 357, 358, 359, 360, 361, 362, 363, 364, 365, 366, 367]) rfl) (by decide +kernel)
set_option maxRecDepth 100000 in
set_option maxHeartbeats 4000000 in
theorem ch_X120 : CH wsX120 9516908214257811593652997939164594110584756151299552561099950430307621422577201912147297485326574714486942209012591466668621923801844760922324635101825864085471341840380312304039651085455051075833100889312886056665329952533218613749392491143988259561927137131671576096923057905886822400 := ch_to (ch_of (n := [890, 891, 892, 893, 894, 895, 896, 897, 898, 899, 900, 901, 902, 903, 904, 905, 906, 907, 908, 909, 910, 911, 912, 913, 914, 915, 916, 917, 918, 919, 920, 921, 922, 923, 924, 925, 926, 927, 928, 929, 930, 931, 932, 933, 934, 935, 936, 937, 938, 939, 940, 941, 942, 943, 944, 945, 946, 947, 948, 949]) rfl) (by decide +kernel)
set_option maxRecDepth 100000 in
set_option maxHeartbeats 4000000 in
theorem ch_X3_init : CH wsX3_init 58359212975607362493504884851600860595470948789470782429432558101540012524830720 := ch_to (ch_cons 259 rfl (ch_app (ch_of (n := [260, 166, 167, 194, 261, 262]) rfl) ch_X30)) (by decide +kernel)
set_option maxRecDepth 100000 in
set_option maxHeartbeats 4000000 in
theorem ch_X0_init : CH wsX0_init 948539847009784943861062724852141329903438044226588552856916477356354720445235200 := ch_to (ch_cons 254 rfl (ch_app (ch_app (ch_of (n := [255, 166, 167, 256, 257, 152, 265, 194, 266, 258, 259, 260, 261, 262]) rfl) ch_X30) ch_X00)) (by decide +kernel)
set_option maxRecDepth 100000 in
set_option maxHeartbeats 4000000 in
theorem ch_X9_fact : CH wsX9_fact 9850501549098619803069760025035903451269934817616361667012157262019566137737425488843135123662281426196356982112256 := ch_to (ch_cons 382 rfl (ch_app (ch_of (n := [174]) rfl) ch_X90)) (by decide +kernel)
set_option maxRecDepth 100000 in
set_option maxHeartbeats 4000000 in
theorem ch_X0_face : CH wsX0_face 82632010874533398516919118108736417532406592273133031917612396071815203729743814243465946947692134032243496818349671710724 := ch_to (ch_cons 405 rfl (ch_app (ch_app (ch_of (n := [266, 381, 145, 2, 382, 174]) rfl) ch_X90) ch_X00)) (by decide +kernel)
set_option maxRecDepth 100000 in
set_option maxHeartbeats 4000000 in
theorem ch_X0_facing : CH wsX0_facing 139234637988958594318883410818490335842688858253435056475195084164406590796163250320615014993816265862385325218840298415249502490046451828842692697553038358099526739493835488731166597447680 := ch_to (ch_cons 625 rfl (ch_app (ch_of (n := [266]) rfl) ch_X00)) (by decide +kernel)
set_option maxRecDepth 100000 in
set_option maxHeartbeats 4000000 in
theorem ch_X7_head : CH wsX7_head 42307582002575910332922579714097346549017899709713998037466196470953622734381301450797974964315054133161976553574479966502912 := ch_to (ch_cons 414 rfl (ch_app (ch_of (n := [223]) rfl) ch_X70)) (by decide +kernel)
set_option maxRecDepth 100000 in
set_option maxHeartbeats 4000000 in
theorem ch_X3_combine : CH wsX3_combine 75815186948616031316597262847662445015840076279859359333296118687980811186593967812717565120040273561290217922361423999277203456 := ch_to (ch_cons 422 rfl (ch_app (ch_of (n := [262, 423, 424]) rfl) ch_X30)) (by decide +kernel)
set_option maxRecDepth 100000 in
set_option maxHeartbeats 4000000 in
theorem ch_X3_run : CH wsX3_run 86476697613265160720493752935614976346192587006710992184774528576419982059173475399634216782708006473055179599922611944679342080 := ch_to (ch_cons 416 rfl (ch_app (ch_of (n := [262, 261, 417, 418, 157, 419, 420, 421, 16, 152, 422, 423, 424]) rfl) ch_X30)) (by decide +kernel)
set_option maxRecDepth 100000 in
set_option maxHeartbeats 4000000 in
theorem ch_X0_told_r1 : CH wsX0_told_r1 1310498506320790110517443367934022358029103952458434918798540194024335422955037250114799084315578508060022867144273992815818686464 := ch_to (ch_of (n := [265, 266, 425, 426, 157, 427, 428, 418, 419, 413, 148, 14, 414, 223, 415, 152, 15, 416, 262, 261, 417, 420, 421, 16]) rfl) (by decide +kernel)
set_option maxRecDepth 100000 in
set_option maxHeartbeats 4000000 in
theorem ch_X0_told_r2 : CH wsX0_told_r2 75815186948616031316597262847662445015840076279807484477317801032431051385310075629999300166910066588600540924725878917198512128 := ch_to (ch_of (n := [422, 423, 424]) rfl) (by decide +kernel)
set_option maxRecDepth 100000 in
set_option maxHeartbeats 4000000 in
theorem ch_X0_told : CH wsX0_told 1386324270164906785811623861426613327381581283213925722533910984754815994299919181430608176325433748152561253505493661450269474816 := ch_to (ch_cons 412 rfl (ch_app (ch_app (ch_app (ch_app ch_X0_told_r1 ch_X0_told_r2) ch_X70) ch_X00) ch_X30)) (by decide +kernel)
set_option maxRecDepth 100000 in
set_option maxHeartbeats 4000000 in
theorem ch_X10_init : CH wsX10_init 3794274275502679925106822398523587147762579786605702026631301306967444983702880256 := ch_to (ch_cons 249 rfl (ch_app (ch_app (ch_app (ch_of (n := [250, 166, 167, 251, 252, 151, 269, 253, 254, 255, 256, 257, 152, 265, 194, 266, 258, 259, 260, 261, 262]) rfl) ch_X00) ch_X100) ch_X30)) (by decide +kernel)
set_option maxRecDepth 100000 in
set_option maxHeartbeats 4000000 in
theorem ch_X9_init : CH wsX9_init 50216811170546407224530499199622281807397559074301476339712 := ch_to (ch_cons 171 rfl (ch_app (ch_of (n := [172, 166, 167, 194, 174, 175, 176, 173, 177, 178, 179, 180, 181, 182, 183]) rfl) ch_X90)) (by decide +kernel)
set_option maxRecDepth 100000 in
set_option maxHeartbeats 4000000 in
theorem ch_X2_init : CH wsX2_init 30961285469847557067778924165108239796768396420269991607888913826149548597253196742656 := ch_to (ch_cons 276 rfl (ch_app (ch_of (n := [277, 166, 167, 194, 278, 279, 280]) rfl) ch_X20)) (by decide +kernel)
set_option maxRecDepth 100000 in
set_option maxHeartbeats 4000000 in
theorem ch_X1_init_r1 : CH wsX1_init_r1 7926145994640656487224921922412585646009492646607471814729537401337667517252775735984128 := ch_to (ch_of (n := [245, 166, 167, 246, 247, 150, 284, 271, 257, 152, 285, 194, 286, 272, 169, 145, 287, 273, 274, 153, 288, 289, 290, 291]) rfl) (by decide +kernel)
set_option maxRecDepth 100000 in
set_option maxHeartbeats 4000000 in
theorem ch_X1_init_r2 : CH wsX1_init_r2 1141014795031665206437480113129543200172072268471892498978409076224972037283643392 := ch_to (ch_of (n := [248, 249, 250, 251, 252, 151, 269, 253, 254, 255, 256, 265, 266, 258, 259, 260, 261, 262, 170, 171, 172, 174, 175, 176]) rfl) (by decide +kernel)
set_option maxRecDepth 100000 in
set_option maxHeartbeats 4000000 in
theorem ch_X1_init_r3 : CH wsX1_init_r3 3824629381569404108372690629083143186784897464767044366106666451753912316461810974720 := ch_to (ch_of (n := [173, 177, 178, 179, 180, 181, 182, 183, 275, 276, 277, 278, 279, 280]) rfl) (by decide +kernel)
set_option maxRecDepth 100000 in
set_option maxHeartbeats 4000000 in
theorem ch_X1_init : CH wsX1_init 2037035976334486057998892651955279104532123816154721675764418043686698556382627068116992000 := ch_to (ch_cons 244 rfl (ch_app (ch_app (ch_app (ch_app (ch_app (ch_app (ch_app ch_X1_init_r1 (ch_app ch_X1_init_r2 ch_X1_init_r3)) ch_X100) ch_X10) ch_X30) ch_X90) ch_X20) ch_X00)) (by decide +kernel)
set_option maxRecDepth 100000 in
set_option maxHeartbeats 4000000 in
theorem ch_X9_become : CH wsX9_become 47499030695405122314650570091445056448778115809421792568496078475590621777880987177974357585058410405736640304643193284795377189818789485753705279793428992040926483499808980992 := ch_to (ch_cons 582 rfl (ch_app (ch_of (n := [174, 583, 571, 570, 163, 175, 176, 177, 178, 179, 180, 181, 182, 183]) rfl) ch_X90)) (by decide +kernel)
set_option maxRecDepth 100000 in
set_option maxHeartbeats 4000000 in
theorem ch_X2_become : CH wsX2_become 379911090275257616091965958341850879855994649001450505412996825864444492321059816654879600641966097924311143568190409564245651579241073801191538928308052422280160742192340533248 := ch_to (ch_cons 585 rfl (ch_app (ch_of (n := [278, 586, 571, 570, 163, 279, 280]) rfl) ch_X20)) (by decide +kernel)
set_option maxRecDepth 100000 in
set_option maxHeartbeats 4000000 in
theorem ch_X9_has : CH wsX9_has 645562469521727147413979793000752968582426448207305878207664864219432042282295604481425065473082752626402429674933190656 := ch_to (ch_cons 398 rfl (ch_app (ch_of (n := [178]) rfl) ch_X90)) (by decide +kernel)
set_option maxRecDepth 100000 in
set_option maxHeartbeats 4000000 in
theorem ch_X9_loud : CH wsX9_loud 20657999024695268717247353376024094994637646342633788102645274877409163769998902508700234363326560263282723498878316838912 := ch_to (ch_cons 403 rfl (ch_app (ch_of (n := [176]) rfl) ch_X90)) (by decide +kernel)
set_option maxRecDepth 100000 in
set_option maxHeartbeats 4000000 in
theorem ch_X9_sings : CH wsX9_sings 38733765409681339767423442952125221927776626614824283521092807600572085426862936532141203240447593890502177895109091131908 := ch_to (ch_cons 400 rfl (ch_app (ch_of (n := [380, 381, 2, 145, 382, 174, 401, 402, 9, 403, 176]) rfl) ch_X90)) (by decide +kernel)
set_option maxRecDepth 100000 in
set_option maxHeartbeats 4000000 in
theorem ch_X1_look : CH wsX1_look 16209045190941378744189093217543598246142368094697019140649029678157119929365044819101485549454514095112489356100924832227934454597286332008200228428007752395881906739408709616516 := ch_to (ch_cons 592 rfl (ch_app (ch_app (ch_of (n := [286, 289, 290, 397, 145, 7, 398, 178, 381, 2, 382, 174, 399, 8, 400, 380, 401, 402, 9, 403, 176]) rfl) ch_X10) ch_X90)) (by decide +kernel)
set_option maxRecDepth 100000 in
set_option maxHeartbeats 4000000 in
theorem ch_X2_changing : CH wsX2_changing 518689446110124119814050982961395143876555779030304612499457166211331601426613518299963381118387974286024735826412598647799393884426471913485859354264245460882647725425188690460672 := ch_to (ch_cons 597 rfl (ch_of (n := []) rfl)) (by decide +kernel)
set_option maxRecDepth 100000 in
set_option maxHeartbeats 4000000 in
theorem ch_X2_draft : CH wsX2_draft 972795989381203752745998581720195686287100093080082778479859183187391633787966862313095017200274118776293791081250773148964621654087572734943773376840549036870759556874868055080960 := ch_to (ch_cons 594 rfl (ch_app (ch_app (ch_of (n := [279, 278, 586, 571, 570, 163, 595, 596, 153, 597]) rfl) ch_X20) ch_X90)) (by decide +kernel)
set_option maxRecDepth 100000 in
set_option maxHeartbeats 4000000 in
theorem ch_X11_within : CH wsX11_within 38478521676166483605741250097796497856523182881313912761668255277583712667477744737709244389536050430475222646784 := ch_to (ch_cons 374 rfl (ch_of (n := []) rfl)) (by decide +kernel)
set_option maxRecDepth 100000 in
set_option maxHeartbeats 4000000 in
theorem ch_X9_lawAt : CH wsX9_lawAt 2644223875218712178321910957539696034460313478641909651460566050265210392684226884616864555503336377171098480058020338335744 := ch_to (ch_cons 410 rfl (ch_app (ch_of (n := [179, 177, 373, 144, 374]) rfl) ch_X90)) (by decide +kernel)
set_option maxRecDepth 100000 in
set_option maxHeartbeats 4000000 in
theorem ch_X9_lawInForce : CH wsX9_lawInForce 4957919765984582274653614535654394673859729869016893918956836833725632194506857505495375547450613307518287886181447287967744 := ch_to (ch_cons 407 rfl (ch_app (ch_of (n := [180, 408, 409, 12, 145, 410, 179, 177, 373, 144, 374]) rfl) ch_X90)) (by decide +kernel)
set_option maxRecDepth 100000 in
set_option maxHeartbeats 4000000 in
theorem ch_X9_put : CH wsX9_put 1260921916067137584518337895079742336509336441429216264243512975229737607974075824216883275724378375370100870014304256 := ch_to (ch_cons 389 rfl (ch_app (ch_of (n := [174, 373, 144, 374]) rfl) ch_X90)) (by decide +kernel)
set_option maxRecDepth 100000 in
set_option maxHeartbeats 4000000 in
theorem ch_X10_kindle_r1 : CH wsX10_kindle_r1 4149515568880992958512407863691161151012446232242437419872506741641450123940406059811509078335729691210766133534934072486104038399819463786312070761971813494572696582920242534026372 := ch_to (ch_of (n := [269, 600, 426, 157, 427, 397, 145, 7, 398, 178, 381, 2, 382, 174, 404, 151, 10, 405, 266, 406, 11, 407, 180, 408]) rfl) (by decide +kernel)
set_option maxRecDepth 100000 in
set_option maxHeartbeats 4000000 in
theorem ch_X10_kindle_r2 : CH wsX10_kindle_r2 782012023623675603814325573854484696681842348119793681436501965283844260904969249653234083964965827738129558639658634696131145728 := ch_to (ch_of (n := [409, 12, 410, 179, 177, 373, 144, 374, 411, 13, 412, 265, 425, 428, 418, 419, 413, 148, 14, 414, 223, 415, 152, 15]) rfl) (by decide +kernel)
set_option maxRecDepth 100000 in
set_option maxHeartbeats 4000000 in
theorem ch_X10_kindle_r3 : CH wsX10_kindle_r3 84445933679032813321940404111527697636646621283244083601847299498355874293655985245278750526286775621952955667748061687199105056 := ch_to (ch_of (n := [416, 262, 261, 417, 420, 421, 16, 422, 423, 424, 388, 5, 389]) rfl) (by decide +kernel)
set_option maxRecDepth 100000 in
set_option maxHeartbeats 4000000 in
theorem ch_X10_kindle : CH wsX10_kindle 6224273353321489437768611795536741726518669348363656736328292709195193665912838099023756921298250994045658463798473112422378381744190529366487853195765612284092099900307341366656164 := ch_to (ch_cons 599 rfl (ch_app (ch_app (ch_app (ch_app (ch_app (ch_app ch_X10_kindle_r1 (ch_app ch_X10_kindle_r2 ch_X10_kindle_r3)) ch_X100) ch_X90) ch_X00) ch_X70) ch_X30)) (by decide +kernel)
set_option maxRecDepth 100000 in
set_option maxHeartbeats 4000000 in
theorem ch_X10_quench : CH wsX10_quench 49794186826571915502148894364293933812149354786909242801978652862661311483058999885662253899567151603731836027919955834200141386433133384316192757925485063527592864419047724680216740 := ch_to (ch_cons 602 rfl (ch_app (ch_of (n := [603, 418, 157, 419, 373, 144, 374, 397, 145, 7, 398, 178, 381, 2, 382, 174, 388, 5, 389]) rfl) ch_X90)) (by decide +kernel)
set_option maxRecDepth 100000 in
set_option maxHeartbeats 4000000 in
theorem ch_X10_supply : CH wsX10_supply 136934013773072767630909459501808317983410725664000418219732260497694162997702446660607623687435423730683327585579752673188960181893636531402037019497243839164929534212777385899589796 := ch_to (ch_cons 605 rfl (ch_app (ch_of (n := [600, 426, 157, 427, 373, 144, 374, 397, 145, 7, 398, 178, 381, 2, 382, 174, 388, 5, 389]) rfl) ch_X90)) (by decide +kernel)
set_option maxRecDepth 100000 in
set_option maxHeartbeats 4000000 in
theorem ch_X9_chordAt : CH wsX9_chordAt 44362715105933037753254626946289339254982993206013065202727673289833940949973944872018111390302481088299118540015967186762355179520 := ch_to (ch_cons 434 rfl (ch_app (ch_of (n := [175]) rfl) ch_X90)) (by decide +kernel)
set_option maxRecDepth 100000 in
set_option maxHeartbeats 4000000 in
theorem ch_X9_notesNow : CH wsX9_notesNow 101978494620819282948400935658073976447281878603590129254293274574502373842008424668170602973050750713368230772598223472454680511672112151723201437593800275417665987516429663930102579972 := ch_to (ch_cons 613 rfl (ch_app (ch_of (n := [178, 614, 399, 8, 145, 400, 380, 381, 2, 382, 174, 401, 402, 9, 403, 176]) rfl) ch_X90)) (by decide +kernel)
set_option maxRecDepth 100000 in
set_option maxHeartbeats 4000000 in
theorem ch_X9_meetsChord_r1 : CH wsX9_meetsChord_r1 131722222218558240475017875225012219577739093196303917020006218951966530799402821963750358606353985525207984685285749361419725464506658611547573971284315773171144679960138306743135503108 := ch_to (ch_of (n := [176, 610, 433, 17, 145, 434, 175, 611, 612, 47, 613, 178, 614, 399, 8, 400, 380, 381, 2, 382, 174, 401, 402, 9]) rfl) (by decide +kernel)
set_option maxRecDepth 100000 in
set_option maxHeartbeats 4000000 in
theorem ch_X9_meetsChord_r2 : CH wsX9_meetsChord_r2 20657999024695268717247353376024094994637646342633788102645274852325180976134729557037162826241102651487225375781979947008 := ch_to (ch_of (n := [403]) rfl) (by decide +kernel)
set_option maxRecDepth 100000 in
set_option maxHeartbeats 4000000 in
theorem ch_X9_meetsChord : CH wsX9_meetsChord 133846774189825308869776228051222094087057465667212044712803995525426144063541499651954361991438997662521188345864523468126386659266337429532810441845969089216283374002227207302442779396 := ch_to (ch_cons 609 rfl (ch_app (ch_app ch_X9_meetsChord_r1 ch_X9_meetsChord_r2) ch_X90)) (by decide +kernel)
set_option maxRecDepth 100000 in
set_option maxHeartbeats 4000000 in
theorem ch_X9_beside : CH wsX9_beside 65266236557324341086976598821167344926260402306297682722747695702065589452939901298710872933723454666805951846992355975594420586263226940894463517190147492216189776688982308276398486192132 := ch_to (ch_cons 620 rfl (ch_app (ch_of (n := [621, 622, 157, 623, 380, 381, 2, 145, 382, 174]) rfl) ch_X90)) (by decide +kernel)
set_option maxRecDepth 100000 in
set_option maxHeartbeats 4000000 in
theorem ch_X10_discords_r1 : CH wsX10_discords_r1 67441777775901819123209152115206256423802415716507605480172618892215783305289689705544643996919928694947109221610937216501718854829708229780037832421553278741631715249874575415568655975172 := ch_to (ch_of (n := [269, 399, 145, 8, 400, 380, 381, 2, 382, 174, 401, 402, 9, 403, 176, 619, 49, 620, 621, 622, 157, 623, 404, 151]) rfl) (by decide +kernel)
set_option maxRecDepth 100000 in
set_option maxHeartbeats 4000000 in
theorem ch_X10_discords_r2 : CH wsX10_discords_r2 208851956983437891478325116227735503764033287380152584712792712913608986474956129180472327131043319951913686271659775928275242136869538297876053916342832343684698296964417173199634131074048 := ch_to (ch_of (n := [10, 405, 266, 624, 50, 625, 406, 11, 407, 180, 408, 409, 12, 410, 179, 177, 373, 144, 374, 411, 13, 412, 265, 425]) rfl) (by decide +kernel)
set_option maxRecDepth 100000 in
set_option maxHeartbeats 4000000 in
theorem ch_X10_discords_r3 : CH wsX10_discords_r3 1299667765328130677472215187527213437312555370132570278652711990486388953438448180215648856928924924151254721787884478089243246592 := ch_to (ch_of (n := [426, 427, 428, 418, 419, 413, 148, 14, 414, 223, 415, 152, 15, 416, 262, 261, 417, 420, 421, 16, 422, 423, 424]) rfl) (by decide +kernel)
set_option maxRecDepth 100000 in
set_option maxHeartbeats 4000000 in
theorem ch_X10_discords : CH wsX10_discords 277381505368628449619650544989961215936606709801765151571679093068624524401518316494334303146039750779280816063365547299470740320077766901692897507935682282380719096853255527395829750038276 := ch_to (ch_cons 618 rfl (ch_app (ch_app (ch_app (ch_app (ch_app (ch_app ch_X10_discords_r1 (ch_app ch_X10_discords_r2 ch_X10_discords_r3)) ch_X90) ch_X100) ch_X00) ch_X70) ch_X30)) (by decide +kernel)
set_option maxRecDepth 100000 in
set_option maxHeartbeats 4000000 in
theorem ch_X10_burnDown_r1 : CH wsX10_burnDown_r1 37345640119928936626611670773220450359112016090181932621867371500892583108794517336441893790498306807138373598731879449069911508674631913994553254886000079547401774849859109922014244 := ch_to (ch_of (n := [269, 600, 426, 157, 427, 603, 418, 419, 381, 145, 2, 382, 174, 404, 151, 10, 405, 266, 388, 5, 389, 373, 144, 374]) rfl) (by decide +kernel)
set_option maxRecDepth 100000 in
set_option maxHeartbeats 4000000 in
theorem ch_X10_burnDown_r2 : CH wsX10_burnDown_r2 779982416535497285335610941630271672784934041947175812238218950349283874023575543908988883688156001724968430882209251778141157376 := ch_to (ch_of (n := [406, 11, 407, 180, 408, 409, 12, 410, 179, 177, 411, 13, 412, 265, 425, 428, 413, 148, 14, 414, 223, 415, 152, 15]) rfl) (by decide +kernel)
set_option maxRecDepth 100000 in
set_option maxHeartbeats 4000000 in
theorem ch_X10_burnDown_r3 : CH wsX10_burnDown_r3 84445933677141517024513469109338303711839727820600256116864958058294356210252190600246884416938890841718479716989343543664377856 := ch_to (ch_of (n := [416, 262, 261, 417, 420, 421, 16, 422, 423, 424]) rfl) (by decide +kernel)
set_option maxRecDepth 100000 in
set_option maxHeartbeats 4000000 in
theorem ch_X10_burnDown : CH wsX10_burnDown 1113877141257308874480003913159593459961961225139496541983494159610974439900691471483848196002400414171159172678211124521747829344200361976338856286229519943329812735081865617523219175177252 := ch_to (ch_cons 628 rfl (ch_app (ch_app (ch_app (ch_app (ch_app (ch_app ch_X10_burnDown_r1 (ch_app ch_X10_burnDown_r2 ch_X10_burnDown_r3)) ch_X90) ch_X100) ch_X00) ch_X70) ch_X30)) (by decide +kernel)
set_option maxRecDepth 100000 in
set_option maxHeartbeats 4000000 in
theorem ch_X10_nextHour_r1 : CH wsX10_nextHour_r1 270884525852120101324648497749622691099243502487018523335680454369956090415029312668563991697189222367074968337052136943978079774714024089703710771085958346418224265898607421647625519360 := ch_to (ch_of (n := [615, 600, 426, 157, 427, 608, 145, 46, 609, 176, 610, 433, 17, 434, 175, 611, 612, 47, 613, 178, 614, 399, 8, 400]) rfl) (by decide +kernel)
set_option maxRecDepth 100000 in
set_option maxHeartbeats 4000000 in
theorem ch_X10_nextHour_r2 : CH wsX10_nextHour_r2 69345376342157112404912636247490303984151677450441287892919426683522156289013853780637318526280505936972914019800400840871475006141044465311903681056990558418248317493514162885855467800068 := ch_to (ch_of (n := [380, 381, 2, 382, 174, 401, 402, 9, 403, 616, 617, 48, 150, 618, 269, 619, 49, 620, 621, 622, 623, 404, 151, 10]) rfl) (by decide +kernel)
set_option maxRecDepth 100000 in
set_option maxHeartbeats 4000000 in
theorem ch_X10_nextHour_r3 : CH wsX10_nextHour_r3 208851956983437891478325116227735503764033287380152584712793406081032516678671023784018362901969179061182530225803568548170395792196489704281813909944358378579222644767157524092591374612480 := ch_to (ch_of (n := [405, 266, 624, 50, 625, 406, 11, 407, 180, 408, 409, 12, 410, 179, 177, 373, 144, 374, 411, 13, 412, 265, 425, 428]) rfl) (by decide +kernel)
set_option maxRecDepth 100000 in
set_option maxHeartbeats 4000000 in
theorem ch_X10_nextHour_r4 : CH wsX10_nextHour_r4 1949284931845420320464367751458864701797644015548090790652731264926466421420461911147592174527744781187544197094323454297512159206586111498918904534447294210890225511333218752805160618147840 := ch_to (ch_of (n := [418, 419, 413, 148, 14, 414, 223, 415, 152, 15, 416, 262, 261, 417, 420, 421, 16, 422, 423, 424, 626, 627, 51, 628]) rfl) (by decide +kernel)
set_option maxRecDepth 100000 in
set_option maxHeartbeats 4000000 in
theorem ch_X10_nextHour_r5 : CH wsX10_nextHour_r5 33196124551047943668099262909529289208099569857939495199965258639416518788730200173387050316383723816949410577872747753520679292007088847494961108020796489730965405185930219724210208 := ch_to (ch_of (n := [603, 388, 5, 389]) rfl) (by decide +kernel)
set_option maxRecDepth 100000 in
set_option maxHeartbeats 4000000 in
theorem ch_X10_nextHour : CH wsX10_nextHour 2227753714030984812263972510119309594234844761573859266753198177554787890298640467607359332497244237021076204800032888551370640096898558533828692154098669657751413236130970077518654582554404 := ch_to (ch_cons 607 rfl (ch_app (ch_app (ch_app (ch_app (ch_app (ch_app ch_X10_nextHour_r1 (ch_app ch_X10_nextHour_r2 (ch_app ch_X10_nextHour_r3 (ch_app ch_X10_nextHour_r4 ch_X10_nextHour_r5)))) ch_X90) ch_X100) ch_X00) ch_X70) ch_X30)) (by decide +kernel)
set_option maxRecDepth 100000 in
set_option maxHeartbeats 4000000 in
theorem ch_X2_keep : CH wsX2_keep 13366525246940025054612807438575072240898130392329765421618728599658600364084458201731700966234555917120973371329550264865821661379932287488089964300744556466139900414449371261985077443166208 := ch_to (ch_cons 630 rfl (ch_app (ch_of (n := [278, 279, 280, 631, 426, 157, 427]) rfl) ch_X20)) (by decide +kernel)
set_option maxRecDepth 100000 in
set_option maxHeartbeats 4000000 in
theorem ch_X1_turn_r1 : CH wsX1_turn_r1 28365829084147412802330913130701296930749144165719783496074070012698161434725428124192839122939219327824578421323063933230662292163206488912968134174130694515996945919637798781316 := ch_to (ch_of (n := [285, 286, 284, 290, 289, 590, 591, 40, 149, 592, 397, 145, 7, 398, 178, 381, 2, 382, 174, 399, 8, 400, 380, 401]) rfl) (by decide +kernel)
set_option maxRecDepth 100000 in
set_option maxHeartbeats 4000000 in
theorem ch_X1_turn_r2 : CH wsX1_turn_r2 43301841166634981268649336208408698229062312309372906979270584488300951826891315131746612438741178652185804965348096929337295360 := ch_to (ch_of (n := [402, 9, 403, 176, 413, 148, 14, 414, 223, 415, 152, 15, 416, 262, 261, 417, 418, 157, 419, 420, 421, 16, 422, 423]) rfl) (by decide +kernel)
set_option maxRecDepth 100000 in
set_option maxHeartbeats 4000000 in
theorem ch_X1_turn_r3 : CH wsX1_turn_r3 8266866325304824187631090529614814897051165735693741954952048517322810021252535112176959372893848021763021372545149444971474292572957242323404437896555006220066314540890265843924992 := ch_to (ch_of (n := [424, 593, 153, 41, 594, 279, 278, 586, 571, 570, 163, 595, 596, 597, 598, 150, 42, 599, 269, 600, 426, 427, 404, 151]) rfl) (by decide +kernel)
set_option maxRecDepth 100000 in
set_option maxHeartbeats 4000000 in
theorem ch_X1_turn_r4 : CH wsX1_turn_r4 779834422631114858247445407507807709421869902364523815492732367021938534737242361708445929045749025537165932997795857959305100320 := ch_to (ch_of (n := [10, 405, 266, 406, 11, 407, 180, 408, 409, 12, 410, 179, 177, 373, 144, 374, 411, 13, 412, 265, 425, 428, 388, 5]) rfl) (by decide +kernel)
set_option maxRecDepth 100000 in
set_option maxHeartbeats 4000000 in
theorem ch_X1_turn_r5 : CH wsX1_turn_r5 203948690210500803910884846500420570572261732314715773701330630413196403175024660438314403267507845893926286482693598617359007408080487462924365614362440144421200913173364087356657893376 := ch_to (ch_of (n := [389, 601, 43, 602, 603, 604, 44, 605, 606, 45, 607, 615, 608, 46, 609, 610, 433, 17, 434, 175, 611, 612, 47, 613]) rfl) (by decide +kernel)
set_option maxRecDepth 100000 in
set_option maxHeartbeats 4000000 in
theorem ch_X1_turn_r6 : CH wsX1_turn_r6 17821829705597458434251179782895446839911279292682480048566462186494974666941909473777510080807612182339626610938222660630058779193313969560001167431332104942837459577921523083276048616390656 := ch_to (ch_of (n := [614, 616, 617, 48, 618, 619, 49, 620, 621, 622, 623, 624, 50, 625, 626, 627, 51, 628, 629, 52, 630, 280, 631]) rfl) (by decide +kernel)
set_option maxRecDepth 100000 in
set_option maxHeartbeats 4000000 in
theorem ch_X1_turn : CH wsX1_turn 17822033662584927220092929940518392339879560698177477440211463206102350252985945211288025360784298787121122159806277570131998389609047661484606790070040682916541809715288141400924645537087396 := ch_to (ch_cons 589 rfl (ch_app (ch_app (ch_app (ch_app (ch_app (ch_app (ch_app (ch_app ch_X1_turn_r1 (ch_app ch_X1_turn_r2 (ch_app ch_X1_turn_r3 (ch_app ch_X1_turn_r4 (ch_app ch_X1_turn_r5 ch_X1_turn_r6))))) ch_X10) ch_X70) ch_X30) ch_X90) ch_X20) ch_X100) ch_X00)) (by decide +kernel)
set_option maxRecDepth 100000 in
set_option maxHeartbeats 4000000 in
theorem ch_X1_carryOut_r1 : CH wsX1_carryOut_r1 118730186319659228124075296145103447178895944350570802463746238630345022608562164923025488799206571714433723083760687665167704863876646960994951820504438422338136273105205592064 := ch_to (ch_of (n := [287, 288, 289, 290, 291, 581, 145, 37, 582, 174, 583, 571, 570, 163, 175, 176, 177, 178, 179, 180, 181, 182, 183, 584]) rfl) (by decide +kernel)
set_option maxRecDepth 100000 in
set_option maxHeartbeats 4000000 in
theorem ch_X1_carryOut_r2 : CH wsX1_carryOut_r2 32291457216328527966939209144325137130986748938654217882641445607352527209292670148902529146303720104903545714537520263723420773092898411094528891250942011193251866340988322594816 := ch_to (ch_of (n := [153, 38, 585, 278, 586, 279, 280, 413, 148, 14, 414, 223, 587, 588, 39, 149, 589, 285, 286, 284, 590, 591, 40, 592]) rfl) (by decide +kernel)
set_option maxRecDepth 100000 in
set_option maxHeartbeats 4000000 in
theorem ch_X1_carryOut_r3 : CH wsX1_carryOut_r3 2623111077393759448025983314646263113896427597132567468542363594044017455331874668413954918001873107791364020269118315831526276 := ch_to (ch_of (n := [397, 7, 398, 381, 2, 382, 399, 8, 400, 380, 401, 402, 9, 403, 415, 152, 15, 416, 262, 261, 417, 418, 157, 419]) rfl) (by decide +kernel)
set_option maxRecDepth 100000 in
set_option maxHeartbeats 4000000 in
theorem ch_X1_carryOut_r4 : CH wsX1_carryOut_r4 8266613047380103159536437540947235105532607728295480365524032875250637840820014111623252478727740824048323769346647729512755261886748817408680228253809904503414351370070662836192256 := ch_to (ch_of (n := [420, 421, 16, 422, 423, 424, 593, 41, 594, 595, 596, 597, 598, 150, 42, 599, 269, 600, 426, 427, 404, 151, 10, 405]) rfl) (by decide +kernel)
set_option maxRecDepth 100000 in
set_option maxHeartbeats 4000000 in
theorem ch_X1_carryOut_r5 : CH wsX1_carryOut_r5 58093217964333901419173710091676256114174247251394117379773542616048763024435875902783033293953972575735767026793061782767002938019779866618958489508258665411248471267345782951393312 := ch_to (ch_of (n := [266, 406, 11, 407, 408, 409, 12, 410, 373, 144, 374, 411, 13, 412, 265, 425, 428, 388, 5, 389, 601, 43, 602, 603]) rfl) (by decide +kernel)
set_option maxRecDepth 100000 in
set_option maxHeartbeats 4000000 in
theorem ch_X1_carryOut_r6 : CH wsX1_carryOut_r6 4351016044905853976577770389552003936505610621280129635925990522279330468565000906408310832126449644347852373789237065439843170998968786069797247222557887638042261854848373095408685154304 := ch_to (ch_of (n := [604, 44, 605, 606, 45, 607, 615, 608, 46, 609, 610, 433, 17, 434, 611, 612, 47, 613, 614, 616, 617, 48, 618, 619]) rfl) (by decide +kernel)
set_option maxRecDepth 100000 in
set_option maxHeartbeats 4000000 in
theorem ch_X1_carryOut_r7 : CH wsX1_carryOut_r7 17817682580149545116744611478178685164869089829619267383310120926663905915946515939466202699989925272077121980384701822221060033639938753702969215492498843289272230330949101428455168697958400 := ch_to (ch_of (n := [49, 620, 621, 622, 623, 624, 50, 625, 626, 627, 51, 628, 629, 52, 630, 631]) rfl) (by decide +kernel)
set_option maxRecDepth 100000 in
set_option maxHeartbeats 4000000 in
theorem ch_X1_carryOut : CH wsX1_carryOut 17822033662586696127124265584145993053909893214880608699620235073181415631963121612241987276698300890026236740809936145778513388394997521883224057509713191139185886340038666856526792743976868 := ch_to (ch_cons 580 rfl (ch_app (ch_app (ch_app (ch_app (ch_app (ch_app (ch_app (ch_app ch_X1_carryOut_r1 (ch_app ch_X1_carryOut_r2 (ch_app ch_X1_carryOut_r3 (ch_app ch_X1_carryOut_r4 (ch_app ch_X1_carryOut_r5 (ch_app ch_X1_carryOut_r6 ch_X1_carryOut_r7)))))) ch_X10) ch_X70) ch_X90) ch_X20) ch_X30) ch_X100) ch_X00)) (by decide +kernel)
set_option maxRecDepth 100000 in
set_option maxHeartbeats 4000000 in
theorem ch_X2_clear : CH wsX2_clear 39402006196394479212279040100172753838463125206529238596550646187845357874082992704233043441030999205084706117779456 := ch_to (ch_cons 384 rfl (ch_app (ch_of (n := [280]) rfl) ch_X20)) (by decide +kernel)
set_option maxRecDepth 100000 in
set_option maxHeartbeats 4000000 in
theorem ch_X2_takeBack : CH wsX2_takeBack 1254114127528279663858650610718628356195929105593406536097047683488398715071738780304326834030257455319213188569226284289910982505878963113888716569363888464474120887214281570450231767471916600964044292096 := ch_to (ch_cons 678 rfl (ch_app (ch_app (ch_of (n := [280, 279, 278, 586, 571, 570, 163, 595, 596, 153, 597]) rfl) ch_X20) ch_X90)) (by decide +kernel)
set_option maxRecDepth 100000 in
set_option maxHeartbeats 4000000 in
theorem ch_X4_init : CH wsX4_init 34987467648384507149630455547057263637192325184609194526769964412645947046440438145137670779207417856 := ch_to (ch_cons 322 rfl (ch_app (ch_of (n := [323, 166, 167, 194, 324, 325, 326, 327, 328]) rfl) ch_X40)) (by decide +kernel)
set_option maxRecDepth 100000 in
set_option maxHeartbeats 4000000 in
theorem ch_X4_favourite : CH wsX4_favourite 31560815409290241043445991510270017852774908398218100090865626426734237963928663130838560870137094044333091691697396592017852541852925544057029125796546999405401355404314140993328223973844382928084734570901012484 := ch_to (ch_cons 701 rfl (ch_app (ch_of (n := [702, 622, 157, 623, 381, 145, 2, 382, 174]) rfl) ch_X90)) (by decide +kernel)
set_option maxRecDepth 100000 in
set_option maxHeartbeats 4000000 in
theorem ch_X4_ring : CH wsX4_ring 168324348849547952231711676252164117297610873690341563503944988898199428937506586307637329160882845215015778651361412485068520274372787374084535766867835748888422619855070905605875309451414718841473534388068155396 := ch_to (ch_cons 705 rfl (ch_app (ch_app (ch_of (n := [325, 324, 381, 145, 2, 382, 174]) rfl) ch_X90) ch_X40)) (by decide +kernel)
set_option maxRecDepth 100000 in
set_option maxHeartbeats 4000000 in
theorem ch_X4_swapped : CH wsX4_swapped 335333663723708811086613157246597448288307032011256390476891348578953519874585080607902803340167827160409140657425418987168460789507515747499654020437037316988616350930801947063832897406965088455058379235081060356 := ch_to (ch_cons 698 rfl (ch_app (ch_app (ch_of (n := [325, 324, 699, 700, 60, 155, 701, 702, 622, 157, 623, 381, 145, 2, 382, 174, 703, 704, 61, 705, 373, 144, 374]) rfl) ch_X90) ch_X40)) (by decide +kernel)
set_option maxRecDepth 100000 in
set_option maxHeartbeats 4000000 in
theorem ch_X4_apart : CH wsX4_apart 16546977829849568089680213586304485896584861001484129630444180057713217259046302794887467136934790993056506978408773374613687538681581327305388607514846277826595170956693640417657140308498121380751607156920172945604608 := ch_to (ch_cons 720 rfl (ch_of (n := [702, 622, 157, 623, 721, 426, 427]) rfl)) (by decide +kernel)
set_option maxRecDepth 100000 in
set_option maxHeartbeats 4000000 in
theorem ch_X4_nearest : CH wsX4_nearest 21373173560063806976067850767806535467741959971933602939229290779402391285542491637500044638635623507411068760266192314078253719848853968085023830078178461113952488495848718522202551163728212876289910184405123549102080 := ch_to (ch_cons 717 rfl (ch_of (n := [718, 719, 155, 720, 702, 622, 157, 623, 721, 426, 427]) rfl)) (by decide +kernel)
set_option maxRecDepth 100000 in
set_option maxHeartbeats 4000000 in
theorem ch_X4_fill : CH wsX4_fill 21976448026340586836866305415494291664136597343239787102827429619613538038854515242826616826348227571720164735322017645391721707266878221679730433837853360168650204832237698132721749064639227258931453058847496321630212 := ch_to (ch_cons 714 rfl (ch_app (ch_app (ch_of (n := [327, 381, 145, 2, 382, 174, 715, 716, 155, 717, 718, 719, 720, 702, 622, 157, 623, 721, 426, 427]) rfl) ch_X90) ch_X40)) (by decide +kernel)
set_option maxRecDepth 100000 in
set_option maxHeartbeats 4000000 in
theorem ch_X4_ahead : CH wsX4_ahead 88250436209631796779659651318894620729729809745361797646356310339459182198787453122058560031100937405340558296821374927378848772092199280706958471922902234803807824996104975197171140321534660181577213052576543623086080 := ch_to (ch_cons 724 rfl (ch_app (ch_of (n := [327, 326]) rfl) ch_X40)) (by decide +kernel)
set_option maxRecDepth 100000 in
set_option maxHeartbeats 4000000 in
theorem ch_X4_retune_r1 : CH wsX4_retune_r1 187510652469358432212385128922067727893925033554304140566478178831961796700525595644606532317262899914242267479405144400356740964758717203031540001057935030694174649960704524970072995081567331594403272812421803373756420 := ch_to (ch_of (n := [327, 326, 725, 571, 570, 163, 712, 713, 63, 155, 714, 381, 145, 2, 382, 174, 715, 716, 717, 718, 719, 720, 702, 622]) rfl) (by decide +kernel)
set_option maxRecDepth 100000 in
set_option maxHeartbeats 4000000 in
theorem ch_X4_retune_r2 : CH wsX4_retune_r2 165469567893059618961861846222962222527740632921133091439622704470446638837289833367978599349230926930365373790072891205076060386532609933650311840183995117088647079861761842674036918455352006975185539357256672731987968 := ch_to (ch_of (n := [157, 623, 721, 426, 427, 722, 723, 64, 724]) rfl) (by decide +kernel)
set_option maxRecDepth 100000 in
set_option maxHeartbeats 4000000 in
theorem ch_X4_retune : CH wsX4_retune 352990993120744422243189804692310088925172713571353413866165135781697920301267429434108820455560123345755754130598253092325063849225260340885948047329711605808953700852350496166925018842707369513558065264664176043753476 := ch_to (ch_cons 711 rfl (ch_app (ch_app (ch_app ch_X4_retune_r1 ch_X4_retune_r2) ch_X90) ch_X40)) (by decide +kernel)
set_option maxRecDepth 100000 in
set_option maxHeartbeats 4000000 in
theorem ch_X4_tunedNote : CH wsX4_tunedNote 706003489677054374237277210551156965837838477962894381170850482715673457590299624976468480248807499242724524092353513428295322232780367504700488966414040995785540793529213947610515042193706618979347167383926524352659456 := ch_to (ch_cons 727 rfl (ch_app (ch_of (n := [326, 373, 144, 374]) rfl) ch_X40)) (by decide +kernel)
set_option maxRecDepth 100000 in
set_option maxHeartbeats 4000000 in
theorem ch_X4_mapSets : CH wsX4_mapSets 92537289398950870940028398541361245826297164983552492328825714470508751433275752444915676643171696540742381271423522323519908345504658484563490935418519578976571139249936147485079117414559078287354159920525646817471007555588 := ch_to (ch_cons 744 rfl (ch_app (ch_app (ch_of (n := [328, 381, 145, 2, 382, 174]) rfl) ch_X90) ch_X40)) (by decide +kernel)
set_option maxRecDepth 100000 in
set_option maxHeartbeats 4000000 in
theorem ch_X4_hillSet : CH wsX4_hillSet 173507417623032883012553247265052335924307184344160923116548214632203908937392035834216893705946931013891964870990321073407859513243123709813839465571617297740154924784928584094183296123236464550443596082672748269071283257348 := ch_to (ch_cons 741 rfl (ch_app (ch_app (ch_of (n := [328, 742, 743, 67, 155, 744, 381, 145, 2, 382, 174]) rfl) ch_X40) ch_X90)) (by decide +kernel)
set_option maxRecDepth 100000 in
set_option maxHeartbeats 4000000 in
theorem ch_X4_burningSets : CH wsX4_burningSets 94758184344525691842589080106353915726128296943157752144717531617800961467674370503593652882607817257720198406807316479868870886751128504653988545868935293118433414469966197698166950512196151398067064754020370980693426548244480 := ch_to (ch_cons 754 rfl (ch_app (ch_app (ch_of (n := [328]) rfl) ch_X90) ch_X40)) (by decide +kernel)
set_option maxRecDepth 100000 in
set_option maxHeartbeats 4000000 in
theorem ch_X4_question : CH wsX4_question 373289641854780378942640807940942430585418619970839282023712380566877896484869805628262032348764425616351733526626983142162362663240744834960939791658043032268401308023400023759199352363103368235140143582142520321033514791206916 := ch_to (ch_cons 750 rfl (ch_app (ch_app (ch_of (n := [755, 418, 157, 419, 751, 740, 66, 155, 741, 328, 742, 743, 67, 744, 381, 145, 2, 382, 174, 752, 753, 69, 754]) rfl) ch_X90) ch_X40)) (by decide +kernel)
set_option maxRecDepth 100000 in
set_option maxHeartbeats 4000000 in
theorem ch_X4_muted : CH wsX4_muted 582194284612765850680867308173438458221332256418761229177144514259769107257391332374079403310742429231432899051449042801039136578794457934918335593081922438440565893515955993423758719983206546265499541785306482001714298665645900548 := ch_to (ch_cons 765 rfl (ch_app (ch_of (n := [766, 381, 145, 2, 382, 174, 399, 8, 400, 380, 401, 402, 9, 403, 176]) rfl) ch_X90)) (by decide +kernel)
set_option maxRecDepth 100000 in
set_option maxHeartbeats 4000000 in
theorem ch_X4_odds : CH wsX4_odds 764129998554255179018638341977637976415498586549624113295002174965946953275326123740979216845349438366255679992519090442387368615214162746415713008125810853191087961018399341730430433188831415185050765697185281705843398520575361796 := ch_to (ch_cons 761 rfl (ch_app (ch_of (n := [762, 763, 764, 155, 765, 766, 381, 145, 2, 382, 174, 399, 8, 400, 380, 401, 402, 9, 403, 176]) rfl) ch_X90)) (by decide +kernel)
set_option maxRecDepth 100000 in
set_option maxHeartbeats 4000000 in
theorem ch_X5_init_r1 : CH wsX5_init_r1 16622213566889588018709435351882687764619696374074160400730241496758133284846911452362710188032 := ch_to (ch_of (n := [305, 166, 167, 306, 252, 151, 307, 194, 308, 309, 310, 311, 312, 253, 254, 255, 256, 257, 152, 265, 266, 258, 259, 260]) rfl) (by decide +kernel)
set_option maxRecDepth 100000 in
set_option maxHeartbeats 4000000 in
theorem ch_X5_init_r2 : CH wsX5_init_r2 11116040566782354760662814560834039153913918527901494147787928064759660445433856 := ch_to (ch_of (n := [261, 262]) rfl) (by decide +kernel)
set_option maxRecDepth 100000 in
set_option maxHeartbeats 4000000 in
theorem ch_X5_init : CH wsX5_init 1067960925384834637981688584470702154955419849514489470649428386297042772035338613970659031646208 := ch_to (ch_cons 304 rfl (ch_app (ch_app (ch_app (ch_app ch_X5_init_r1 ch_X5_init_r2) ch_X00) ch_X50) ch_X30)) (by decide +kernel)
set_option maxRecDepth 100000 in
set_option maxHeartbeats 4000000 in
theorem ch_X5_askHour_r1 : CH wsX5_askHour_r1 1284212866588958375791257295625031412487875928423626430541572486100764686107686267467076516617413323889823253778513740323835169824289403032262908779542497635874141677597996953851067096628087491109865729825792 := ch_to (ch_of (n := [307, 308, 309, 688, 426, 157, 427, 406, 145, 11, 407, 180, 408, 409, 12, 410, 179, 177, 373, 144, 374, 404, 151, 10]) rfl) (by decide +kernel)
set_option maxRecDepth 100000 in
set_option maxHeartbeats 4000000 in
theorem ch_X5_askHour_r2 : CH wsX5_askHour_r2 782177370247883982779679555350885589566341835001676224187017840656014454991901495772210825628644803900594734405216342407251025924 := ch_to (ch_of (n := [405, 266, 381, 2, 382, 174, 411, 13, 412, 265, 425, 428, 418, 419, 413, 148, 14, 414, 223, 415, 152, 15, 416, 262]) rfl) (by decide +kernel)
set_option maxRecDepth 100000 in
set_option maxHeartbeats 4000000 in
theorem ch_X5_askHour_r3 : CH wsX5_askHour_r3 84276703349131213383181778790481914325643656221753989431016899730196999784655138869613026700047722732698971081334431123641532416 := ch_to (ch_of (n := [261, 417, 420, 421, 16, 422, 423, 424]) rfl) (by decide +kernel)
set_option maxRecDepth 100000 in
set_option maxHeartbeats 4000000 in
theorem ch_X5_askHour : CH wsX5_askHour 1926319299883437563686885943437547118731813892635439645812358729151147029161530007714322298236807295738826214587520381020490034354925094477454658324053434547760595446623106649746348132437545298887223908891652 := ch_to (ch_cons 687 rfl (ch_app (ch_app (ch_app (ch_app (ch_app (ch_app ch_X5_askHour_r1 (ch_app ch_X5_askHour_r2 ch_X5_askHour_r3)) ch_X50) ch_X90) ch_X00) ch_X70) ch_X30)) (by decide +kernel)
set_option maxRecDepth 100000 in
set_option maxHeartbeats 4000000 in
theorem ch_X5_settleHour : CH wsX5_settleHour 30821108798135001018990175095000753899709022282167034332997739666418352466584457944103059784123675570291463030449473386944324891789466008216098149923558649872682639977886218065993178879695790040058888011645440 := ch_to (ch_cons 691 rfl (ch_app (ch_app (ch_of (n := [310, 308, 692, 418, 157, 419, 311, 312, 309, 402, 145, 9, 403, 176]) rfl) ch_X50) ch_X90)) (by decide +kernel)
set_option maxRecDepth 100000 in
set_option maxHeartbeats 4000000 in
theorem ch_X5_leastCoal_r1 : CH wsX5_leastCoal_r1 2407899124854296954608607429296933898414767365794299557265448411438933786451911296605086523676652381298294943367157706268439870854452624360448925042221044975758500586462263381319151262606888287568568942336000 := ch_to (ch_of (n := [310, 312, 311, 685, 686, 57, 154, 687, 307, 308, 309, 688, 426, 157, 427, 406, 145, 11, 407, 180, 408, 409, 12, 410]) rfl) (by decide +kernel)
set_option maxRecDepth 100000 in
set_option maxHeartbeats 4000000 in
theorem ch_X5_leastCoal_r2 : CH wsX5_leastCoal_r2 781881258489864058515669046037319068800563845673740285559417643540669926232769853284908089260737210437378071284228152267527693316 := ch_to (ch_of (n := [179, 177, 373, 144, 374, 404, 151, 10, 405, 266, 381, 2, 382, 174, 411, 13, 412, 265, 425, 428, 418, 419, 413, 148]) rfl) (by decide +kernel)
set_option maxRecDepth 100000 in
set_option maxHeartbeats 4000000 in
theorem ch_X5_leastCoal_r3 : CH wsX5_leastCoal_r3 38526385997668751273737718868750942374636277852708792916247174583022940583230572512163218486399650337675441885937746343144552521000062968850421249462389640704931905828713369311143480657741425685552529787699712 := ch_to (ch_of (n := [14, 414, 223, 415, 152, 15, 416, 262, 261, 417, 420, 421, 16, 422, 423, 424, 689, 690, 58, 691, 692, 402, 9, 403]) rfl) (by decide +kernel)
set_option maxRecDepth 100000 in
set_option maxHeartbeats 4000000 in
theorem ch_X5_leastCoal_r4 : CH wsX5_leastCoal_r4 95780971304118053647396689196894323976171195136475136 := ch_to (ch_of (n := [176]) rfl) (by decide +kernel)
set_option maxRecDepth 100000 in
set_option maxHeartbeats 4000000 in
theorem ch_X5_leastCoal : CH wsX5_leastCoal 41014548426684858126833279879024440736331537464029569125421471274843172162564214949873710023015885960766241469055080586420070553958539775308955698878159436843018024778581437428165737073825512773118752255507972 := ch_to (ch_cons 684 rfl (ch_app (ch_app (ch_app (ch_app (ch_app (ch_app ch_X5_leastCoal_r1 (ch_app ch_X5_leastCoal_r2 (ch_app ch_X5_leastCoal_r3 ch_X5_leastCoal_r4))) ch_X50) ch_X90) ch_X00) ch_X70) ch_X30)) (by decide +kernel)
set_option maxRecDepth 100000 in
set_option maxHeartbeats 4000000 in
theorem ch_X5_coalBy_r1 : CH wsX5_coalBy_r1 21831618732012292388451374025625534012293890783201649319206732263712999663830659010703526623058224519253469885540155218612071424972456176532546755594752663670595316814165746880286504600522924862151300766245892 := ch_to (ch_of (n := [307, 688, 426, 157, 427, 692, 418, 419, 381, 145, 2, 382, 174, 404, 151, 10, 405, 266, 411, 13, 412, 265, 425, 428]) rfl) (by decide +kernel)
set_option maxRecDepth 100000 in
set_option maxHeartbeats 4000000 in
theorem ch_X5_coalBy_r2 : CH wsX5_coalBy_r2 84594010214150532710678698138337644424761290469584255109984732868409156682809021681285073003893053378594266788929543657356378112 := ch_to (ch_of (n := [413, 148, 14, 414, 223, 415, 152, 15, 416, 262, 261, 417, 420, 421, 16, 422, 423, 424]) rfl) (by decide +kernel)
set_option maxRecDepth 100000 in
set_option maxHeartbeats 4000000 in
theorem ch_X5_coalBy : CH wsX5_coalBy 49680578953622685924767365462418813780512740999108317181983677510724413687613379569320372795516351125074702679845031551354720493579697939377166685405536040235387366952934957447524399942221430103893732942536534073850006849951608464388 := ch_to (ch_cons 773 rfl (ch_app (ch_app (ch_app (ch_app (ch_app (ch_app ch_X5_coalBy_r1 ch_X5_coalBy_r2) ch_X90) ch_X50) ch_X00) ch_X70) ch_X30)) (by decide +kernel)
set_option maxRecDepth 100000 in
set_option maxHeartbeats 4000000 in
theorem ch_X8_init : CH wsX8_init 210611752941167523628669142547120123275123559112909511961125847040 := ch_to (ch_cons 203 rfl (ch_app (ch_of (n := [204, 166, 167, 194, 205, 206, 207, 208, 209, 210]) rfl) ch_X80)) (by decide +kernel)
set_option maxRecDepth 100000 in
set_option maxHeartbeats 4000000 in
theorem ch_X7_init : CH wsX7_init 3447503180061888064023652868620168632686457330913902045795063208869888 := ch_to (ch_cons 221 rfl (ch_app (ch_of (n := [222, 166, 167, 223, 224, 225, 226]) rfl) ch_X70)) (by decide +kernel)
set_option maxRecDepth 100000 in
set_option maxHeartbeats 4000000 in
theorem ch_X6_init_r1 : CH wsX6_init_r1 106978335412984515418983835626434243909433338024399602269734978810019840 := ch_to (ch_of (n := [199, 166, 167, 200, 201, 147, 231, 218, 219, 148, 194, 232, 233, 234, 235, 202, 203, 204, 205, 206, 207, 208, 209, 210]) rfl) (by decide +kernel)
set_option maxRecDepth 100000 in
set_option maxHeartbeats 4000000 in
theorem ch_X6_init_r2 : CH wsX6_init_r2 213994576670508203370169432253218318471994833853915794068759906353152 := ch_to (ch_of (n := [220, 221, 222, 223, 224, 225, 226]) rfl) (by decide +kernel)
set_option maxRecDepth 100000 in
set_option maxHeartbeats 4000000 in
theorem ch_X6_init : CH wsX6_init 3533693918931808695948379013653536935073740758860819738701656667084292096 := ch_to (ch_cons 198 rfl (ch_app (ch_app (ch_app (ch_app ch_X6_init_r1 ch_X6_init_r2) ch_X80) ch_X60) ch_X70)) (by decide +kernel)
set_option maxRecDepth 100000 in
set_option maxHeartbeats 4000000 in
theorem ch_X8_step : CH wsX8_step 85360311922703432452408196904943062125472757291689699238256706080364102948274541989821153258532568288019908922834065575733855680700851867877376 := ch_to (ch_cons 472 rfl (ch_app (ch_of (n := [208, 207, 206, 205, 209, 210, 473, 426, 157, 427, 474]) rfl) ch_X80)) (by decide +kernel)
set_option maxRecDepth 100000 in
set_option maxHeartbeats 4000000 in
theorem ch_J0_coder_7d493 : CH wsJ0_coder_7d493 6596810746850519215224252268522950203378724002048395615325249035035279998078636860244979411341753317172383673707485030619593988745922710229200513406146210893135326824481594596859020939244759368095354641254544633706625089698878588298144632470385705827887986539091752491942393145709640988640758590014786792604490772886971218623190634753920060622802289702956838978525105796349381200619431688985658544657514646500016128 := ch_to (ch_cons 487 rfl (ch_of (n := [488, 1378]) rfl)) (by decide +kernel)
set_option maxRecDepth 100000 in
set_option maxHeartbeats 4000000 in
theorem ch_J0_length_8abf5 : CH wsJ0_length_8abf5 9895216120275778822836378402784425305068086003072593422987873552552919997117955290367469117012629975758575510561227545929390983118884065343800770109219316339702990236722391895288531408867139052143031961881816950559937634548317882447216948705578558741831979808637628737688823822941710042301662884477072214892837093058578905072926651037853325739180309905773219047216237136391942092913600235927441747148270341680267264 := ch_to (ch_cons 483 rfl (ch_of (n := [1377, 484, 485, 486, 158, 487, 488, 1378]) rfl)) (by decide +kernel)
set_option maxRecDepth 100000 in
set_option maxHeartbeats 4000000 in
theorem ch_J0_isLatin1_aae02 : CH wsJ0_isLatin1_aae02 6596810746850519215224252268522950203378724002048395615325249035035279998078636860244979411341753317172383673707485030619593988745922710229200513406146210893135326824481594596859020939244759368095354641254544633706625089698878588298144632470385705827887986539091752696129722324778060858848270196326208519008798088317404254018929049930234753346031970531938428155407955418309291989583822034446851775545679960327847936 := ch_to (ch_cons 496 rfl (ch_of (n := [488, 1378]) rfl)) (by decide +kernel)
set_option maxRecDepth 100000 in
set_option maxHeartbeats 4000000 in
theorem ch_J3_checkIndex_8e157 : CH wsJ3_checkIndex_8e157 209496998905353079680844140596966345741865090946756146526930647558152562969899171512529285908857866057656747784163844544589904418936665155413025765720064 := ch_to (ch_cons 506 rfl (ch_of (n := []) rfl)) (by decide +kernel)
set_option maxRecDepth 100000 in
set_option maxHeartbeats 4000000 in
theorem ch_J0_checkIndex_df160 : CH wsJ0_checkIndex_df160 405900435379121591881635522406622294874863613709340033895928129643920590754179644805525491448412115486711410333454779708061143496522505021632393353625600 := ch_to (ch_cons 502 rfl (ch_of (n := [503, 504, 505, 160, 506]) rfl)) (by decide +kernel)
set_option maxRecDepth 100000 in
set_option maxHeartbeats 4000000 in
theorem ch_J1_charAt_3b067 : CH wsJ1_charAt_3b067 417357302506758088426681686345518891907621860870490760659119649432257059041596005747616936771552780036739879103310572682322954815641282968073957183324160 := ch_to (ch_cons 499 rfl (ch_of (n := [500, 501, 158, 502, 503, 504, 505, 160, 506]) rfl)) (by decide +kernel)
set_option maxRecDepth 100000 in
set_option maxHeartbeats 4000000 in
theorem ch_J0_charAt_5068e_r1 : CH wsJ0_charAt_5068e_r1 9895216120275778822836378402784425305068086003072593422987873552552919997117955290367469117012629975758575510561227545929390983118884065343800770109219316339702990236722391895288531408867139052143031961881816950559937634548317882447216948705578558741831979808640980663323751707549629115690533726554618435829816867310653282182572352807234236844558944664931435048266513627254995599115355181946428163432319564606603264 := ch_to (ch_of (n := [1377, 493, 494, 495, 158, 496, 488, 1378, 497, 498, 159, 499, 500, 501, 502, 503, 504, 505, 160, 506, 507, 508, 161, 509]) rfl) (by decide +kernel)
set_option maxRecDepth 100000 in
set_option maxHeartbeats 4000000 in
theorem ch_J0_charAt_5068e_r2 : CH wsJ0_charAt_5068e_r2 27455838688539953210652709690076021407545871359118073539233422946381242292583105821746038094071276494052262737601376810635774513528163588607809504752208707584 := ch_to (ch_of (n := [510, 511, 512, 513, 514, 515, 516, 517, 518, 519, 520, 521, 522]) rfl) (by decide +kernel)
set_option maxRecDepth 100000 in
set_option maxHeartbeats 4000000 in
theorem ch_J0_charAt_5068e : CH wsJ0_charAt_5068e 9895216120275778822836378402784425305068086003072593422987873552552919997117955290367469117012629975758575510561227545929390983118884065343800770109219316339702990236722391895288531408867139052143031961881816950559937634548317882447216948705578558741831979836096819364650386980296642985505577387333298983294148398899798062482921552015862700796357018748981727248592365099282916108171396089864925153606640931379871744 := ch_to (ch_cons 492 rfl (ch_app ch_J0_charAt_5068e_r1 ch_J0_charAt_5068e_r2)) (by decide +kernel)
set_option maxRecDepth 100000 in
set_option maxHeartbeats 4000000 in
theorem ch_X8_find_r1 : CH wsX8_find_r1 9895216120275778822836378402784425305068086003072593422987873552552919997117955290367469117012629975758575510561227545929390983118884065343800770109219316339702990236722391895288531408867139052143031961881816950559937634548317882447216948705578558741831979808637629554459992779067601468751380490331311284650306541778965844711894410460489698803837392563210204702603819376975829997034931620689586945869591413620998144 := ch_to (ch_of (n := [207, 208, 205, 480, 481, 482, 158, 483, 1377, 484, 485, 486, 487, 488, 1378, 489, 490, 491, 492, 493, 494, 495, 496, 497]) rfl) (by decide +kernel)
set_option maxRecDepth 100000 in
set_option maxHeartbeats 4000000 in
theorem ch_X8_find_r2 : CH wsX8_find_r2 1716198596685000454710007696472924097417570770875314841582418493973543771815964911862001189347840557268284795241454913277422958408511938988785812536410767360 := ch_to (ch_of (n := [498, 159, 499, 500, 501, 502, 503, 504, 505, 160, 506, 507, 508, 161, 509, 510, 511, 512, 513, 514, 515, 516, 517, 518]) rfl) (by decide +kernel)
set_option maxRecDepth 100000 in
set_option maxHeartbeats 4000000 in
theorem ch_X8_find_r3 : CH wsX8_find_r3 25742991225489786431182127996555224564760382375537395285229237971945786937741210195459598652480454581164861167718053217639207454998937414297152606091681464320 := ch_to (ch_of (n := [519, 520, 521, 522]) rfl) (by decide +kernel)
set_option maxRecDepth 100000 in
set_option maxHeartbeats 4000000 in
theorem ch_X8_find : CH wsX8_find 9895216120275778822836378402784425305068086003072593422987873552552919997117955290367469117012629975758575510561227545929390983118884065343800770109219316339702990236722391895288531408867139052143031961881816950559937634548317882447216948705578558741831979836096819376636340539234895157895219951124161014215890967661954796206654698497477491994847117408899070409753489633589991381452211967411383289478716966291111936 := ch_to (ch_cons 479 rfl (ch_app (ch_app ch_X8_find_r1 (ch_app ch_X8_find_r2 ch_X8_find_r3)) ch_X80)) (by decide +kernel)
set_option maxRecDepth 100000 in
set_option maxHeartbeats 4000000 in
theorem ch_X7_setHead : CH wsX7_setHead 878694100496718043517683302282418331810487718418343092402491322775749527474899974671687637253339756428746023115484867814617110637239633324148459594247762345984 := ch_to (ch_cons 528 rfl (ch_app (ch_of (n := [223]) rfl) ch_X70)) (by decide +kernel)
set_option maxRecDepth 100000 in
set_option maxHeartbeats 4000000 in
theorem ch_X7_open : CH wsX7_open 1647551438431346331595656191779534372144664472034393298254671230204530364015437452509414317007422666586203209991331080726697949783178162002649113136636777988096 := ch_to (ch_cons 525 rfl (ch_app (ch_of (n := [526, 527, 25, 148, 528, 223]) rfl) ch_X70)) (by decide +kernel)
set_option maxRecDepth 100000 in
set_option maxHeartbeats 4000000 in
theorem ch_X6_passed_r1 : CH wsX6_passed_r1 9895216120275778822836378402784425305068086003072593422987873552552919997117955290367469117012629975758575510561227545929390983118884065343800770109219316339702990236722391895288531408867139052143031961881816950559937634548317882447216948705578558741831979808637628761688046240633479319105536987819486481911622464331210870090410567397804910850836906859498344381882095753086432526235759582675224160469195678766071808 := ch_to (ch_of (n := [231, 478, 147, 23, 479, 207, 208, 205, 480, 481, 482, 158, 483, 1377, 484, 485, 486, 487, 488, 1378, 489, 490, 491, 492]) rfl) (by decide +kernel)
set_option maxRecDepth 100000 in
set_option maxHeartbeats 4000000 in
theorem ch_X6_passed_r2 : CH wsX6_passed_r2 53631206146406264209687740514778878044299086589853588799450577936673242869248903495687537167120017414633904806699455115012174484634884022046670162659115008 := ch_to (ch_of (n := [493, 494, 495, 496, 497, 498, 159, 499, 500, 501, 502, 503, 504, 505, 160, 506, 507, 508, 161, 509, 510, 511, 512, 513]) rfl) (by decide +kernel)
set_option maxRecDepth 100000 in
set_option maxHeartbeats 4000000 in
theorem ch_X6_passed_r3 : CH wsX6_passed_r3 27405559408802759929006367135687528809946818120130918452054998673188302955967347152990156722141865164375657495318070106158330529760030909982773873428827996160 := ch_to (ch_of (n := [514, 515, 516, 517, 518, 519, 520, 521, 522, 471, 21, 472, 206, 209, 210, 473, 426, 157, 427, 474]) rfl) (by decide +kernel)
set_option maxRecDepth 100000 in
set_option maxHeartbeats 4000000 in
theorem ch_X6_passed : CH wsX6_passed 9895216120275778822836378402784425305068086003072593422987873552552919997117955290367469117012629975758575510561227545929390983118884065343800770109219316339702990236722391895288531408867139052143031961881816950559937634548317882447216948705578558741831993895202427324125908716782370714001153643614098382121872945046824533207826364633995714342248507222753813536058825849868775452051800925048777118091354270819418112 := ch_to (ch_cons 532 rfl (ch_app (ch_app (ch_app ch_X6_passed_r1 (ch_app ch_X6_passed_r2 ch_X6_passed_r3)) ch_X60) ch_X80)) (by decide +kernel)
set_option maxRecDepth 100000 in
set_option maxHeartbeats 4000000 in
theorem ch_X7_emit : CH wsX7_emit 3599131035634557106248430806148785487095757694641533306480604458089470064537190296255232548886482679053330558481150092984444066678600082804024383704830082365259776 := ch_to (ch_cons 540 rfl (ch_app (ch_of (n := [226, 224]) rfl) ch_X70)) (by decide +kernel)
set_option maxRecDepth 100000 in
set_option maxHeartbeats 4000000 in
theorem ch_X6_operator_r1 : CH wsX6_operator_r1 9895216120275778822836378402784425305068086003072593422987873552552919997117955290367469117012629975758575510561227545929390983118884065343800770109219316339702990236722391895288531408867139052143031961881816950559937634548317882447216948705578558742523012967479465335605886461571531770872430795718379418806063261311211267535129451087127747343497436789749016235862513538636936835658771825549884931529302822367526912 := ch_to (ch_of (n := [231, 546, 481, 482, 158, 483, 1377, 484, 485, 486, 487, 488, 1378, 547, 490, 491, 492, 493, 494, 495, 496, 497, 498, 159]) rfl) (by decide +kernel)
set_option maxRecDepth 100000 in
set_option maxHeartbeats 4000000 in
theorem ch_X6_operator_r2 : CH wsX6_operator_r2 6864796023435305766910965792486544803469859191822282387862068717539859135330757849785282199026408392025217740332643706249795238002142869018726560594648891392 := ch_to (ch_of (n := [499, 500, 501, 502, 503, 504, 505, 160, 506, 507, 508, 161, 509, 510, 511, 512, 513, 514, 515, 516, 517, 518, 519, 520]) rfl) (by decide +kernel)
set_option maxRecDepth 100000 in
set_option maxHeartbeats 4000000 in
theorem ch_X6_operator_r3 : CH wsX6_operator_r3 20594392980391920602422762436598958977187300283269982616171429459777646828689985288774804578673746709335533051314139054516625725919343574641580408445270491136 := ch_to (ch_of (n := [521, 522, 471, 147, 21, 472, 208, 207, 206, 205, 209, 210, 473, 426, 157, 427, 474]) rfl) (by decide +kernel)
set_option maxRecDepth 100000 in
set_option maxHeartbeats 4000000 in
theorem ch_X6_operator : CH wsX6_operator 9895216120275778822836378402784425305068086003072593422987873552552919997117955290367469117012629975758575510561227545929390983118884065343800770109219316339702990236722391895288531408867139052143031961881816950559937634548317882447216948705578558742638185188078960166833062616702021135544998822604067959705707608003572486917825504588038327471267086828283786769871040319789350839742303497096177381658094853907546112 := ch_to (ch_cons 545 rfl (ch_app (ch_app (ch_app ch_X6_operator_r1 (ch_app ch_X6_operator_r2 ch_X6_operator_r3)) ch_X60) ch_X80)) (by decide +kernel)
set_option maxRecDepth 100000 in
set_option maxHeartbeats 4000000 in
theorem ch_X6_part_r1 : CH wsX6_part_r1 21679140847455027569759739910971864437207678367811743615820653903562374562878010672117009713340543854875155020165156622038517928208058394111330885549836512064962560 := ch_to (ch_of (n := [231, 234, 232, 233, 541, 542, 471, 147, 21, 472, 208, 207, 206, 205, 209, 210, 473, 426, 157, 427, 474, 533, 534, 27]) rfl) (by decide +kernel)
set_option maxRecDepth 100000 in
set_option maxHeartbeats 4000000 in
theorem ch_X6_part_r2 : CH wsX6_part_r2 9895216120275778822836378402784425305068086003072593422987873552552919997117955290367469117012629975758575510561227545929390983118884065343800770109219316339702990236722391895288531408867139052143031961881816950559937634548317882447216948705578558741837378505191080578167395793701246227727647244512234999351956382484762324308555992903903796365518289794809006497441166024044066932975648138954891488581971728608002048 := ch_to (ch_of (n := [146, 539, 148, 29, 540, 226, 224, 478, 23, 479, 480, 481, 482, 158, 483, 1377, 484, 485, 486, 487, 488, 1378, 489, 490]) rfl) (by decide +kernel)
set_option maxRecDepth 100000 in
set_option maxHeartbeats 4000000 in
theorem ch_X6_part_r3 : CH wsX6_part_r3 13407801536601566052421935128694719511074771647463397199862644484168310717312225873921884291780004353658480038116661772373203905831406885754594137487704064 := ch_to (ch_of (n := [491, 492, 493, 494, 495, 496, 497, 498, 159, 499, 500, 501, 502, 503, 504, 505, 160, 506, 507, 508, 161, 509, 510, 511]) rfl) (by decide +kernel)
set_option maxRecDepth 100000 in
set_option maxHeartbeats 4000000 in
theorem ch_X6_part_r4 : CH wsX6_part_r4 893371834197198054309098946991773018952417128217064930170611782031525922880291673409154165756516815306196861310546625456828027529603978676799494582389979429329698816 := ch_to (ch_of (n := [512, 513, 514, 515, 516, 517, 518, 519, 520, 521, 522, 535, 536, 537, 28, 543, 544, 30, 545, 546, 547]) rfl) (by decide +kernel)
set_option maxRecDepth 100000 in
set_option maxHeartbeats 4000000 in
theorem ch_X6_part : CH wsX6_part 9895216120275778822836378402784425305068086003072593422987873552552919997117955290367469117012629975758575510561227545929390983118884065343800770109219316339702990236722391895288531408867139052143031961881816950559937634548317882447216948705578558742753329263008050100859418154357950242617740710031846828112472366734235633752028285276551005849944813008032763301753092581077879798694738110986861215201962070420488192 := ch_to (ch_cons 538 rfl (ch_app (ch_app (ch_app (ch_app ch_X6_part_r1 (ch_app ch_X6_part_r2 (ch_app ch_X6_part_r3 ch_X6_part_r4))) ch_X60) ch_X80) ch_X70)) (by decide +kernel)
set_option maxRecDepth 100000 in
set_option maxHeartbeats 4000000 in
theorem ch_X6_sum_r1 : CH wsX6_sum_r1 3298405373425259607612126134261475101689362001024197807662624517517639999039318430122489705670876658586191836853742515309796994372961355114600256703073105446567663412240797298429510469622379684047677320627272316853312544849439294149072316235192852914381962527444656413431975185036971838201736669600973360787286182890801748178274256801220315057055876598636948340061981622331789128057611805741862214097375385098387456 := ch_to (ch_of (n := [232, 536, 537, 28, 146, 539, 148, 29, 540, 226, 224, 543, 544, 30, 545, 231, 546, 481, 482, 158, 483, 1377, 484, 485]) rfl) (by decide +kernel)
set_option maxRecDepth 100000 in
set_option maxHeartbeats 4000000 in
theorem ch_X6_sum_r2 : CH wsX6_sum_r2 6596810746850519215224252268522950203378724002048395615325249035035279998078636860244979411341753317172383673707485030619593988745922710229200513406146210893135326824481594596859020939244759368095354641254544633706625089698878588298144632470385705828348675311653394792543124386752694677143876167018947132497247438857104943354276616560172755955890776731432597018560668831352837453595247111875196251796709066657497088 := ch_to (ch_of (n := [486, 487, 488, 1378, 547, 490, 491, 492, 493, 494, 495, 496, 497, 498, 159, 499, 500, 501, 502, 503, 504, 505, 160, 506]) rfl) (by decide +kernel)
set_option maxRecDepth 100000 in
set_option maxHeartbeats 4000000 in
theorem ch_X6_sum_r3 : CH wsX6_sum_r3 27458771646524646445263653515811359687932525789725150870977042153012393493837494715059745651138900804839470600285248098711086233920391628055429700336855547904 := ch_to (ch_of (n := [507, 508, 161, 509, 510, 511, 512, 513, 514, 515, 516, 517, 518, 519, 520, 521, 522, 471, 147, 21, 472, 208, 207, 206]) rfl) (by decide +kernel)
set_option maxRecDepth 100000 in
set_option maxHeartbeats 4000000 in
theorem ch_X6_sum_r4 : CH wsX6_sum_r4 22578923606363668450101873841938061914296443051442997186960355119971493267567130880905243756673409678691913143079043558741110316981507780134013811109248422553583616 := ch_to (ch_of (n := [205, 209, 210, 473, 426, 157, 427, 474, 538, 234, 233, 541, 542, 533, 534, 27, 478, 23, 479, 480, 489]) rfl) (by decide +kernel)
set_option maxRecDepth 100000 in
set_option maxHeartbeats 4000000 in
theorem ch_X6_sum : CH wsX6_sum 9895216120275778822836378402784425305068086003072593422987873552552919997117955290367469117012629975758575510561227545929390983118884065343800770109219316339702990236722391895288531408867139052143031961881816950559937634548317882447216948705578558742753329263008050100859418154357950242617740710031846828112472366734235633752028285276551005849944813008032763301753092581077879798694738110986861215201962070420488192 := ch_to (ch_cons 535 rfl (ch_app (ch_app (ch_app (ch_app ch_X6_sum_r1 (ch_app ch_X6_sum_r2 (ch_app ch_X6_sum_r3 ch_X6_sum_r4))) ch_X60) ch_X80) ch_X70)) (by decide +kernel)
set_option maxRecDepth 100000 in
set_option maxHeartbeats 4000000 in
theorem ch_X7_land : CH wsX7_land 117936325775673167257548580655883402841153788138013763386756446882675755074754651627691460161801839855664220113541344486494716647138983974410597637928831889315324755968 := ch_to (ch_cons 555 rfl (ch_app (ch_of (n := [224, 226]) rfl) ch_X70)) (by decide +kernel)
set_option maxRecDepth 100000 in
set_option maxHeartbeats 4000000 in
theorem ch_X6_plain_r1 : CH wsX6_plain_r1 3298405373425259607612126134261475101689362001024197807662624517517639999039318430122489705670876658586191836853742515309796994372961355114600256703073105446567663412240797298429510469622379684047677320627272316853312544849439294149072316235192852913944017872980690154275426538069928906784246812062823461900305787795415241165635870752368285914923686407461644261633085581070752548205076373256190810789701725842309120 := ch_to (ch_of (n := [231, 232, 530, 531, 26, 146, 532, 478, 147, 23, 479, 207, 208, 205, 480, 481, 482, 158, 483, 1377, 484, 485, 486, 487]) rfl) (by decide +kernel)
set_option maxRecDepth 100000 in
set_option maxHeartbeats 4000000 in
theorem ch_X6_plain_r2 : CH wsX6_plain_r2 6596810746850519215224252268522950203378724002048395615325249035035279998078636860244979411341753317172383673707485030619593988745922710229200513406146210893135326824481594596859020939244759368095354641254544633706625089698878588298144632470385705827887986539093428465935716898144852713681312093713095277652962010753605127253795401097441341150252527113231795946351500428585912035630289576777696505580845740498878464 := ch_to (ch_of (n := [488, 1378, 489, 490, 491, 492, 493, 494, 495, 496, 497, 498, 159, 499, 500, 501, 502, 503, 504, 505, 160, 506, 507, 508]) rfl) (by decide +kernel)
set_option maxRecDepth 100000 in
set_option maxHeartbeats 4000000 in
theorem ch_X6_plain_r3 : CH wsX6_plain_r3 27457514664531238715446117794830377414468983287014884881529812870678937982834410929195534978632619871899392801749499841208378443222640225629086907772511977472 := ch_to (ch_of (n := [161, 509, 510, 511, 512, 513, 514, 515, 516, 517, 518, 519, 520, 521, 522, 471, 21, 472, 206, 209, 210, 473, 426, 157]) rfl) (by decide +kernel)
set_option maxRecDepth 100000 in
set_option maxHeartbeats 4000000 in
theorem ch_X6_plain_r4 : CH wsX6_plain_r4 3662987493305854599906996664413352079830288507336248511362507402362093937301633035964044650951228927787983797443883796581200070250866689364061003697060750667963957248 := ch_to (ch_of (n := [427, 474, 548, 549, 31, 533, 534, 27, 535, 536, 537, 28, 539, 148, 29, 540, 226, 224, 543, 544, 30, 545, 546, 547]) rfl) (by decide +kernel)
set_option maxRecDepth 100000 in
set_option maxHeartbeats 4000000 in
theorem ch_X6_plain_r5 : CH wsX6_plain_r5 202725554495910972205825675694838028542527421847802665404153146857462013222637914924446292356527467324510666897439809663682061338879343344940245724884296123634453315584 := ch_to (ch_of (n := [538, 234, 233, 541, 542, 550, 551, 552, 32, 554, 33, 555]) rfl) (by decide +kernel)
set_option maxRecDepth 100000 in
set_option maxHeartbeats 4000000 in
theorem ch_X6_plain : CH wsX6_plain 9895216120275778822836378402784425305068086003072593422987873552552919997117955290367469117012629975758575510561227545929390983118884065343800770109219316339702990236722391895288531408867139052143031961881816950559937634548317882447216948705578558977704627872666751904862199674883130747942093709887256788772918660571879167726580122017422604193293067458627438856728346562901571326034036054218982286021674612440432640 := ch_to (ch_cons 553 rfl (ch_app (ch_app (ch_app (ch_app ch_X6_plain_r1 (ch_app ch_X6_plain_r2 (ch_app ch_X6_plain_r3 (ch_app ch_X6_plain_r4 ch_X6_plain_r5)))) ch_X60) ch_X80) ch_X70)) (by decide +kernel)
set_option maxRecDepth 100000 in
set_option maxHeartbeats 4000000 in
theorem ch_X6_test_r1 : CH wsX6_test_r1 199017574349883283655223911411898759188565225971706479469793151431022038109149247443607974230837296277477878921648570136827383053750662514997042947415395175541474590720 := ch_to (ch_of (n := [232, 551, 552, 32, 146, 554, 148, 33, 555, 224, 226, 530, 531, 26, 532, 231, 478, 147, 23, 479, 207, 208, 205, 480]) rfl) (by decide +kernel)
set_option maxRecDepth 100000 in
set_option maxHeartbeats 4000000 in
theorem ch_X6_test_r2 : CH wsX6_test_r2 9895216120275778822836378402784425305068086003072593422987873552552919997117955290367469117012629975758575510561227545929390983118884065343800770109219316339702990236722391895288531408867139052143031961881816950559937634548317882447216948705578558741831979808637635282890434848765557999601968341400034497468138518999682469320929421735008035245488672665082982705403602233638588731075326587186274182356014461718888448 := ch_to (ch_of (n := [481, 482, 158, 483, 1377, 484, 485, 486, 487, 488, 1378, 489, 490, 491, 492, 493, 494, 495, 496, 497, 498, 159, 499, 500]) rfl) (by decide +kernel)
set_option maxRecDepth 100000 in
set_option maxHeartbeats 4000000 in
theorem ch_X6_test_r3 : CH wsX6_test_r3 27459184093741223067643863169946179213879436767289129551448274870159436541323031399141128796105633568100870948177060089021054688175407981628359065475202678784 := ch_to (ch_of (n := [501, 502, 503, 504, 505, 160, 506, 507, 508, 161, 509, 510, 511, 512, 513, 514, 515, 516, 517, 518, 519, 520, 521, 522]) rfl) (by decide +kernel)
set_option maxRecDepth 100000 in
set_option maxHeartbeats 4000000 in
theorem ch_X6_test_r4 : CH wsX6_test_r4 32254484440386776251944573668615265340948567909725766105213666510549018609102303219163157933356072618621500347867505623175627440819855578643416713446738320198939443200 := ch_to (ch_of (n := [471, 21, 472, 206, 209, 210, 473, 426, 157, 427, 474, 539, 29, 540, 553, 548, 549, 31, 533, 534, 27, 535, 536, 537]) rfl) (by decide +kernel)
set_option maxRecDepth 100000 in
set_option maxHeartbeats 4000000 in
theorem ch_X6_test_r5 : CH wsX6_test_r5 915079065810086144263663532463328710094096393862609843172693683469247763908580632822892875553572810822374656605582758603234223468402247210577354307118949474819375104 := ch_to (ch_of (n := [28, 543, 544, 30, 545, 546, 547, 538, 234, 233, 541, 542]) rfl) (by decide +kernel)
set_option maxRecDepth 100000 in
set_option maxHeartbeats 4000000 in
theorem ch_X6_test : CH wsX6_test 9895216120275778822836378402784425305068086003072593422987873552552919997117955290367469117012629975758575510561227545929390983118884065343800770109219316339702990236722391895288531408867139052143031961881816950559937634548317882447216948705578558977704627872666751904862199674883130747942093709887256788772918660571879167726580122017422604193293067458627438856728346562901571326034036054218982286021674612440432640 := ch_to (ch_cons 550 rfl (ch_app (ch_app (ch_app (ch_app ch_X6_test_r1 (ch_app ch_X6_test_r2 (ch_app ch_X6_test_r3 (ch_app ch_X6_test_r4 ch_X6_test_r5)))) ch_X60) ch_X80) ch_X70)) (by decide +kernel)
set_option maxRecDepth 100000 in
set_option maxHeartbeats 4000000 in
theorem ch_X6_clause_r1 : CH wsX6_clause_r1 9895216120275778822836378402784425305068086003072593422987873552552919997117955290367469117012629975758575510561227545929390983118884065343800770109219316339702990236722391895288531408867139052143031961881816950559937634548317882447216948705578558741831981593485020371671543269500866743257106753061147291021795171224731819733312800865523508580564221552772138642667023298225522241907128998878673372448007789043777536 := ch_to (ch_of (n := [231, 233, 523, 232, 529, 478, 147, 23, 479, 207, 208, 205, 480, 481, 482, 158, 483, 1377, 484, 485, 486, 487, 488, 1378]) rfl) (by decide +kernel)
set_option maxRecDepth 100000 in
set_option maxHeartbeats 4000000 in
theorem ch_X6_clause_r2 : CH wsX6_clause_r2 3351950384150391513105483782173679877768692911865849299965661121042077679328056468480471072945001088414623845970963436713461261130537601681575131194851328 := ch_to (ch_of (n := [489, 490, 491, 492, 493, 494, 495, 496, 497, 498, 159, 499, 500, 501, 502, 503, 504, 505, 160, 506, 507, 508, 161, 509]) rfl) (by decide +kernel)
set_option maxRecDepth 100000 in
set_option maxHeartbeats 4000000 in
theorem ch_X6_clause_r3 : CH wsX6_clause_r3 27455838688540044668129769729430800732924865741958139927221462028602259571080122954153163750759991052229495114786269428849032106820575709620072999612600811520 := ch_to (ch_of (n := [510, 511, 512, 513, 514, 515, 516, 517, 518, 519, 520, 521, 522, 471, 21, 472, 206, 209, 210, 473, 426, 157, 427, 474]) rfl) (by decide +kernel)
set_option maxRecDepth 100000 in
set_option maxHeartbeats 4000000 in
theorem ch_X6_clause_r4 : CH wsX6_clause_r4 6296667005778200454969998688949417114608216834703445453712977663303347629539666037248896604800326055980708843980619236179528186058809375773571037448950158003798016 := ch_to (ch_of (n := [524, 148, 24, 525, 526, 527, 25, 528, 223, 530, 531, 26, 146, 532, 533, 534, 27, 535, 536, 537, 28, 539, 29, 540]) rfl) (by decide +kernel)
set_option maxRecDepth 100000 in
set_option maxHeartbeats 4000000 in
theorem ch_X6_clause_r5 : CH wsX6_clause_r5 235866353072033974040161226557856045307705158700061904090226552707549853576896363172364473666643155265926884048156202089341013590997785020137135823042373347129742589952 := ch_to (ch_of (n := [226, 224, 543, 544, 30, 545, 546, 547, 538, 234, 541, 542, 548, 549, 31, 550, 551, 552, 32, 554, 33, 555, 553]) rfl) (by decide +kernel)
set_option maxRecDepth 100000 in
set_option maxHeartbeats 4000000 in
theorem ch_X6_clause : CH wsX6_clause 9895216120275778822836378402784425305068086003072593422987873552552919997117955290367469117012629975758575510561227545929390983118884065343800770109219316339702990236722391895288531408867139052143031961881816950559937634548317882447216948705578558977704631359983963251212325104257526180318770782414113407360285207727149555376374682646650253920943007660029739161457367265079976060209452556708181340874198086408208384 := ch_to (ch_cons 477 rfl (ch_app (ch_app (ch_app (ch_app ch_X6_clause_r1 (ch_app ch_X6_clause_r2 (ch_app ch_X6_clause_r3 (ch_app ch_X6_clause_r4 ch_X6_clause_r5)))) ch_X60) ch_X70) ch_X80)) (by decide +kernel)
set_option maxRecDepth 100000 in
set_option maxHeartbeats 4000000 in
theorem ch_X6_reads_r1 : CH wsX6_reads_r1 384121403652163626471350119287492181230319063913923266410324461982011007746986784644576839511558227947211055359508472724875316273869420169789440 := ch_to (ch_of (n := [233, 234, 232, 231, 235, 471, 147, 21, 472, 208, 207, 206, 205, 209, 210, 473, 426, 157, 427, 474, 475, 476, 22, 146]) rfl) (by decide +kernel)
set_option maxRecDepth 100000 in
set_option maxHeartbeats 4000000 in
theorem ch_X6_reads_r2 : CH wsX6_reads_r2 9895216120275778822836378402784425305068086003072593422987873552552919997117955290367469117012629975758575510561227545929390983118884065343800770109219316339702990236722391895288531408867139052143031961881816950559937634548317882447216948705578558741831981593485020472367054727062301657730829696923243795036795435793874383240137085161467487418252378742998584121879219925676159079303585433126389335992952118086467584 := ch_to (ch_of (n := [477, 523, 529, 478, 23, 479, 480, 481, 482, 158, 483, 1377, 484, 485, 486, 487, 488, 1378, 489, 490, 491, 492, 493, 494]) rfl) (by decide +kernel)
set_option maxRecDepth 100000 in
set_option maxHeartbeats 4000000 in
theorem ch_X6_reads_r3 : CH wsX6_reads_r3 214524824585625056838750962059115512177196346359414355197802311746692971476995613982750148668480069658535603881030628485568056799848792567214974263344758784 := ch_to (ch_of (n := [495, 496, 497, 498, 159, 499, 500, 501, 502, 503, 504, 505, 160, 506, 507, 508, 161, 509, 510, 511, 512, 513, 514, 515]) rfl) (by decide +kernel)
set_option maxRecDepth 100000 in
set_option maxHeartbeats 4000000 in
theorem ch_X6_reads_r4 : CH wsX6_reads_r4 223160627810598981533078037992137959413456763067205442770301174554220538257666521765648539968647273976080680770101862613649380917659452502696800017363520333021184 := ch_to (ch_of (n := [516, 517, 518, 519, 520, 521, 522, 524, 148, 24, 525, 526, 527, 25, 528, 223, 530, 531, 26, 532, 533, 534, 27, 535]) rfl) (by decide +kernel)
set_option maxRecDepth 100000 in
set_option maxHeartbeats 4000000 in
theorem ch_X6_reads_r5 : CH wsX6_reads_r5 29483856498228564654568004637045466411195503549647525750857456682890308176809629332529349088416154061674597519635509835569776967106138035912623867366421300109190889472 := ch_to (ch_of (n := [536, 537, 28, 539, 29, 540, 226, 224, 543, 544, 30, 545, 546, 547, 538, 541, 542, 548, 549, 31, 550, 551, 552, 32]) rfl) (by decide +kernel)
set_option maxRecDepth 100000 in
set_option maxHeartbeats 4000000 in
theorem ch_X6_reads_r6 : CH wsX6_reads_r6 206388570107428042700710016147795954972019129241524085926823782044682571380820640348460055283153213849924051759494897767956203846949012097093203435625225564895666241536 := ch_to (ch_of (n := [554, 33, 555, 553]) rfl) (by decide +kernel)
set_option maxRecDepth 100000 in
set_option maxHeartbeats 4000000 in
theorem ch_X6_reads : CH wsX6_reads 9895216120275778822836378402784425305068086003072593422987873552552919997117955290367469117012629975758575510561227545929390983118884065343800770109219316339702990236722391895288531408867139052143031961881816950559937634548317882447216948705578558977704631359983963251212620816766686972551626265745451236590419596418398092682657239507083516673601265835053741105347820625652511807109116548037164016949180861916381184 := ch_to (ch_cons 470 rfl (ch_app (ch_app (ch_app (ch_app ch_X6_reads_r1 (ch_app ch_X6_reads_r2 (ch_app ch_X6_reads_r3 (ch_app ch_X6_reads_r4 (ch_app ch_X6_reads_r5 ch_X6_reads_r6))))) ch_X60) ch_X70) ch_X80)) (by decide +kernel)
set_option maxRecDepth 100000 in
set_option maxHeartbeats 4000000 in
theorem ch_J7_copyOf_59c91 : CH wsJ7_copyOf_59c91 15450602167219390296076924454565972839413875996260474761424974764158244847661651794772554445842942838779692892617467502981418514893971902307780640691147742087182902991257600 := ch_to (ch_cons 561 rfl (ch_of (n := [562, 563, 564, 565, 566, 567, 194, 568, 426, 157, 427, 569, 571, 570, 163]) rfl)) (by decide +kernel)
set_option maxRecDepth 100000 in
set_option maxHeartbeats 4000000 in
theorem ch_X7_trimmed_r1 : CH wsX7_trimmed_r1 11592669078445569648747995284150714965674053278689768533517397873732155547656277630727511401030081163660629888340606140788575775063667999197472699796793554473355780548460544 := ch_to (ch_of (n := [558, 219, 148, 223, 225, 224, 226, 559, 560, 162, 561, 562, 563, 564, 565, 566, 567, 194, 568, 426, 157, 427, 569, 571]) rfl) (by decide +kernel)
set_option maxRecDepth 100000 in
set_option maxHeartbeats 4000000 in
theorem ch_X7_trimmed_r2 : CH wsX7_trimmed_r2 19322687615086291723476759454659936721494636648532174993286176257257595711447802122680968832909612889812329875134177764292027860451781689950774996584563521847876573412196352 := ch_to (ch_of (n := [570, 163, 572, 220, 221, 222, 166, 167]) rfl) (by decide +kernel)
set_option maxRecDepth 100000 in
set_option maxHeartbeats 4000000 in
theorem ch_X7_trimmed : CH wsX7_trimmed 30915828438834964064893784933133275220780054542374495581857121156777281962124378772014990999780341260822137640621720827336576148648970785428163223891343374105970243364978688 := ch_to (ch_cons 557 rfl (ch_app (ch_app ch_X7_trimmed_r1 ch_X7_trimmed_r2) ch_X70)) (by decide +kernel)
set_option maxRecDepth 100000 in
set_option maxHeartbeats 4000000 in
theorem ch_X8_take : CH wsX8_take 2907354897182427562197295231552018137414565442749272241125960796722557359941431968025588580833199625333965324091915268968349300628127744 := ch_to (ch_cons 450 rfl (ch_app (ch_of (n := [206, 205]) rfl) ch_X80)) (by decide +kernel)
set_option maxRecDepth 100000 in
set_option maxHeartbeats 4000000 in
theorem ch_X8_byteAt : CH wsX8_byteAt 2977131414714805823690030317109266572712515013375254774912983855843898524319965734218799368101553709899974203736933115372991939164919300096 := ch_to (ch_cons 460 rfl (ch_app (ch_of (n := [206, 205]) rfl) ch_X80)) (by decide +kernel)
set_option maxRecDepth 100000 in
set_option maxHeartbeats 4000000 in
theorem ch_X9_dinerOf : CH wsX9_dinerOf 18469690404559912130755800046942318971131127783030678125625846827322203036326145296738008937567089172604310412853252 := ch_to (ch_cons 379 rfl (ch_app (ch_of (n := [178, 380, 381, 2, 145, 382, 174]) rfl) ch_X90)) (by decide +kernel)
set_option maxRecDepth 100000 in
set_option maxHeartbeats 4000000 in
theorem ch_X9_build : CH wsX9_build 2364178089566183002462151017883763523051569141002248770946065190931741702837071426323130733931804745762667957300756512 := ch_to (ch_cons 386 rfl (ch_app (ch_of (n := [178, 387, 388, 5, 145, 389, 174, 373, 144, 374]) rfl) ch_X90)) (by decide +kernel)
set_option maxRecDepth 100000 in
set_option maxHeartbeats 4000000 in
theorem ch_X9_enact : CH wsX9_enact 61832600368276133515125630254911797508782837275302959978515764023224306276632966792579100265310761247399417856504059919682663864486701948389993827005134003262815545602342912 := ch_to (ch_cons 574 rfl (ch_app (ch_of (n := [179, 177]) rfl) ch_X90)) (by decide +kernel)
set_option maxRecDepth 100000 in
set_option maxHeartbeats 4000000 in
theorem ch_X9_singing : CH wsX9_singing 53344115463038834192638814325770062377158066578527265283238048157192844091173323862610173591270622245012499370916994773296786959243868801775771051246722716799320574321590563875177125721356851086232712288039831500746786770482776188241382998788 := ch_to (ch_cons 803 rfl (ch_app (ch_of (n := [178, 614, 399, 8, 145, 400, 380, 381, 2, 382, 174, 401, 402, 9, 403, 176]) rfl) ch_X90)) (by decide +kernel)
set_option maxRecDepth 100000 in
set_option maxHeartbeats 4000000 in
theorem ch_X9_thirdsNow : CH wsX9_thirdsNow 37375513539688496349384501897582287703097920401939305299559232768198728762981606894971767082631556910068419556452360303277099924598698904401565243630379237026734936840670260359595434062065292018436 := ch_to (ch_cons 653 rfl (ch_app (ch_of (n := [611, 612, 47, 145, 613, 178, 614, 399, 8, 400, 380, 381, 2, 382, 174, 401, 402, 9, 403, 176]) rfl) ch_X90)) (by decide +kernel)
set_option maxRecDepth 100000 in
set_option maxHeartbeats 4000000 in
theorem ch_X10_byDraws_r1 : CH wsX10_byDraws_r1 190773423181911113951106599542272313989966153783299679584028366678182878743498705553797870891135860116980197442931476534542321772197880720829401939703439616413228849281681200162040798964829071313543684508903616112461282240978740563673220 := ch_to (ch_of (n := [781, 782, 783, 784, 598, 42, 150, 599, 269, 600, 426, 157, 427, 397, 145, 7, 398, 178, 381, 2, 382, 174, 404, 151]) rfl) (by decide +kernel)
set_option maxRecDepth 100000 in
set_option maxHeartbeats 4000000 in
theorem ch_X10_byDraws_r2 : CH wsX10_byDraws_r2 781865186566608069844283379666687917414620463729708811570047360974334336633452378614476954930437202632139574550883823668170865664 := ch_to (ch_of (n := [10, 405, 266, 406, 11, 407, 180, 408, 409, 12, 410, 179, 177, 373, 144, 374, 411, 13, 412, 265, 425, 428, 418, 419]) rfl) (by decide +kernel)
set_option maxRecDepth 100000 in
set_option maxHeartbeats 4000000 in
theorem ch_X10_byDraws_r3 : CH wsX10_byDraws_r3 203491651394038521547847039511757134922630564035519658480786825136534099815302894521395208466784910021442289522250443343522930278073971462023675103897024460950553660707329654964248806557474817381835974454550639792775402328816973114359840 := ch_to (ch_of (n := [413, 148, 14, 414, 223, 415, 152, 15, 416, 262, 261, 417, 420, 421, 16, 422, 423, 424, 388, 5, 389, 785, 606, 45]) rfl) (by decide +kernel)
set_option maxRecDepth 100000 in
set_option maxHeartbeats 4000000 in
theorem ch_X10_byDraws_r4 : CH wsX10_byDraws_r4 271411514329367987430379573548311468565422083158513312821460027319330651291749906873467745473493345096908347777900140806558650202024067930373255868064713295448259501520262842711365780224 := ch_to (ch_of (n := [607, 615, 608, 46, 609, 176, 610, 433, 17, 434, 175, 611, 612, 47, 613, 614, 399, 8, 400, 380, 401, 402, 9, 403]) rfl) (by decide +kernel)
set_option maxRecDepth 100000 in
set_option maxHeartbeats 4000000 in
theorem ch_X10_byDraws_r5 : CH wsX10_byDraws_r5 2227482298367139875395549172033353419075118188478254521197938431197005483641185740084822959897556847980733073190367778876558675112774431002271932073886482576794933529468759830263710009524224 := ch_to (ch_of (n := [616, 617, 48, 618, 619, 49, 620, 621, 622, 623, 624, 50, 625, 626, 627, 51, 628, 603]) rfl) (by decide +kernel)
set_option maxRecDepth 100000 in
set_option maxHeartbeats 4000000 in
theorem ch_X10_byDraws : CH wsX10_byDraws 400624188682013339297323859038771859378928922947157081093922218205854662812611901532148040931044319146618445383206880134818278176407622556931380600225326469209949555244142327581678149836262115145491267699578189353259677656428994537717668 := ch_to (ch_cons 780 rfl (ch_app (ch_app (ch_app (ch_app (ch_app (ch_app ch_X10_byDraws_r1 (ch_app ch_X10_byDraws_r2 (ch_app ch_X10_byDraws_r3 (ch_app ch_X10_byDraws_r4 ch_X10_byDraws_r5)))) ch_X90) ch_X100) ch_X00) ch_X70) ch_X30)) (by decide +kernel)
set_option maxRecDepth 100000 in
set_option maxHeartbeats 4000000 in
theorem ch_X11_init_r1 : CH wsX11_init_r1 17882961925827942529676266896451568828148334277403131089018157580213092488660781801330852114778518716416 := ch_to (ch_of (n := [165, 166, 167, 168, 169, 145, 334, 335, 217, 336, 337, 195, 196, 146, 338, 339, 241, 242, 149, 340, 341, 342, 300, 274]) rfl) (by decide +kernel)
set_option maxRecDepth 100000 in
set_option maxHeartbeats 4000000 in
theorem ch_X11_init_r2 : CH wsX11_init_r2 4569079277246713365634405382868676497296615442556816932110253105275706338575907492090270177391357940727808 := ch_to (ch_of (n := [153, 343, 301, 302, 154, 344, 319, 320, 155, 345, 194, 346, 347, 348, 349, 350, 170, 171, 172, 174, 175, 176, 173, 177]) rfl) (by decide +kernel)
set_option maxRecDepth 100000 in
set_option maxHeartbeats 4000000 in
theorem ch_X11_init_r3 : CH wsX11_init_r3 106978332225396953105326863904836331115172410060118394960931920090759168 := ch_to (ch_of (n := [178, 179, 180, 181, 182, 183, 197, 198, 199, 200, 201, 147, 231, 218, 219, 148, 232, 233, 234, 235, 202, 203, 204, 205]) rfl) (by decide +kernel)
set_option maxRecDepth 100000 in
set_option maxHeartbeats 4000000 in
theorem ch_X11_init_r4 : CH wsX11_init_r4 217582710436484141080766568134737523233757405167635388565915245751902084199589280219136 := ch_to (ch_of (n := [206, 207, 208, 209, 210, 220, 221, 222, 223, 224, 225, 226, 243, 244, 245, 246, 247, 150, 284, 271, 257, 152, 285, 286]) rfl) (by decide +kernel)
set_option maxRecDepth 100000 in
set_option maxHeartbeats 4000000 in
theorem ch_X11_init_r5 : CH wsX11_init_r5 7708534063606875044147944614091513520563688103932518215250490215929056036751140599103488 := ch_to (ch_of (n := [272, 287, 273, 288, 289, 290, 291, 248, 249, 250, 251, 252, 151, 269, 253, 254, 255, 256, 265, 266, 258, 259, 260, 261]) rfl) (by decide +kernel)
set_option maxRecDepth 100000 in
set_option maxHeartbeats 4000000 in
theorem ch_X11_init_r6 : CH wsX11_init_r6 542557378226345306999257797441876788657694595739327043929897437478564787209046921697753713057202176 := ch_to (ch_of (n := [262, 275, 276, 277, 278, 279, 280, 303, 304, 305, 306, 307, 308, 309, 310, 311, 312, 321, 322, 323, 324, 325, 326, 327]) rfl) (by decide +kernel)
set_option maxRecDepth 100000 in
set_option maxHeartbeats 4000000 in
theorem ch_X11_init_r7 : CH wsX11_init_r7 546812681195752981093125556779405341338292357723303109106442651602488249799843980805878294255763456 := ch_to (ch_of (n := [328]) rfl) (by decide +kernel)
set_option maxRecDepth 100000 in
set_option maxHeartbeats 4000000 in
theorem ch_X11_init : CH wsX11_init 601226901190101306339707032778070279008174732520529886901066465419518563977677441409196850734194865486738489344 := ch_to (ch_cons 164 rfl (ch_app (ch_app (ch_app (ch_app (ch_app (ch_app (ch_app (ch_app (ch_app (ch_app (ch_app (ch_app (ch_app ch_X11_init_r1 (ch_app ch_X11_init_r2 (ch_app ch_X11_init_r3 (ch_app ch_X11_init_r4 (ch_app ch_X11_init_r5 (ch_app ch_X11_init_r6 ch_X11_init_r7)))))) ch_X90) ch_X110) ch_X60) ch_X10) ch_X100) ch_X20) ch_X50) ch_X40) ch_X80) ch_X70) ch_X30) ch_X00)) (by decide +kernel)
set_option maxRecDepth 100000 in
set_option maxHeartbeats 4000000 in
theorem ch_X11_refuse : CH wsX11_refuse 375766809086847074980312280691681051645076627631557136445657018670773694930284836574436266650372637621368295260160 := ch_to (ch_cons 377 rfl (ch_app (ch_of (n := [346, 347, 372, 373, 144, 374]) rfl) ch_X110)) (by decide +kernel)
set_option maxRecDepth 100000 in
set_option maxHeartbeats 4000000 in
theorem ch_X11_accept : CH wsX11_accept 10086914187499587558539759221259527622992000848399893308169959485446385506674945865469147778942350705760203256031608832 := ch_to (ch_cons 392 rfl (ch_app (ch_of (n := [347]) rfl) ch_X110)) (by decide +kernel)
set_option maxRecDepth 100000 in
set_option maxHeartbeats 4000000 in
theorem ch_X11_house_r1 : CH wsX11_house_r1 39392386566423421535824762157921443096764931212311292939915700945874446003238307353420705300574266015697917886595079 := ch_to (ch_of (n := [334, 343, 372, 373, 144, 374, 375, 376, 0, 377, 346, 347, 378, 145, 1, 379, 178, 380, 381, 2, 382, 174, 383, 153]) rfl) (by decide +kernel)
set_option maxRecDepth 100000 in
set_option maxHeartbeats 4000000 in
theorem ch_X11_house_r2 : CH wsX11_house_r2 20134425166357578877474589491173388597064638992936914166783484753088470467641913674572211308058601631356472108255281272 := ch_to (ch_of (n := [3, 384, 280, 385, 4, 386, 387, 388, 5, 389, 390, 391, 6, 392]) rfl) (by decide +kernel)
set_option maxRecDepth 100000 in
set_option maxHeartbeats 4000000 in
theorem ch_X11_house : CH wsX11_house 20173822963961526012690191167671410598367801984047217886980766614536974032740552339608746705739981954954986334466343039 := ch_to (ch_cons 371 rfl (ch_app (ch_app (ch_app (ch_app ch_X11_house_r1 ch_X11_house_r2) ch_X110) ch_X90) ch_X20)) (by decide +kernel)
set_option maxRecDepth 100000 in
set_option maxHeartbeats 4000000 in
theorem ch_X11_of_r1 : CH wsX11_of_r1 40993234120344797725657693517982790021978719590373083191451214545213984481474308418436286925250394366534422989076533609348 := ch_to (ch_of (n := [334, 342, 397, 145, 7, 398, 178, 372, 373, 144, 374, 381, 2, 382, 174, 399, 8, 400, 380, 401, 402, 9, 403, 176]) rfl) (by decide +kernel)
set_option maxRecDepth 100000 in
set_option maxHeartbeats 4000000 in
theorem ch_X11_of_r2 : CH wsX11_of_r2 1299710031594135203992010675612220782610914398757154047991671724560173419404308270559507186984777368003122985383342946848769850368 := ch_to (ch_of (n := [404, 151, 10, 405, 266, 406, 11, 407, 180, 408, 409, 12, 410, 179, 177, 411, 13, 412, 265, 425, 426, 157, 427, 428]) rfl) (by decide +kernel)
set_option maxRecDepth 100000 in
set_option maxHeartbeats 4000000 in
theorem ch_X11_of_r3 : CH wsX11_of_r3 86624774150274176406658981964614317059114149655650527015627173967492131273486970135660054258363858733646066992270415414067052544 := ch_to (ch_of (n := [418, 419, 413, 148, 14, 414, 223, 415, 152, 15, 416, 262, 261, 417, 420, 421, 16, 422, 423, 424]) rfl) (by decide +kernel)
set_option maxRecDepth 100000 in
set_option maxHeartbeats 4000000 in
theorem ch_X11_of : CH wsX11_of 1386334846899034118725121484280892892099690623674166343025046134238673010565188299677240393352370849579903838372798208557189300100 := ch_to (ch_cons 396 rfl (ch_app (ch_app (ch_app (ch_app (ch_app (ch_app ch_X11_of_r1 (ch_app ch_X11_of_r2 ch_X11_of_r3)) ch_X110) ch_X90) ch_X00) ch_X70) ch_X30)) (by decide +kernel)
set_option maxRecDepth 100000 in
set_option maxHeartbeats 4000000 in
theorem ch_X11_score : CH wsX11_score 77634751435400468773609521026574417332541411918757538647816203638602901205647396167110262880250330926675207587556953129824714620993 := ch_to (ch_cons 432 rfl (ch_app (ch_app (ch_of (n := [334, 372, 373, 144, 374, 375, 376, 0, 377, 346, 347, 433, 145, 17, 434, 175, 390, 391, 6, 392]) rfl) ch_X110) ch_X90)) (by decide +kernel)
set_option maxRecDepth 100000 in
set_option maxHeartbeats 4000000 in
theorem ch_X11_chord : CH wsX11_chord 776347514353828160682557193874291302299995593107154880758202457653330168471892219767088778269571873599800962123584026224891716042752 := ch_to (ch_cons 438 rfl (ch_app (ch_app (ch_of (n := [334, 433, 145, 17, 434, 175]) rfl) ch_X110) ch_X90)) (by decide +kernel)
set_option maxRecDepth 100000 in
set_option maxHeartbeats 4000000 in
theorem ch_X11_terms : CH wsX11_terms 79497985469832021365640714706230700794921827582912667797078575706750750736492657780881081545287557177777424495171661972611923942834249 := ch_to (ch_cons 442 rfl (ch_app (ch_app (ch_app (ch_of (n := [443, 444, 334, 343, 372, 373, 144, 374, 375, 376, 0, 377, 346, 347, 383, 153, 3, 384, 280, 390, 391, 6, 392]) rfl) ch_X110) ch_X90) ch_X20)) (by decide +kernel)
set_option maxRecDepth 100000 in
set_option maxHeartbeats 4000000 in
theorem ch_X11_feed : CH wsX11_feed 5087871070069248233845267256438347053217186810397142836971246512779753675655924694147942717714183349088018021214275788783454358167879680 := ch_to (ch_cons 448 rfl (ch_app (ch_app (ch_of (n := [339, 449, 147, 18, 450, 206, 205]) rfl) ch_X110) ch_X80)) (by decide +kernel)
set_option maxRecDepth 100000 in
set_option maxHeartbeats 4000000 in
theorem ch_X11_end : CH wsX11_end 46517678354918840995156791643467538802721054416761943416887436781646235397312673190938705313287741094850306772116248103771493339907489792 := ch_to (ch_cons 454 rfl (ch_app (ch_app (ch_of (n := [339, 372, 373, 144, 374]) rfl) ch_X110) ch_X80)) (by decide +kernel)
set_option maxRecDepth 100000 in
set_option maxHeartbeats 4000000 in
theorem ch_X11_row : CH wsX11_row 5209979975750910191475205760355140947309501278334649672316341256575555136999898782454294809246901035294041853165169751965188182720154959937 := ch_to (ch_cons 458 rfl (ch_app (ch_app (ch_app (ch_of (n := [339, 334, 348, 375, 376, 0, 144, 377, 346, 347, 372, 373, 374, 459, 147, 19, 460, 206, 205, 390, 391, 6, 392]) rfl) ch_X110) ch_X80) ch_X90)) (by decide +kernel)
set_option maxRecDepth 100000 in
set_option maxHeartbeats 4000000 in
theorem ch_X11_ash : CH wsX11_ash 47634102635436893179040485074349488050967763537718638112449245193858404724331445145514356647508985615904439222666553058106156497589113978880 := ch_to (ch_cons 464 rfl (ch_app (ch_of (n := [348]) rfl) ch_X110)) (by decide +kernel)
set_option maxRecDepth 100000 in
set_option maxHeartbeats 4000000 in
theorem ch_X11_law_r1 : CH wsX11_law_r1 10670038990337864072105068657125648113433021719793706092104165940199974064326676093448464215816910164557019721908544013077133354889311826214913 := ch_to (ch_of (n := [334, 339, 338, 375, 376, 0, 144, 377, 346, 347, 372, 373, 374, 469, 146, 20, 470, 233, 234, 232, 231, 235, 471, 147]) rfl) (by decide +kernel)
set_option maxRecDepth 100000 in
set_option maxHeartbeats 4000000 in
theorem ch_X11_law_r2 : CH wsX11_law_r2 1784847391633971000695165197058762984612255824609097471664196492682195438219280167110056895791117693005874360766802325555691301632898694715208574169142182019072 := ch_to (ch_of (n := [21, 472, 208, 207, 206, 205, 209, 210, 473, 426, 157, 427, 474, 475, 476, 22, 477, 523, 529, 478, 23, 479, 480, 481]) rfl) (by decide +kernel)
set_option maxRecDepth 100000 in
set_option maxHeartbeats 4000000 in
theorem ch_X11_law_r3 : CH wsX11_law_r3 9895216120275778822836378402784425305068086003072593422987873552552919997117955290367469117012629975758575510561227545929390983118884065343800770109219316339702990236722391895288531408867139052143031961881816950559937634548317882447216948705578558741831979808637641829665407143948666041518598802138752598140733408843931493601947300083350101116958907965027022307590920064687189988974531775908470001783544548161486848 := ch_to (ch_of (n := [482, 158, 483, 1377, 484, 485, 486, 487, 488, 1378, 489, 490, 491, 492, 493, 494, 495, 496, 497, 498, 159, 499, 500, 501]) rfl) (by decide +kernel)
set_option maxRecDepth 100000 in
set_option maxHeartbeats 4000000 in
theorem ch_X11_law_r4 : CH wsX11_law_r4 82377558828004884995215329536217931296836614735151480740474403577061045816236687006772496154857085356110927137535538698197888573738628040358165185147067957248 := ch_to (ch_of (n := [502, 503, 504, 505, 160, 506, 507, 508, 161, 509, 510, 511, 512, 513, 514, 515, 516, 517, 518, 519, 520, 521, 522, 524]) rfl) (by decide +kernel)
set_option maxRecDepth 100000 in
set_option maxHeartbeats 4000000 in
theorem ch_X11_law_r5 : CH wsX11_law_r5 6296612087396919410092278833743024463462478679221044307269702507595674145194198856000479624323335564077604778809101439318896006442151071196390366628535901110665216 := ch_to (ch_of (n := [148, 24, 525, 526, 527, 25, 528, 223, 530, 531, 26, 532, 533, 534, 27, 535, 536, 537, 28, 539, 29, 540, 226, 224]) rfl) (by decide +kernel)
set_option maxRecDepth 100000 in
set_option maxHeartbeats 4000000 in
theorem ch_X11_law_r6 : CH wsX11_law_r6 1886974913931458315645841355740223685083858192632254591504816809065010424623461485960044915931868838323534177626107035520632119823389918624261152513795094810628586471424 := ch_to (ch_of (n := [543, 544, 30, 545, 546, 547, 538, 541, 542, 548, 549, 31, 550, 551, 552, 32, 554, 33, 555, 553, 556, 34, 557, 558]) rfl) (by decide +kernel)
set_option maxRecDepth 100000 in
set_option maxHeartbeats 4000000 in
theorem ch_X11_law_r7 : CH wsX11_law_r7 30914413202925655986886694350165404619945960177041271769043693908462030326235287321863507069292791794316004751432861672045703521246595865915858912742442607837654412735545344 := ch_to (ch_of (n := [219, 225, 559, 560, 162, 561, 562, 563, 564, 565, 566, 567, 194, 568, 569, 571, 570, 163, 572, 220, 221, 222, 166, 167]) rfl) (by decide +kernel)
set_option maxRecDepth 100000 in
set_option maxHeartbeats 4000000 in
theorem ch_X11_law_r8 : CH wsX11_law_r8 92748900552414200272688445382367696263174255912954439985425744810821186102050460153732989382641865064267646891996887698316654954581564084522449228603666821357105587949666368 := ch_to (ch_of (n := [573, 145, 35, 574, 179, 177, 390, 391, 6, 392]) rfl) (by decide +kernel)
set_option maxRecDepth 100000 in
set_option maxHeartbeats 4000000 in
theorem ch_X11_law : CH wsX11_law 9895216120275778822836378402784425305068086003072593422987873552552919997117955290367469117012629975758575510561227545929390983118884065343800770109219316339702990236722391895288531408867139052143031961881816950559937634548317882447216948705702223942568532075667879996625285386454373465765528503635892236454626159079566341908706283979142257147902305131417990057929801783788935862142061331806565817580258862023311425 := ch_to (ch_cons 468 rfl (ch_app (ch_app (ch_app (ch_app (ch_app (ch_app ch_X11_law_r1 (ch_app ch_X11_law_r2 (ch_app ch_X11_law_r3 (ch_app ch_X11_law_r4 (ch_app ch_X11_law_r5 (ch_app ch_X11_law_r6 (ch_app ch_X11_law_r7 ch_X11_law_r8))))))) ch_X110) ch_X90) ch_X80) ch_X60) ch_X70)) (by decide +kernel)
set_option maxRecDepth 100000 in
set_option maxHeartbeats 4000000 in
theorem ch_X11_orders_r1 : CH wsX11_orders_r1 47253029814353398033608161193158279042113790927168785004557326061085249473204791619081565376940510697341444244260231285746097699047641220907008 := ch_to (ch_of (n := [340, 338, 334, 343, 469, 146, 20, 470, 233, 234, 232, 231, 235, 471, 147, 21, 472, 208, 207, 206, 205, 209, 210, 473]) rfl) (by decide +kernel)
set_option maxRecDepth 100000 in
set_option maxHeartbeats 4000000 in
theorem ch_X11_orders_r2 : CH wsX11_orders_r2 3298405373425259607612126134261475101689362001024197807662624517517639999039318430122489705670876658586191836853742515309796994372961355114600256703073105446567663412240797298429510469622379684047677320627272316853312544849439294149072316235192852913943995054393267880928633226929047082665987128785321919348628572337624820047853005153124000010278577795587781997315383260351341058692708338523495708197677520639754240 := ch_to (ch_of (n := [426, 157, 427, 474, 475, 476, 22, 477, 523, 529, 478, 23, 479, 480, 481, 482, 158, 483, 1377, 484, 485, 486, 487, 488]) rfl) (by decide +kernel)
set_option maxRecDepth 100000 in
set_option maxHeartbeats 4000000 in
theorem ch_X11_orders_r3 : CH wsX11_orders_r3 6596810746850519215224252268522950203378724002048395615325249035035279998078636860244979411341753317172383673707485030619593988745922710229200513406146210893135326824481594596859020939244759368095354641254544633706625089698878588298144632470385705827887986539093428465136549269263958702447623202886044703381320886231372512633851219433346176012392528362433433562097558734673492330356030522912680164249084013953679360 := ch_to (ch_of (n := [1378, 489, 490, 491, 492, 493, 494, 495, 496, 497, 498, 159, 499, 500, 501, 502, 503, 504, 505, 160, 506, 507, 508, 161]) rfl) (by decide +kernel)
set_option maxRecDepth 100000 in
set_option maxHeartbeats 4000000 in
theorem ch_X11_orders_r4 : CH wsX11_orders_r4 5244703736363794579421534763745059642263082634388757758728197867372574526895305464628263465244543982473301240546442966585037833939337001162247962924541729046528 := ch_to (ch_of (n := [509, 510, 511, 512, 513, 514, 515, 516, 517, 518, 519, 520, 521, 522, 524, 148, 24, 525, 526, 527, 25, 528, 223, 530]) rfl) (by decide +kernel)
set_option maxRecDepth 100000 in
set_option maxHeartbeats 4000000 in
theorem ch_X11_orders_r5 : CH wsX11_orders_r5 921370515569642645455250144907670825349859485926485179714295521340322130525300916641542159013004945014572841499521187779909857973402889052187792536098620975844687872 := ch_to (ch_of (n := [531, 26, 532, 533, 534, 27, 535, 536, 537, 28, 539, 29, 540, 226, 224, 543, 544, 30, 545, 546, 547, 538, 541, 542]) rfl) (by decide +kernel)
set_option maxRecDepth 100000 in
set_option maxHeartbeats 4000000 in
theorem ch_X11_orders_r6 : CH wsX11_orders_r6 1978643446736110278707908064054740545673767390420757025511799301833753654585968038913411215355284260387809275255660216967537469931000318575945072274767169173105555494517342209 := ch_to (ch_of (n := [548, 549, 31, 550, 551, 552, 32, 554, 33, 555, 553, 375, 376, 0, 144, 377, 346, 347, 372, 373, 374, 579, 149, 36]) rfl) (by decide +kernel)
set_option maxRecDepth 100000 in
set_option maxHeartbeats 4000000 in
theorem ch_X11_orders_r7 : CH wsX11_orders_r7 59370889966114139949554691100388121570464420566279960884371105168049688582994516802149552544508240916930281941516814223723377255643026670602740743279984062038150647789517799424 := ch_to (ch_of (n := [580, 287, 288, 289, 290, 291, 581, 145, 37, 582, 174, 583, 571, 570, 163, 175, 176, 177, 178, 179, 180, 181, 182, 183]) rfl) (by decide +kernel)
set_option maxRecDepth 100000 in
set_option maxHeartbeats 4000000 in
theorem ch_X11_orders_r8 : CH wsX11_orders_r8 32354773799105642727658697789706166811635742564024128113659768530947069762493649296794630521459689537644986371348204254480286983597098466574329943929078747147420632209250890825856 := ch_to (ch_of (n := [584, 153, 38, 585, 278, 586, 279, 280, 413, 14, 414, 587, 588, 39, 589, 285, 286, 284, 590, 591, 40, 592, 397, 7]) rfl) (by decide +kernel)
set_option maxRecDepth 100000 in
set_option maxHeartbeats 4000000 in
theorem ch_X11_orders_r9 : CH wsX11_orders_r9 10746166499107099471083544912763057150931380050184430987459188886543496250462715551121025940816560592520731814609331389089284868 := ch_to (ch_of (n := [398, 381, 2, 382, 399, 8, 400, 380, 401, 402, 9, 403, 415, 152, 15, 416, 262, 261, 417, 418, 419, 420, 421, 16]) rfl) (by decide +kernel)
set_option maxRecDepth 100000 in
set_option maxHeartbeats 4000000 in
theorem ch_X11_orders_r10 : CH wsX11_orders_r10 8266613047380103159536437540947235105532607728295479837526566331048659820994385131477424896304052155131386893824721887444828584403710642410496611260303030360249333388560753689103360 := ch_to (ch_of (n := [422, 423, 424, 593, 41, 594, 595, 596, 597, 598, 150, 42, 599, 269, 600, 404, 151, 10, 405, 266, 406, 11, 407, 408]) rfl) (by decide +kernel)
set_option maxRecDepth 100000 in
set_option maxHeartbeats 4000000 in
theorem ch_X11_orders_r11 : CH wsX11_orders_r11 138087579101221683673375908887914460783392185716563815158835317800597978441210581777641123843509219739375289723888815431255584698909350597370079718464243624125481392106621770445411594272 := ch_to (ch_of (n := [409, 12, 410, 411, 13, 412, 265, 425, 428, 388, 5, 389, 601, 43, 602, 603, 604, 44, 605, 606, 45, 607, 615, 608]) rfl) (by decide +kernel)
set_option maxRecDepth 100000 in
set_option maxHeartbeats 4000000 in
theorem ch_X11_orders_r12 : CH wsX11_orders_r12 278331180099784829192107528703277029842272022296261084650424856925539976223392560998537281745926046600305757149822872944004788188538807884206251321179596586738759402256403125688084876886016 := ch_to (ch_of (n := [46, 609, 610, 433, 17, 434, 611, 612, 47, 613, 614, 616, 617, 48, 618, 619, 49, 620, 621, 622, 623, 624, 50, 625]) rfl) (by decide +kernel)
set_option maxRecDepth 100000 in
set_option maxHeartbeats 4000000 in
theorem ch_X11_orders_r13 : CH wsX11_orders_r13 17543564386608782884179309763129782316178796139932817115874580604715230457968668316382218576321859463524889857669891141201563832670928987209622273500287676536874708975838245409366259735199808 := ch_to (ch_of (n := [626, 627, 51, 628, 629, 52, 630, 631, 390, 391, 6, 392]) rfl) (by decide +kernel)
set_option maxRecDepth 100000 in
set_option maxHeartbeats 4000000 in
theorem ch_X11_orders : CH wsX11_orders 9895216120275778822836378402784425305068086003072593422987873552552919997117955290367469117012629975758575510561227545929390983118884065343800770109219316339702990236722391895288531408867139052143031961881816950559937634548335704480879535404673648060966031761763903396663269230179167730300055922011693252787102231290324546206580701993847430442238643933365492126080849748896475963577880195630631908983272777276719077 := ch_to (ch_cons 578 rfl (ch_app (ch_app (ch_app (ch_app (ch_app (ch_app (ch_app (ch_app (ch_app (ch_app (ch_app ch_X11_orders_r1 (ch_app ch_X11_orders_r2 (ch_app ch_X11_orders_r3 (ch_app ch_X11_orders_r4 (ch_app ch_X11_orders_r5 (ch_app ch_X11_orders_r6 (ch_app ch_X11_orders_r7 (ch_app ch_X11_orders_r8 (ch_app ch_X11_orders_r9 (ch_app ch_X11_orders_r10 (ch_app ch_X11_orders_r11 (ch_app ch_X11_orders_r12 ch_X11_orders_r13)))))))))))) ch_X110) ch_X10) ch_X60) ch_X70) ch_X80) ch_X90) ch_X20) ch_X30) ch_X100) ch_X00)) (by decide +kernel)
set_option maxRecDepth 100000 in
set_option maxHeartbeats 4000000 in
theorem ch_X11_fault : CH wsX11_fault 142576269300693600582536612678134103902913390851517497830599766184352348975271168929532090106473367984217435949815070208286497131514026723494431833494735642334177235901309905664642876216180736 := ch_to (ch_cons 635 rfl (ch_app (ch_app (ch_of (n := [338]) rfl) ch_X110) ch_X60)) (by decide +kernel)
set_option maxRecDepth 100000 in
set_option maxHeartbeats 4000000 in
theorem ch_X11_stopped : CH wsX11_stopped 2281220308811097609320585802850145662446614253624279965289596258949637583604338693854178722091299768265838255285071088558075729445323795600204740189670123328662546100155972153124634264707530752 := ch_to (ch_cons 639 rfl (ch_app (ch_app (ch_of (n := [340]) rfl) ch_X110) ch_X10)) (by decide +kernel)
set_option maxRecDepth 100000 in
set_option maxHeartbeats 4000000 in
theorem ch_X11_force : CH wsX11_force 36499524940977561749129372845602330599145828057988479444633540143194201337687071797461226361107044834550312284823429801528285019164508091075852122063060562323217937752254281639782729830830702657 := ch_to (ch_cons 643 rfl (ch_app (ch_app (ch_of (n := [334, 372, 373, 144, 374, 375, 376, 0, 377, 346, 347, 390, 391, 6, 392]) rfl) ch_X110) ch_X90)) (by decide +kernel)
set_option maxRecDepth 100000 in
set_option maxHeartbeats 4000000 in
theorem ch_X11_discord_r1 : CH wsX11_discord_r1 8158279569665542635872074852645918115782550288287210340343461962798223569811415242540301922828000692350987373585550953465593447478976887062434066936738613380277831836811221734816514835204 := ch_to (ch_of (n := [341, 334, 617, 150, 48, 618, 269, 399, 145, 8, 400, 380, 381, 2, 382, 174, 401, 402, 9, 403, 176, 619, 49, 620]) rfl) (by decide +kernel)
set_option maxRecDepth 100000 in
set_option maxHeartbeats 4000000 in
theorem ch_X11_discord_r2 : CH wsX11_discord_r2 269767111103607276492836608460825025695209662866030421920690475573784901419858135011210502549832005862058426541910886000222929914519281852503923112435299115880791787823638940879060830526464 := ch_to (ch_of (n := [621, 622, 157, 623, 404, 151, 10, 405, 266, 624, 50, 625, 406, 11, 407, 180, 408, 409, 12, 410, 179, 177, 373, 144]) rfl) (by decide +kernel)
set_option maxRecDepth 100000 in
set_option maxHeartbeats 4000000 in
theorem ch_X11_discord_r3 : CH wsX11_discord_r3 1305099001167711398439725799864494289917035640804361955223227052194333101431825440025482153191791170609595123004944551998669250560 := ch_to (ch_of (n := [374, 411, 13, 412, 265, 425, 426, 427, 428, 418, 419, 413, 148, 14, 414, 223, 415, 152, 15, 416, 262, 261, 417, 420]) rfl) (by decide +kernel)
set_option maxRecDepth 100000 in
set_option maxHeartbeats 4000000 in
theorem ch_X11_discord_r4 : CH wsX11_discord_r4 81230557444945747839211353051066905374114367442650876225697643963318983627117938174999250178832214202072008133634870268427042816 := ch_to (ch_of (n := [421, 16, 422, 423, 424]) rfl) (by decide +kernel)
set_option maxRecDepth 100000 in
set_option maxHeartbeats 4000000 in
theorem ch_X11_discord : CH wsX11_discord 583992676981031661258889094238320603057277059920028825431768903326431087544448352289187253066536442353160603854219945166836934352270766639002024037296084325941959682213354983253753490437549719300 := ch_to (ch_cons 647 rfl (ch_app (ch_app (ch_app (ch_app (ch_app (ch_app (ch_app ch_X11_discord_r1 (ch_app ch_X11_discord_r2 (ch_app ch_X11_discord_r3 ch_X11_discord_r4))) ch_X110) ch_X90) ch_X100) ch_X00) ch_X70) ch_X30)) (by decide +kernel)
set_option maxRecDepth 100000 in
set_option maxHeartbeats 4000000 in
theorem ch_X11_sounds_r1 : CH wsX11_sounds_r1 56063270309469007964938740794530680969860584367629406775211605321514159847868349470099985957787545159573334984656592955657314741079298349128218548782051369837908242134440834892434950019637804270340 := ch_to (ch_of (n := [334, 612, 145, 47, 613, 178, 614, 399, 8, 400, 380, 381, 2, 382, 174, 401, 402, 9, 403, 176, 652, 53, 653, 611]) rfl) (by decide +kernel)
set_option maxRecDepth 100000 in
set_option maxHeartbeats 4000000 in
theorem ch_X11_sounds_r2 : CH wsX11_sounds_r2 7435931899434739381654234891734560782614303648178446991336290593705206467933871817782283914187699808384048416898960948965763498062200744796771085228905795609201148027369384928136527872 := ch_to (ch_of (n := [608, 46, 609, 610, 433, 17, 434, 175]) rfl) (by decide +kernel)
set_option maxRecDepth 100000 in
set_option maxHeartbeats 4000000 in
theorem ch_X11_sounds : CH wsX11_sounds 65407148694366699704615294982386531838133650911257071816685970045163211680905425964132630489497496939560378818282834629921338462437031561222124905936066671150870244748093210179252962269912987992836 := ch_to (ch_cons 651 rfl (ch_app (ch_app (ch_app ch_X11_sounds_r1 ch_X11_sounds_r2) ch_X110) ch_X90)) (by decide +kernel)
set_option maxRecDepth 100000 in
set_option maxHeartbeats 4000000 in
theorem ch_X11_settle_r1 : CH wsX11_settle_r1 15594279454763362563714942011670917614381152124384726325221849946289105824388861433286128785958417855677836998059204617768871791486986397351261810752470696001053539649241644923069790452449281 := ch_to (ch_of (n := [343, 375, 376, 0, 144, 377, 346, 347, 372, 373, 374, 629, 153, 52, 630, 278, 279, 280, 631, 426, 157, 427, 390, 391]) rfl) (by decide +kernel)
set_option maxRecDepth 100000 in
set_option maxHeartbeats 4000000 in
theorem ch_X11_settle_r2 : CH wsX11_settle_r2 10086913586276986678343434265636765134100413253239154346994763111486904773503285916522052161250538404046496765518544960 := ch_to (ch_of (n := [6, 392]) rfl) (by decide +kernel)
set_option maxRecDepth 100000 in
set_option maxHeartbeats 4000000 in
theorem ch_X11_settle : CH wsX11_settle 4784065748658090428345247721333730687962159589597818102151733698870600304020111933708599652825353690065467956401881795043996584750079372774451159517862152982900449631649772544618042913136328493236289 := ch_to (ch_cons 660 rfl (ch_app (ch_app (ch_app ch_X11_settle_r1 ch_X11_settle_r2) ch_X110) ch_X20)) (by decide +kernel)
set_option maxRecDepth 100000 in
set_option maxHeartbeats 4000000 in
theorem ch_X11_stoke_r1 : CH wsX11_stoke_r1 8266866325304824187631090529614814897051165735693741565045331465585171002500628404792494903525191386128971539944976192596331472831649895404438126605179156212625029630292146100633600 := ch_to (ch_of (n := [343, 334, 341, 593, 153, 41, 594, 279, 278, 586, 571, 570, 163, 595, 596, 597, 598, 150, 42, 599, 269, 600, 426, 157]) rfl) (by decide +kernel)
set_option maxRecDepth 100000 in
set_option maxHeartbeats 4000000 in
theorem ch_X11_stoke_r2 : CH wsX11_stoke_r2 346588959865212610080470322896317267190850279113083249191052273114751630075795300363166227998117153747932960351045113379939163268 := ch_to (ch_of (n := [427, 397, 145, 7, 398, 178, 381, 2, 382, 174, 404, 151, 10, 405, 266, 406, 11, 407, 180, 408, 409, 12, 410, 179]) rfl) (by decide +kernel)
set_option maxRecDepth 100000 in
set_option maxHeartbeats 4000000 in
theorem ch_X11_stoke_r3 : CH wsX11_stoke_r3 782515748271893773246726933319205668214191592488223579766163650020604020931685905167473847632669618765756056479477092594512617472 := ch_to (ch_of (n := [177, 373, 144, 374, 411, 13, 412, 265, 425, 428, 418, 419, 413, 148, 14, 414, 223, 415, 152, 15, 416, 262, 261, 417]) rfl) (by decide +kernel)
set_option maxRecDepth 100000 in
set_option maxHeartbeats 4000000 in
theorem ch_X11_stoke_r4 : CH wsX11_stoke_r4 8372115039544931827238311553139283902797209577078230657257145614694677249859019726875728788339036335608597057881246955232433598513814224515697401591210843419044705615703727377983039138468727554637857 := ch_to (ch_of (n := [420, 421, 16, 422, 423, 424, 388, 5, 389, 658, 659, 54, 660, 375, 376, 0, 377, 346, 347, 372, 629, 52, 630, 280]) rfl) (by decide +kernel)
set_option maxRecDepth 100000 in
set_option maxHeartbeats 4000000 in
theorem ch_X11_stoke_r5 : CH wsX11_stoke_r5 8911016831293350036408538292383381493932086928219843614412485386522021828606546796504087646705250980056999745561649769947208983649771847442420582770832803500020959286802099561999953314185280 := ch_to (ch_of (n := [631, 390, 391, 6, 392]) rfl) (by decide +kernel)
set_option maxRecDepth 100000 in
set_option maxHeartbeats 4000000 in
theorem ch_X11_stoke : CH wsX11_stoke 8970123265088925038496263559554994967348086847527215729749030886506999125247456920577933519768313299610390747989578190682104798635918783689946139436122289968354999258649644541978660402643506733120741 := ch_to (ch_cons 657 rfl (ch_app (ch_app (ch_app (ch_app (ch_app (ch_app (ch_app (ch_app ch_X11_stoke_r1 (ch_app ch_X11_stoke_r2 (ch_app ch_X11_stoke_r3 (ch_app ch_X11_stoke_r4 ch_X11_stoke_r5)))) ch_X110) ch_X20) ch_X90) ch_X100) ch_X00) ch_X70) ch_X30)) (by decide +kernel)
set_option maxRecDepth 100000 in
set_option maxHeartbeats 4000000 in
theorem ch_X11_damp_r1 : CH wsX11_damp_r1 59098432044096987929408086859831538996953632080663593418731041807868382914638150515522847422702754840288562813388783897839921417140619816168645501904229434732737496782289195201724416 := ch_to (ch_of (n := [343, 334, 341, 593, 153, 41, 594, 279, 278, 586, 571, 570, 163, 595, 596, 597, 601, 150, 43, 602, 603, 418, 157, 419]) rfl) (by decide +kernel)
set_option maxRecDepth 100000 in
set_option maxHeartbeats 4000000 in
theorem ch_X11_damp_r2 : CH wsX11_damp_r2 8372115032861669203768299025832880183509673456629165461092262903885313126029261643907814805497295034588083302025914039653509446609405144749183891650331142782993017007798913297216474069404985877069989 := ch_to (ch_of (n := [373, 144, 374, 397, 145, 7, 398, 178, 381, 2, 382, 174, 388, 5, 389, 658, 659, 54, 660, 375, 376, 0, 377, 346]) rfl) (by decide +kernel)
set_option maxRecDepth 100000 in
set_option maxHeartbeats 4000000 in
theorem ch_X11_damp_r3 : CH wsX11_damp_r3 15594279454763362563714942011670917614381152124384726325221849946289105834475178602476973622184526330034924693596971664388537824761712638475671061561025072151230850095939949426177820841738304 := ch_to (ch_of (n := [347, 372, 629, 52, 630, 280, 631, 426, 427, 390, 391, 6, 392]) rfl) (by decide +kernel)
set_option maxRecDepth 100000 in
set_option maxHeartbeats 4000000 in
theorem ch_X11_damp : CH wsX11_damp 84917166777476924294940256155545428945248549534308512226702739288150762214745506873976561436473517891473417465902493175026613426757594670760381420773166089078548891110873503735920884078531297658536165 := ch_to (ch_cons 664 rfl (ch_app (ch_app (ch_app (ch_app ch_X11_damp_r1 (ch_app ch_X11_damp_r2 ch_X11_damp_r3)) ch_X110) ch_X20) ch_X90)) (by decide +kernel)
set_option maxRecDepth 100000 in
set_option maxHeartbeats 4000000 in
theorem ch_X11_buy_r1 : CH wsX11_buy_r1 204331476954931741477342362089022179282389250209148885436423852058570373789062311340064115895830480087274824783606791785382272327656887817564906011153583701988930711823648785845714944 := ch_to (ch_of (n := [343, 334, 341, 593, 153, 41, 594, 279, 278, 586, 571, 570, 163, 595, 596, 597, 604, 150, 44, 605, 600, 426, 157, 427]) rfl) (by decide +kernel)
set_option maxRecDepth 100000 in
set_option maxHeartbeats 4000000 in
theorem ch_X11_buy_r2 : CH wsX11_buy_r2 8372115032861669203768299025832880183509673456629165461092262903885313126029261643907814805497295034588083302025914039653509446609405144749183891650331142782993017007798913297216474069404985877069989 := ch_to (ch_of (n := [373, 144, 374, 397, 145, 7, 398, 178, 381, 2, 382, 174, 388, 5, 389, 658, 659, 54, 660, 375, 376, 0, 377, 346]) rfl) (by decide +kernel)
set_option maxRecDepth 100000 in
set_option maxHeartbeats 4000000 in
theorem ch_X11_buy_r3 : CH wsX11_buy_r3 15594279454763362563714942011670917614381152124384726325221849426413538186822392431524314095356331935702973060631363819923616459520217424920866741565823927625059956835087894163008102909083712 := ch_to (ch_of (n := [347, 372, 629, 52, 630, 280, 631, 390, 391, 6, 392]) rfl) (by decide +kernel)
set_option maxRecDepth 100000 in
set_option maxHeartbeats 4000000 in
theorem ch_X11_buy : CH wsX11_buy 1233092942712791558099825738894889464803080898815498987176220127092336139568004213292903533829526787083816004761524185806698320170571714298930624940771999481998133912072934281002806017218923122615386341 := ch_to (ch_cons 668 rfl (ch_app (ch_app (ch_app (ch_app ch_X11_buy_r1 (ch_app ch_X11_buy_r2 ch_X11_buy_r3)) ch_X110) ch_X20) ch_X90)) (by decide +kernel)
set_option maxRecDepth 100000 in
set_option maxHeartbeats 4000000 in
theorem ch_X11_pass_r1 : CH wsX11_pass_r1 136773187879966171992037709971892517981404019645772232137746914175072233845563393452629337047913355923278466597038428417779543821045906033870740929788494909308372644855198701342943084544 := ch_to (ch_of (n := [343, 334, 341, 593, 153, 41, 594, 279, 278, 586, 571, 570, 163, 595, 596, 597, 606, 150, 45, 607, 615, 600, 426, 157]) rfl) (by decide +kernel)
set_option maxRecDepth 100000 in
set_option maxHeartbeats 4000000 in
theorem ch_X11_pass_r2 : CH wsX11_pass_r2 134909050175458843067155404464327031341716651902666108559549467477440554747493785655267704050856844627665062977124197238104676464764368380520154694628648775691855356758913108269422739716 := ch_to (ch_of (n := [427, 608, 145, 46, 609, 176, 610, 433, 17, 434, 175, 611, 612, 47, 613, 178, 614, 399, 8, 400, 380, 381, 2, 382]) rfl) (by decide +kernel)
set_option maxRecDepth 100000 in
set_option maxHeartbeats 4000000 in
theorem ch_X11_pass_r3 : CH wsX11_pass_r3 278197333325595003883237752475225807748184964830593872605712052930214674462119132625506245775136921066716620267283553584715727842894102403607009346726563571067473316698719027284671924798976 := ch_to (ch_of (n := [174, 401, 402, 9, 403, 616, 617, 48, 618, 269, 619, 49, 620, 621, 622, 623, 404, 151, 10, 405, 266, 624, 50, 625]) rfl) (by decide +kernel)
set_option maxRecDepth 100000 in
set_option maxHeartbeats 4000000 in
theorem ch_X11_pass_r4 : CH wsX11_pass_r4 781886257725613259018374971967131461991514994128859726934533047370569971629399139621340196295398842589532258447105392027061221376 := ch_to (ch_of (n := [406, 11, 407, 180, 408, 409, 12, 410, 179, 177, 373, 144, 374, 411, 13, 412, 265, 425, 428, 418, 419, 413, 148, 14]) rfl) (by decide +kernel)
set_option maxRecDepth 100000 in
set_option maxHeartbeats 4000000 in
theorem ch_X11_pass_r5 : CH wsX11_pass_r5 1196016435215237708437016160917008588630938105131099718089412492004414052272558858520255056741028240004646199544760210432658307321190295014123773157494594347374300742235998105878534422941385770500128 := ch_to (ch_of (n := [414, 223, 415, 152, 15, 416, 262, 261, 417, 420, 421, 16, 422, 423, 424, 626, 627, 51, 628, 603, 388, 5, 389, 658]) rfl) (by decide +kernel)
set_option maxRecDepth 100000 in
set_option maxHeartbeats 4000000 in
theorem ch_X11_pass_r6 : CH wsX11_pass_r6 7176098615189995915136190300143125026107780577206151091035237385694974963010047335672167178887809819131746150278979881767630603780636096522387471958970073542621084082636400327492924880132299592564801 := ch_to (ch_of (n := [659, 54, 660, 375, 376, 0, 377, 346, 347, 372, 629, 52, 630, 280, 631, 390, 391, 6, 392]) rfl) (by decide +kernel)
set_option maxRecDepth 100000 in
set_option maxHeartbeats 4000000 in
theorem ch_X11_pass : CH wsX11_pass 19603905357680053450430538462496516848649255511197098603828288994653927264412681713564703629280559577096963775129785524689065365919862299840503735737629872240397928361386990683339361783992690540166774629 := ch_to (ch_cons 672 rfl (ch_app (ch_app (ch_app (ch_app (ch_app (ch_app (ch_app (ch_app ch_X11_pass_r1 (ch_app ch_X11_pass_r2 (ch_app ch_X11_pass_r3 (ch_app ch_X11_pass_r4 (ch_app ch_X11_pass_r5 ch_X11_pass_r6))))) ch_X110) ch_X20) ch_X90) ch_X100) ch_X00) ch_X70) ch_X30)) (by decide +kernel)
set_option maxRecDepth 100000 in
set_option maxHeartbeats 4000000 in
theorem ch_X11_undo_r1 : CH wsX11_undo_r1 1881171191292419495787975462098038225574774773769005379134924873967287721960257211742971546106113312492089855883012330364765290155973915292799725196769048354920100786699490905367883039862047392293848088577 := ch_to (ch_of (n := [343, 334, 677, 153, 55, 678, 280, 279, 278, 586, 571, 570, 163, 595, 596, 597, 375, 376, 0, 144, 377, 346, 347, 372]) rfl) (by decide +kernel)
set_option maxRecDepth 100000 in
set_option maxHeartbeats 4000000 in
theorem ch_X11_undo_r2 : CH wsX11_undo_r2 17652156493767240936826418576739485679422507977942842078109977947484999729199751570530697846055026511157015052491423808 := ch_to (ch_of (n := [373, 374, 390, 391, 6, 392]) rfl) (by decide +kernel)
set_option maxRecDepth 100000 in
set_option maxHeartbeats 4000000 in
theorem ch_X11_undo : CH wsX11_undo 2194699723174489411752637887787743160264197607856804800653863469206732225404516427462311554026976763466979717370193684641864937598184891040583587613879241829962423927723282748612679598064886199605102903361 := ch_to (ch_cons 676 rfl (ch_app (ch_app (ch_app (ch_app ch_X11_undo_r1 ch_X11_undo_r2) ch_X110) ch_X20) ch_X90)) (by decide +kernel)
set_option maxRecDepth 100000 in
set_option maxHeartbeats 4000000 in
theorem ch_X11_least_r1 : CH wsX11_least_r1 1244081214508053426547780505136749180847629805660388104587148345910115789666820567974272076014404874917298620893776043430224557074739952866111039626590739361363708264263748028442213003371102767662977905590400 := ch_to (ch_of (n := [334, 344, 397, 145, 7, 398, 178, 372, 373, 144, 374, 683, 154, 56, 684, 310, 312, 311, 685, 686, 57, 687, 307, 308]) rfl) (by decide +kernel)
set_option maxRecDepth 100000 in
set_option maxHeartbeats 4000000 in
theorem ch_X11_least_r2 : CH wsX11_least_r2 1284212866588958375791257295625031412487875928423626430541572486100764686107686267467159148628230139505825923171213082644405968515694027932643496422812750912432943372491880803270505854833458761175350904888324 := ch_to (ch_of (n := [309, 688, 426, 157, 427, 406, 11, 407, 180, 408, 409, 12, 410, 179, 177, 404, 151, 10, 405, 266, 381, 2, 382, 174]) rfl) (by decide +kernel)
set_option maxRecDepth 100000 in
set_option maxHeartbeats 4000000 in
theorem ch_X11_least_r3 : CH wsX11_least_r3 801469545009047723358093734781395870856276464863428666100718778307842641275438945756774134605286704847504283040357925859199410176 := ch_to (ch_of (n := [411, 13, 412, 265, 425, 428, 418, 419, 413, 148, 14, 414, 223, 415, 152, 15, 416, 262, 261, 417, 420, 421, 16, 422]) rfl) (by decide +kernel)
set_option maxRecDepth 100000 in
set_option maxHeartbeats 4000000 in
theorem ch_X11_least_r4 : CH wsX11_least_r4 38526385997668751273737718868750942374636277852708792916247174583022940583230572492574808019207003853532287478310674890949264955391365838440912313157200845005603699270376540041819012297669878787250813870801408 := ch_to (ch_of (n := [423, 424, 689, 690, 58, 691, 692, 402, 9, 403, 176]) rfl) (by decide +kernel)
set_option maxRecDepth 100000 in
set_option maxHeartbeats 4000000 in
theorem ch_X11_least : CH wsX11_least 41074745904806215550698495064756864083791906648174426614353107485129145507225512719291820883666244008802325647249426483684411345546377578639525526344122006184921741921276031243316471204802008450543027927252612 := ch_to (ch_cons 682 rfl (ch_app (ch_app (ch_app (ch_app (ch_app (ch_app (ch_app ch_X11_least_r1 (ch_app ch_X11_least_r2 (ch_app ch_X11_least_r3 ch_X11_least_r4))) ch_X110) ch_X90) ch_X50) ch_X00) ch_X70) ch_X30)) (by decide +kernel)
set_option maxRecDepth 100000 in
set_option maxHeartbeats 4000000 in
theorem ch_X11_rings_r1 : CH wsX11_rings_r1 41423570224693441369522847540670259100681795528511551077424903119988110753235689672301685626625916094666275551130630728394880562507727823477347576042824061838432058954609976400473506681199699784991113313374961796 := ch_to (ch_of (n := [334, 345, 397, 145, 7, 398, 178, 697, 155, 59, 698, 325, 324, 699, 700, 60, 701, 702, 622, 157, 623, 381, 2, 382]) rfl) (by decide +kernel)
set_option maxRecDepth 100000 in
set_option maxHeartbeats 4000000 in
theorem ch_X11_rings_r2 : CH wsX11_rings_r2 294567610486708916405495433441287205270819028958097736131903730571849000640636526038365326031544953326428828770195705600540963352705039801119931949127374470099899387201610228973960656800829415772840601979541520384 := ch_to (ch_of (n := [174, 703, 704, 61, 705, 373, 144, 374]) rfl) (by decide +kernel)
set_option maxRecDepth 100000 in
set_option maxHeartbeats 4000000 in
theorem ch_X11_rings : CH wsX11_rings 336319939205249131119220842849637472413097720724285735575547276248278907153515783262049115816688218699898013071106619179973728125692457571693341284146889976093004466827700747754187138907838733558542144991009964164 := ch_to (ch_cons 696 rfl (ch_app (ch_app (ch_app (ch_app ch_X11_rings_r1 ch_X11_rings_r2) ch_X110) ch_X90) ch_X40)) (by decide +kernel)
set_option maxRecDepth 100000 in
set_option maxHeartbeats 4000000 in
theorem ch_X11_tune_r1 : CH wsX11_tune_r1 176667850173322345127933160620631388263818849489018026692760309141991433903876874810631078281848775574463414785097330662633254900968298931623270240749767139210287466712314064071042585715569949925306535161466014369054724 := ch_to (ch_of (n := [345, 334, 372, 373, 144, 374, 710, 155, 62, 711, 327, 326, 725, 571, 570, 163, 712, 713, 63, 714, 381, 145, 2, 382]) rfl) (by decide +kernel)
set_option maxRecDepth 100000 in
set_option maxHeartbeats 4000000 in
theorem ch_X11_tune_r2 : CH wsX11_tune_r2 529330274165112449768366664120897252832026626611740668688862194237187957574266367322473826692648246611572400583350256813693533788833752283781303315827708063605568862641843220741401557531543153747887896246381763467673728 := ch_to (ch_of (n := [174, 715, 716, 717, 718, 719, 720, 702, 622, 157, 623, 721, 426, 427, 722, 723, 64, 724, 397, 7, 398, 178, 726, 65]) rfl) (by decide +kernel)
set_option maxRecDepth 100000 in
set_option maxHeartbeats 4000000 in
theorem ch_X11_tune_r3 : CH wsX11_tune_r3 706003489677054374237277210551156965837838477962894381170850482715673457590299624976468480248807499242724466374570999144530824216469597736906638272121736526607699022870679030143158018123175881930939339869708632591433728 := ch_to (ch_of (n := [727]) rfl) (by decide +kernel)
set_option maxRecDepth 100000 in
set_option maxHeartbeats 4000000 in
theorem ch_X11_tune : CH wsX11_tune 1412004307205070761900812742679505641559560715837632122017489049214675220259305867214954307420571095554047310559520955210876794403041457010472249104756644856712252130850175124754251027868129463319212845060675169008222340 := ch_to (ch_cons 709 rfl (ch_app (ch_app (ch_app (ch_app ch_X11_tune_r1 (ch_app ch_X11_tune_r2 ch_X11_tune_r3)) ch_X110) ch_X90) ch_X40)) (by decide +kernel)
set_option maxRecDepth 100000 in
set_option maxHeartbeats 4000000 in
theorem ch_X11_hear : CH wsX11_hear 11296055834832869987796435368818511453405415647406310098733607723450775321444793999623495683980919987901244167407059856880566823784687372025180755396723165819227771455761695987573377107172794468267191477035074414320812097 := ch_to (ch_cons 731 rfl (ch_app (ch_app (ch_of (n := [334, 372, 373, 144, 374, 375, 376, 0, 377, 346, 347, 390, 391, 6, 392]) rfl) ch_X110) ch_X90)) (by decide +kernel)
set_option maxRecDepth 100000 in
set_option maxHeartbeats 4000000 in
theorem ch_X11_forget : CH wsX11_forget 180736893357325919804742965901096183254486650358500961579737723575212405143116703993975930943694719806137463392491398095227756337209429022574339108131339632047773236171891257126896352535103998714862006799138140401778556928 := ch_to (ch_cons 735 rfl (ch_app (ch_app (ch_of (n := [334]) rfl) ch_X110) ch_X90)) (by decide +kernel)
set_option maxRecDepth 100000 in
set_option maxHeartbeats 4000000 in
theorem ch_X11_hill : CH wsX11_hill 182182788504184527163180909628304952720522543561368969272375625363814104384261637625927738391244277564586563113801650733281753978302585073544712629348107588160239188550705383545899452147061536497920409761574565485898257924100 := ch_to (ch_cons 739 rfl (ch_app (ch_app (ch_app (ch_of (n := [345, 334, 740, 155, 66, 741, 328, 742, 743, 67, 744, 381, 145, 2, 382, 174]) rfl) ch_X110) ch_X40) ch_X90)) (by decide +kernel)
set_option maxRecDepth 100000 in
set_option maxHeartbeats 4000000 in
theorem ch_X11_ask_r1 : CH wsX11_ask_r1 210424012512626846088190826508146637931135609599786895524979123098782493962304481325210441456782239704645142514917124778251647230315418692603403503195020476769215006702975080539132321921813427960155978411057751445875281719459840 := ch_to (ch_of (n := [345, 334, 372, 373, 144, 374, 749, 155, 68, 750, 755, 418, 157, 419, 751, 740, 66, 741, 328, 742, 743, 67, 744, 381]) rfl) (by decide +kernel)
set_option maxRecDepth 100000 in
set_option maxHeartbeats 4000000 in
theorem ch_X11_ask_r2 : CH wsX11_ask_r2 165826822602919960724530890186119352520724519650526066253255680331151682568430148381288892544563680201010347211922654341319622611331446541337749693204814062845435954442651583550358495204087415741806114576498026950067265160085508 := ch_to (ch_of (n := [145, 2, 382, 174, 752, 753, 69, 754]) rfl) (by decide +kernel)
set_option maxRecDepth 100000 in
set_option maxHeartbeats 4000000 in
theorem ch_X11_ask : CH wsX11_ask 377731431745930020747762171070927770385080883890049801655496014861462316553667041745617984827636667050307367826946144040791535175485795314594798390718950538231169903892539555909732793284938490615101767227890048475172807165083652 := ch_to (ch_cons 748 rfl (ch_app (ch_app (ch_app (ch_app ch_X11_ask_r1 ch_X11_ask_r2) ch_X110) ch_X90) ch_X40)) (by decide +kernel)
set_option maxRecDepth 100000 in
set_option maxHeartbeats 4000000 in
theorem ch_X11_chance_r1 : CH wsX11_chance_r1 1546453568502659290871053787335695904650413806112334515001790116002511691152445726618648415044159577645993638002968794611680071846979248331705713992994771382265168151596911931350254783873051703344162199852275274378586433935808397572 := ch_to (ch_of (n := [345, 334, 767, 372, 373, 144, 374, 760, 155, 70, 761, 762, 763, 764, 765, 766, 381, 145, 2, 382, 174, 399, 8, 400]) rfl) (by decide +kernel)
set_option maxRecDepth 100000 in
set_option maxHeartbeats 4000000 in
theorem ch_X11_chance_r2 : CH wsX11_chance_r2 36151500755842107529837819175482172499591743917092833583719647738337500254564691561444345556002767464733848129227850777088 := ch_to (ch_of (n := [380, 401, 402, 9, 403, 176]) rfl) (by decide +kernel)
set_option maxRecDepth 100000 in
set_option maxHeartbeats 4000000 in
theorem ch_X11_chance : CH wsX11_chance 1549485830401684113010016637899099229953649911614515563070421077014281321919411306474763411936403027798240684388138129495479205558283598580242859927306859781104803575832151967582238926751178050694068822603694487611380170381173195524 := ch_to (ch_cons 759 rfl (ch_app (ch_app (ch_app ch_X11_chance_r1 ch_X11_chance_r2) ch_X110) ch_X90)) (by decide +kernel)
set_option maxRecDepth 100000 in
set_option maxHeartbeats 4000000 in
theorem ch_X11_compare_r1 : CH wsX11_compare_r1 74520868430434028887151037277818854664622917272975462960208510119141228930595409750614427336774694772281641951614487645860437362481379277398778162143839600325452263766031218836926808609613171618538950979423716474491474730910075588608 := ch_to (ch_of (n := [334, 344, 372, 373, 144, 374, 409, 145, 12, 410, 179, 177, 772, 154, 71, 773, 307, 688, 426, 157, 427, 692, 418, 419]) rfl) (by decide +kernel)
set_option maxRecDepth 100000 in
set_option maxHeartbeats 4000000 in
theorem ch_X11_compare_r2 : CH wsX11_compare_r2 780146647627758388474236706019315668980178965090895226855240416610974076508544943564046844554892969793766283829848706046968783876 := ch_to (ch_of (n := [381, 2, 382, 174, 404, 151, 10, 405, 266, 411, 13, 412, 265, 425, 428, 413, 148, 14, 414, 223, 415, 152, 15, 416]) rfl) (by decide +kernel)
set_option maxRecDepth 100000 in
set_option maxHeartbeats 4000000 in
theorem ch_X11_compare_r3 : CH wsX11_compare_r3 84276703349131213383181778790481914325643656221761400124728087966704108327695694895715635979066323728797496366710937563938488320 := ch_to (ch_of (n := [262, 261, 417, 420, 421, 16, 422, 423, 424]) rfl) (by decide +kernel)
set_option maxRecDepth 100000 in
set_option maxHeartbeats 4000000 in
theorem ch_X11_compare : CH wsX11_compare 86941013168839700368342873185518875106678005409909035849320926423349636552086424841261454607403866595886408220542513121112268643633300460491141086018941672810460455658810004377073421731672469024993145479507515092352215772747685557252 := ch_to (ch_cons 771 rfl (ch_app (ch_app (ch_app (ch_app (ch_app (ch_app (ch_app ch_X11_compare_r1 (ch_app ch_X11_compare_r2 ch_X11_compare_r3)) ch_X110) ch_X90) ch_X50) ch_X00) ch_X70) ch_X30)) (by decide +kernel)
set_option maxRecDepth 100000 in
set_option maxHeartbeats 4000000 in
theorem ch_X11_days_r1 : CH wsX11_days_r1 1589778526515925949592554996185602616583051281527497329806444700542218720018254518253583564407063895740280096805307965059996298018429555428628769379082967301335119330243377705612285252884690325980271466175359977079560696711588524064769 := ch_to (ch_of (n := [778, 337, 334, 341, 350, 349, 372, 373, 144, 374, 375, 376, 0, 377, 346, 347, 581, 145, 37, 582, 174, 583, 571, 570]) rfl) (by decide +kernel)
set_option maxRecDepth 100000 in
set_option maxHeartbeats 4000000 in
theorem ch_X11_days_r2 : CH wsX11_days_r2 200312094341006669648661929519385929689464461472464663562866702399814935796803805143414787834979064077507993713750895798862653087235345577183926521809662207246166643582958580606634214110124607308833906896480242158111678100847010940715008 := ch_to (ch_of (n := [163, 175, 176, 177, 178, 179, 180, 181, 182, 183, 779, 150, 72, 780, 781, 782, 783, 784, 598, 42, 599, 269, 600, 426]) rfl) (by decide +kernel)
set_option maxRecDepth 100000 in
set_option maxHeartbeats 4000000 in
theorem ch_X11_days_r3 : CH wsX11_days_r3 346604825208463576046845168863710053695806160825533677490004610577895084156403607787588674931743361942922772823809009934288305284 := ch_to (ch_of (n := [157, 427, 397, 7, 398, 381, 2, 382, 404, 151, 10, 405, 266, 406, 11, 407, 408, 409, 12, 410, 411, 13, 412, 265]) rfl) (by decide +kernel)
set_option maxRecDepth 100000 in
set_option maxHeartbeats 4000000 in
theorem ch_X11_days_r4 : CH wsX11_days_r4 866438125622383787762230282922253073292214374925980214610652003162041546788287108163996811344935743333615503725418076038810943520 := ch_to (ch_of (n := [425, 428, 418, 419, 413, 148, 14, 414, 223, 415, 152, 15, 416, 262, 261, 417, 420, 421, 16, 422, 423, 424, 388, 5]) rfl) (by decide +kernel)
set_option maxRecDepth 100000 in
set_option maxHeartbeats 4000000 in
theorem ch_X11_days_r5 : CH wsX11_days_r5 203491651394038521547847039511757134922630564035519929892301154504521530194876442832863773888868068534755110897683731801394232522891117876681663506783538441186457988747853553243269128023804369322941547858243174481858510219577404594192640 := ch_to (ch_of (n := [389, 785, 606, 45, 607, 615, 608, 46, 609, 610, 433, 17, 434, 611, 612, 47, 613, 614, 399, 8, 400, 380, 401, 402]) rfl) (by decide +kernel)
set_option maxRecDepth 100000 in
set_option maxHeartbeats 4000000 in
theorem ch_X11_days_r6 : CH wsX11_days_r6 2227482298367139875395549172033353419075118188478254521197938431197026159292309211338266894351942836940066695512433605833181427628462201285331420434193873653212456820562454137008831646925376 := ch_to (ch_of (n := [9, 403, 616, 617, 48, 618, 619, 49, 620, 621, 622, 623, 624, 50, 625, 626, 627, 51, 628, 603, 390, 391, 6, 392]) rfl) (by decide +kernel)
set_option maxRecDepth 100000 in
set_option maxHeartbeats 4000000 in
theorem ch_X11_days : CH wsX11_days 406188413524819080120897801525421468536969602432503321748244636123743571971507280879408673222052718025911974070596843664938115378763512667447034294701518286436261322000336607968742417189548231361320848560521706762167263922377648169549797 := ch_to (ch_cons 777 rfl (ch_app (ch_app (ch_app (ch_app (ch_app (ch_app (ch_app ch_X11_days_r1 (ch_app ch_X11_days_r2 (ch_app ch_X11_days_r3 (ch_app ch_X11_days_r4 (ch_app ch_X11_days_r5 ch_X11_days_r6))))) ch_X110) ch_X90) ch_X100) ch_X00) ch_X70) ch_X30)) (by decide +kernel)
set_option maxRecDepth 100000 in
set_option maxHeartbeats 4000000 in
theorem ch_X11_drawn : CH wsX11_drawn 3255866422304616344765552632188114158762089024568314531443485259650408807528140659922574316831813618526821245406949825404827689406228528293428178211958594668435640326387230577710637175638957916541809636831549077543975008554963497612476548 := ch_to (ch_cons 789 rfl (ch_app (ch_app (ch_of (n := [349, 350, 337, 397, 145, 7, 398, 178, 372, 373, 144, 374, 381, 2, 382, 174]) rfl) ch_X110) ch_X90)) (by decide +kernel)
set_option maxRecDepth 100000 in
set_option maxHeartbeats 4000000 in
theorem ch_X11_image_r1 : CH wsX11_image_r1 55413603542544467404586650764073766529902318980660571445746096876600049811188086297163277221871667204222371163245326160134176606933625813212833070595673056529912873924564090881 := ch_to (ch_of (n := [335, 334, 336, 372, 373, 144, 374, 375, 376, 0, 377, 346, 347, 581, 145, 37, 582, 174, 583, 571, 570, 163, 175, 176]) rfl) (by decide +kernel)
set_option maxRecDepth 100000 in
set_option maxHeartbeats 4000000 in
theorem ch_X11_image_r2 : CH wsX11_image_r2 17652098775984726687101009964864338984675723193168520107240835469430450064876735980352350338199600497028852904322138176 := ch_to (ch_of (n := [177, 178, 179, 180, 181, 182, 183, 390, 391, 6, 392]) rfl) (by decide +kernel)
set_option maxRecDepth 100000 in
set_option maxHeartbeats 4000000 in
theorem ch_X11_image : CH wsX11_image 52093862756873861516248842115009826540193424393093032503095764209820144462994717963347839833382784426331458907171768636747255238900064391758395352483659981727741020839786061481111370134999130494133158574758759965206137016901031308726108225 := ch_to (ch_cons 793 rfl (ch_app (ch_app (ch_app ch_X11_image_r1 ch_X11_image_r2) ch_X110) ch_X90)) (by decide +kernel)
set_option maxRecDepth 100000 in
set_option maxHeartbeats 4000000 in
theorem ch_X11_back_r1 : CH wsX11_back_r1 55413603542544467404586650764073766529902318980660571445746096876600049829106044234585710906331205448769925388218490138011277105162234502869520643347763725252956648902284541953 := ch_to (ch_of (n := [336, 334, 335, 343, 372, 373, 144, 374, 375, 376, 0, 377, 346, 347, 581, 145, 37, 582, 174, 583, 571, 570, 163, 175]) rfl) (by decide +kernel)
set_option maxRecDepth 100000 in
set_option maxHeartbeats 4000000 in
theorem ch_X11_back_r2 : CH wsX11_back_r2 17711201785279318405919428525014556348052235027803289196704664733151506272662920443704068727057519688966480337714544712 := ch_to (ch_of (n := [176, 177, 178, 179, 180, 181, 182, 183, 383, 153, 3, 384, 280, 390, 391, 6, 392]) rfl) (by decide +kernel)
set_option maxRecDepth 100000 in
set_option maxHeartbeats 4000000 in
theorem ch_X11_back : CH wsX11_back 833501804109981784259981473840157224643094790289488520049532226525918258269748476344765675873018052872768557804839726501499908285751472096750252495848763056774796547231480629486097859435376083947149367253175559801257845812184199400316207177 := ch_to (ch_cons 797 rfl (ch_app (ch_app (ch_app (ch_app ch_X11_back_r1 ch_X11_back_r2) ch_X110) ch_X90) ch_X20)) (by decide +kernel)
set_option maxRecDepth 100000 in
set_option maxHeartbeats 4000000 in
theorem ch_X11_count_r1 : CH wsX11_count_r1 80016173194558251288958221488655093565737099867790897924823079404248993042443852148695902394756839407984219013290727735059684166902988406475684958209556463116411954922774496154348460580920772830153211462291865275510167281086246874984042463492 := ch_to (ch_of (n := [346, 334, 343, 339, 372, 373, 144, 374, 802, 145, 73, 803, 178, 614, 399, 8, 400, 380, 381, 2, 382, 174, 401, 402]) rfl) (by decide +kernel)
set_option maxRecDepth 100000 in
set_option maxHeartbeats 4000000 in
theorem ch_X11_count_r2 : CH wsX11_count_r2 20657999024695268717247353376024094994637646342633788102645274852325276757106033675090810222930299545811201546977116422656 := ch_to (ch_of (n := [9, 403, 176]) rfl) (by decide +kernel)
set_option maxRecDepth 100000 in
set_option maxHeartbeats 4000000 in
theorem ch_X11_count : CH wsX11_count 93352202060317959837117925070097609160026616512422714245615595027777067518079116291738766796499947989470078834477594215972119769236523627667851893016438902041573560590430813506390243850244120317449832603579639888510398299407808919824333013764 := ch_to (ch_cons 801 rfl (ch_app (ch_app (ch_app (ch_app (ch_app ch_X11_count_r1 ch_X11_count_r2) ch_X110) ch_X90) ch_X20) ch_X80)) (by decide +kernel)
set_option maxRecDepth 100000 in
set_option maxHeartbeats 4000000 in
theorem ch_X11_status : CH wsX11_status 853505847408621347082221029212320998034529065256436244530720999905796766440656905154743321711558949215095028555959454777073766611727879952887389771023301868662669061765389024222235195793086154646040693725342432149274107561098700751759489368064 := ch_to (ch_cons 807 rfl (ch_app (ch_of (n := [347]) rfl) ch_X110)) (by decide +kernel)
set_option maxRecDepth 100000 in
set_option maxHeartbeats 4000000 in
theorem ch_X12_init_r1 : CH wsX12_init_r1 9516908214257811601907599991434559929233831052963818299934844574318447919450763243338597016542782605802497886777297562981043223094312037523980040636975361413254165082741010505111975981077940061162673150601366417854437910078249873949474076777514461086327180365059871599238696780313919488 := ch_to (ch_of (n := [809, 166, 167, 194, 832, 833, 834, 217, 835, 836, 837, 839, 840, 842, 848, 852, 854, 855, 857, 858, 950, 810, 811, 812]) rfl) (by decide +kernel)
set_option maxRecDepth 100000 in
set_option maxHeartbeats 4000000 in
theorem ch_X12_init_r2 : CH wsX12_init_r2 489906193850786574127914755128436505240044886262903391928380581163591058847185970272756512797209170157940953229080682612307166732179616452915615384443176532253375523843746937002844004986246827534435276717758131398584762919258958404376160444759844954372944059957248 := ch_to (ch_of (n := [813, 814, 815, 816, 817, 818, 861, 819, 820, 821, 822, 862, 823, 824, 825, 863, 865, 866, 867, 871, 872, 873, 874, 875]) rfl) (by decide +kernel)
set_option maxRecDepth 100000 in
set_option maxHeartbeats 4000000 in
theorem ch_X12_init_r3 : CH wsX12_init_r3 5319845155965318053505566421449570955114812140612922153119003053250607779247272939710940260766317341976703641798842135682905293337297656815826619694946796465374970051117330333018188557695730168659183457659602892312412322202870800418929410656426397995532620806681001984 := ch_to (ch_of (n := [876, 877, 878, 879, 826, 827, 828, 829, 880, 881, 884, 887, 889]) rfl) (by decide +kernel)
set_option maxRecDepth 100000 in
set_option maxHeartbeats 4000000 in
theorem ch_X12_init : CH wsX12_init 19033816428515623200880932992758322879898283247479765069897541354567312823180892658375796385047966507412652924662536462110337039134871437929720706432888173849914596380985785905616311066193314613643457241975309245594212722095830331567067805502336910812558211626434103130622838974894309376 := ch_to (ch_cons 808 rfl (ch_app (ch_app ch_X12_init_r1 (ch_app ch_X12_init_r2 ch_X12_init_r3)) ch_X120)) (by decide +kernel)
set_option maxRecDepth 100000 in
set_option maxHeartbeats 4000000 in
theorem ch_X12_in : CH wsX12_in 1247400193459199882285232945648024103792157037772160963439092026523257432418102541115598728432897313180839029277620309527482773742745996037961982373928019637700003545594428547823461075902726866989158347965339952495831756534450543993055534542780027598441950566797347526026474059518965006204928 := ch_to (ch_cons 967 rfl (ch_of (n := []) rfl)) (by decide +kernel)
set_option maxRecDepth 100000 in
set_option maxHeartbeats 4000000 in
theorem ch_X12_is : CH wsX12_is 33629842688253419175912847062602803678867040518454472503385228157032696662581534412885711986789152682199943201234299976149579936114876291064436738052204526063788092718078107189227890422890732663879818485193469777795597041539532361738071433136792903485810905811991081989676911304263088634369610883745406004992161548332561255648881867588513504757643576447336448 := ch_to (ch_cons 1191 rfl (ch_of (n := []) rfl)) (by decide +kernel)
set_option maxRecDepth 100000 in
set_option maxHeartbeats 4000000 in
theorem ch_X12_within : CH wsX12_within 702223880805592151456759840151962786569522257399338504974336254522393264865238137237142489540654437582500444843247630303354647534431314931612685275935445798350655833690880801860555545317367555154113605281582053784524026102900245630757473088050106395169337932361665227499793929447186391815763110662594625536 := ch_to (ch_cons 1016 rfl (ch_of (n := []) rfl)) (by decide +kernel)
set_option maxRecDepth 100000 in
set_option maxHeartbeats 4000000 in
theorem ch_X12_tell : CH wsX12_tell 1227681159639257696637825796423563133013071469228387935226216433482438465504463073478605159514740031671116652745968031228618944555689174079888612310969407121638476345470549506088555897084058626550702361536184001569276231585426046146335247955425226832379290317929812644905189812314587529216 := ch_to (ch_cons 957 rfl (ch_app (ch_of (n := [831, 832]) rfl) ch_X120)) (by decide +kernel)
set_option maxRecDepth 100000 in
set_option maxHeartbeats 4000000 in
theorem ch_X12_change : CH wsX12_change 46020944252475287237870222401107247438431804313920987426592282958395512493163818708883634689253978602956591727175885629759620445418713050210033974076293739256408076440173713555897639681412733158334044387949950843322693689966329758573634088631558003379372092727765815700804746713771955889572986540409473451687936 := ch_to (ch_cons 1032 rfl (ch_app (ch_of (n := [833, 831]) rfl) ch_X120)) (by decide +kernel)
set_option maxRecDepth 100000 in
set_option maxHeartbeats 4000000 in
theorem ch_X12_keepAll : CH wsX12_keepAll 17631722963339008632900994760757898735185842939339458479854834499994358467831557031171238423941304934443182985683354750922194814400036898950827863234169775067942550597991007331381998308341901313215106012673759038379548777515722163696354610371890578875680878306190797878448793312322424917833842303676266260131490506491497278315769653696299516463548816634243555786752 := ch_to (ch_cons 1210 rfl (ch_app (ch_of (n := [836, 833]) rfl) ch_X120)) (by decide +kernel)
set_option maxRecDepth 100000 in
set_option maxHeartbeats 4000000 in
theorem ch_X12_putBack : CH wsX12_putBack 9754830919614256891947035385814352905502311884278856381108544518449403405021994609476834108897282928581391010536773534518342908573848249565228783097356474244955892535424174122782839775323671132597864431912157082771153350584549711531906476254784368326956415905157225628255209815814338248704 := ch_to (ch_cons 960 rfl (ch_app (ch_of (n := [833, 836]) rfl) ch_X120)) (by decide +kernel)
set_option maxRecDepth 100000 in
set_option maxHeartbeats 4000000 in
theorem ch_X12_remember : CH wsX12_remember 33059480556260641186689365176421060128473455511261484649727814687489422127184161106151384569304802305707771329138741668356940505528232830486853130184203992769285848351421154332076533640137749503532447791912398009924053024401089686835560455098939641098846325469243530366946291660541729716845782956918220718253178441902495307077228687408897694585182985771092214284288 := ch_to (ch_cons 1207 rfl (ch_app (ch_of (n := [838, 836, 837, 1208, 1209, 119, 156, 1210, 833]) rfl) ch_X120)) (by decide +kernel)
set_option maxRecDepth 100000 in
set_option maxHeartbeats 4000000 in
theorem ch_X12_undo : CH wsX12_undo 19347874399586130986669896173878991401820550555254869373101076066785115234963245308171105224127788485907207043975312823837437065894264968965548881368321465092079287160322749834030399638009630350600284995348230657471517434351930466934578213743506073145189114336909327995778371756909729415168 := ch_to (ch_cons 954 rfl (ch_app (ch_of (n := [830, 838, 837, 955, 956, 74, 156, 957, 831, 832, 958, 959, 75, 960, 833, 836]) rfl) ch_X120)) (by decide +kernel)
set_option maxRecDepth 100000 in
set_option maxHeartbeats 4000000 in
theorem ch_X12_image : CH wsX12_image 2341016667084207786895232728485332056647860267940767994536330600066008704637698864895535804182168181365804601546257021842171689310167295489675340622741406285078286336885183291639609801365991422020347988217325975426730529676461777250213118057374320903066104395397031190852036069177160051458048 := ch_to (ch_cons 964 rfl (ch_app (ch_of (n := [830, 834, 833, 835, 965, 966, 156, 967, 955, 956, 74, 957, 831, 832]) rfl) ch_X120)) (by decide +kernel)
set_option maxRecDepth 100000 in
set_option maxHeartbeats 4000000 in
theorem ch_X12_back : CH wsX12_back 22143494738249005918173305740647714704350186132424605686648999323294475633938482896412684539816297280892572099424822021457158820669272758808349289817438734015650604022285189184445882862988440568568949586122808390872604739941598817781649411484534090724170529198735754371873694726415543879860224 := ch_to (ch_cons 971 rfl (ch_app (ch_of (n := [830, 835, 833, 834, 838, 965, 966, 156, 967, 955, 956, 74, 957, 831, 832]) rfl) ch_X120)) (by decide +kernel)
set_option maxRecDepth 100000 in
set_option maxHeartbeats 4000000 in
theorem ch_X12_term : CH wsX12_term 41855804968223084132762111290499973722994040051415269104759749020686775452865474583294582352744608060653376384961028868078591262507715207783515857662947351481409230674641417350155599741729816976129342734352196642409888268336975368253481582205602999517651214995476843586768700773220704643201670053888 := ch_to (ch_cons 992 rfl (ch_app (ch_of (n := [833]) rfl) ch_X120)) (by decide +kernel)
set_option maxRecDepth 100000 in
set_option maxHeartbeats 4000000 in
theorem ch_X12_isHouse : CH wsX12_isHouse 653999135588192449697612021359219143310328659462169392469490173782809526725786175159882658686890226647463273569315302896804961360250053031695179760112171587384650738153081608085752517324701396580613293282019941864322817936706874572974264107789977482279053259025509311816415623419091604209261346816 := ch_to (ch_cons 986 rfl (ch_app (ch_of (n := [833, 965, 966, 156, 967]) rfl) ch_X120)) (by decide +kernel)
set_option maxRecDepth 100000 in
set_option maxHeartbeats 4000000 in
theorem ch_X12_isSounding : CH wsX12_isSounding 78479636498360294007841277083700659241459237712781565929216497141600055061312821439253270768469487344069195498416009927040646690484630772751065585728687025204829326348753880391356497024308476169742023673910226150546344974358853684847675175337231535516579125332066190339135211699982962403473700683776 := ch_to (ch_cons 989 rfl (ch_app (ch_of (n := [833, 990, 991, 78, 156, 992, 965, 966, 967]) rfl) ch_X120)) (by decide +kernel)
set_option maxRecDepth 100000 in
set_option maxHeartbeats 4000000 in
theorem ch_X12_soundWith : CH wsX12_soundWith 1371613420816636301129919205435149665645407592115369916038292910939273356448535915345603636645015963651864448264364335376147635881707526827455401501218035433770188367260603795684815793545571191969729717410375487336967119635041220705298891486873767474931286919869482053937312505871577322679768666876149760 := ch_to (ch_cons 1007 rfl (ch_app (ch_of (n := [833, 987, 988, 77, 156, 989, 990, 991, 78, 992, 965, 966, 967]) rfl) ch_X120)) (by decide +kernel)
set_option maxRecDepth 100000 in
set_option maxHeartbeats 4000000 in
theorem ch_X12_soundingNotes : CH wsX12_soundingNotes 4203730336031677396989105882825350459858380064806809062923235923247301213138626944249061346475453518407279798664579910843921503022977214937364304017450831006516778519656070838561576218882706434634352882305801581091013322275543774768177173239686798745077945321284423787778245065847064537021903222244079172490193964267174813432887720868605589259311788419186688 := ch_to (ch_cons 1188 rfl (ch_app (ch_of (n := [833, 987, 988, 77, 156, 989, 990, 991, 78, 992, 965, 966, 967]) rfl) ch_X120)) (by decide +kernel)
set_option maxRecDepth 100000 in
set_option maxHeartbeats 4000000 in
theorem ch_X12_areBeside : CH wsX12_areBeside 16420821625123739831988694854786525233821797128151597902043568436051121417276139850041851556049390958105441016227685535229287078181091938996307001002052991242084029647499075775990180870552115558535067619723373914939256367939224786004917691961324659905181106353511270502771929347784711247250786564328811525875078881021758425609805599408453859744943152562176 := ch_to (ch_cons 1180 rfl (ch_of (n := []) rfl)) (by decide +kernel)
set_option maxRecDepth 100000 in
set_option maxHeartbeats 4000000 in
theorem ch_X12_house : CH wsX12_house 9901553026935112073617218235272998616738233581621092414424723396362086136287248719871084547680532664375741256245409609244270814719806371483926744539013243636603037792367830203065737198672272728347747619317123536407314889291174769495036168049822253889441449307067084879650544861811173115331346432 := ch_to (ch_cons 975 rfl (ch_app (ch_of (n := [830, 976, 977, 978, 979, 833, 838, 965, 966, 156, 967, 955, 956, 74, 957, 831, 832]) rfl) ch_X120)) (by decide +kernel)
set_option maxRecDepth 100000 in
set_option maxHeartbeats 4000000 in
theorem ch_X12_reckon : CH wsX12_reckon 21944496275174754742540653219006648673950570450944413961212101190683505019717272870678231112163708205491694278757351512722651792629469154923907839838172247276211422747693151170748960242744456312816999523958664652269041938361620885966635953743560719669100332131062696451099967539399093697702745689559138304 := ch_to (ch_cons 1011 rfl (ch_app (ch_of (n := [868]) rfl) ch_X120)) (by decide +kernel)
set_option maxRecDepth 100000 in
set_option maxHeartbeats 4000000 in
theorem ch_X12_reckonAll_r1 : CH wsX12_reckonAll_r1 136810259513353674495588159044714088862978376505039809146313513882124320299826972877166275331496225936869862960461096899010184339908739530819456303177989992637267727523201470027072666674034430770379659066161835095005477050946834322558799906577910957760466568333909106938984630471398270005902368936430665728 := ch_to (ch_of (n := [868, 850, 854, 833, 864, 855, 867, 865, 866, 1008, 1012, 1013, 869, 1005, 1006, 83, 156, 1007, 987, 988, 77, 989, 990, 991]) rfl) (by decide +kernel)
set_option maxRecDepth 100000 in
set_option maxHeartbeats 4000000 in
theorem ch_X12_reckonAll_r2 : CH wsX12_reckonAll_r2 38402911481857639046287060702188311518341064874302668797115428571599636503396848171819000350489460073284225189502614810769485454157303192597058208399812952741217422477045442362176778777791736239316201891633014520379157701771802911666932291749559245173646484948945494344275762817781358132413647077414797312 := ch_to (ch_of (n := [78, 992, 965, 966, 967, 984, 985, 76, 986, 1009, 1010, 84, 1011]) rfl) (by decide +kernel)
set_option maxRecDepth 100000 in
set_option maxHeartbeats 4000000 in
theorem ch_X12_reckonAll : CH wsX12_reckonAll 175384612372361116322743875969009812264662264088379957431204698667162765532503761258891808845173399259601800782957094927758641946324344960332112188620842883497672738186469964170487524485887477252005559310164349434817472953091801671172008799563826049690138683570485845519870097298157646225428469210421395456 := ch_to (ch_cons 1004 rfl (ch_app (ch_app ch_X12_reckonAll_r1 ch_X12_reckonAll_r2) ch_X120)) (by decide +kernel)
set_option maxRecDepth 100000 in
set_option maxHeartbeats 4000000 in
theorem ch_X12_isSo_r1 : CH wsX12_isSo_r1 137110242683548671645234445044838252895259897985573583667671480359823846210920913940975293858427273295098629059851186270844933640559020963112455630942751881635079478165438061846500218331756175029865616476367701695854097430556331905370587868777500577901432112322371198336031819434619096477685669294896054272 := ch_to (ch_of (n := [833, 868, 869, 870, 1002, 1003, 82, 156, 1004, 850, 854, 864, 855, 867, 865, 866, 1008, 1012, 1013, 1005, 1006, 83, 1007, 987]) rfl) (by decide +kernel)
set_option maxRecDepth 100000 in
set_option maxHeartbeats 4000000 in
theorem ch_X12_isSo_r2 : CH wsX12_isSo_r2 38402950721674796746506333715800947993016744613248409966559060544880460612932411829147704935391028030896217166846593725069295946850611994805824453460521844459631011104612977118882047653797370012648020292344130803508338549850201107707340833615564907076953056864948220247140146339863412272888609296219111424 := ch_to (ch_of (n := [988, 77, 989, 990, 991, 78, 992, 965, 966, 967, 984, 985, 76, 986, 1009, 1010, 84, 1011]) rfl) (by decide +kernel)
set_option maxRecDepth 100000 in
set_option maxHeartbeats 4000000 in
theorem ch_X12_isSo : CH wsX12_isSo 175534623577367193747676655475878212518140868634220698416964172063771266405975774922880484183971817155304695605482705773337675539327938270867773977360267884166642993507426551512824449975143982088837043762531189668145504033601953867278376986014176252853606802724263051229434423765817390096271010908338126848 := ch_to (ch_cons 1001 rfl (ch_app (ch_app ch_X12_isSo_r1 ch_X12_isSo_r2) ch_X120)) (by decide +kernel)
set_option maxRecDepth 100000 in
set_option maxHeartbeats 4000000 in
theorem ch_X12_tells_r1 : CH wsX12_tells_r1 337598458922368579841396849197488656388126983487938489493953987305230490893642623766945200150650073357125660420742853893573050504558341066735273101811558367348266954234645820385904474781200507139470719578853151662997296059017029602368276498810288484450123395612994992181632638965710047143142475691982848 := ch_to (ch_of (n := [864, 865, 833, 870, 990, 991, 78, 156, 992, 999, 1000, 81, 1001, 868, 869, 1002, 1003, 82, 1004, 850, 854, 855, 867, 866]) rfl) (by decide +kernel)
set_option maxRecDepth 100000 in
set_option maxHeartbeats 4000000 in
theorem ch_X12_tells_r2 : CH wsX12_tells_r2 175213097747552619168132576788158812295258164783743748820997118180992038619749055910643315536926200607672186379829151502159538086990073847843070757322973612739175993303028277953445335271890062834370738888770515010361881221141951879162017505298066466214136044979378326488577144639930000740424295593610838016 := ch_to (ch_of (n := [1008, 1012, 1013, 1005, 1006, 83, 1007, 987, 988, 77, 989, 965, 966, 967, 984, 985, 76, 986, 1009, 1010, 84, 1011]) rfl) (by decide +kernel)
set_option maxRecDepth 100000 in
set_option maxHeartbeats 4000000 in
theorem ch_X12_tells : CH wsX12_tells 175553374977992953425793252914236762549825693218425545255094437695567747549370461305024115155601091832821928512258762953407116314370437886363536950371023606672549879001032493917048936855702841238335330182349957499476725301999171815121605525716081887713707302318099002678227829518025200040587205276606660608 := ch_to (ch_cons 998 rfl (ch_app (ch_app ch_X12_tells_r1 ch_X12_tells_r2) ch_X120)) (by decide +kernel)
set_option maxRecDepth 100000 in
set_option maxHeartbeats 4000000 in
theorem ch_X12_burnsOf_r1 : CH wsX12_burnsOf_r1 342286309078808499370546208787126164309331653140920713609391970046363008673896901177458313986801233807451297298684570463302486159283232927027984201261292206387531489644915749108075309959059238336853171761007420459265364446336740763395206226345457536416399288084827682881919870916358387141679762775212032 := ch_to (ch_of (n := [996, 997, 80, 156, 998, 864, 865, 833, 870, 990, 991, 78, 992, 999, 1000, 81, 1001, 868, 869, 1002, 1003, 82, 1004, 850]) rfl) (by decide +kernel)
set_option maxRecDepth 100000 in
set_option maxHeartbeats 4000000 in
theorem ch_X12_burnsOf_r2 : CH wsX12_burnsOf_r2 153268601472377864435108831783409975214960595716412650025966238652375236860778781440108007367851916942148030068293735633627336109644995268243822374603230128328155455338179468567636925365684182791981877876493613518632042654138303979000626676494441881028153083599063443300706648550787991792058182938180714496 := ch_to (ch_of (n := [854, 855, 867, 866, 1008, 1012, 1013, 1005, 1006, 83, 1007, 987, 988, 77, 989, 965, 966, 967, 984, 985, 76, 986, 1009, 1010]) rfl) (by decide +kernel)
set_option maxRecDepth 100000 in
set_option maxHeartbeats 4000000 in
theorem ch_X12_burnsOf_r3 : CH wsX12_burnsOf_r3 1250836287684961019782353465270683713576961520992571711985536453368013003041205431953660059494290716943828917377034841477850465920705779721935095647760012828312105703761881428314114565096560957618264859407818033303683421495791062529786748938089252016395383192019216186484007936827820103234941874934541975552 := ch_to (ch_of (n := [84, 1011, 1014, 1015, 1016]) rfl) (by decide +kernel)
set_option maxRecDepth 100000 in
set_option maxHeartbeats 4000000 in
theorem ch_X12_burnsOf : CH wsX12_burnsOf 1404447510312857438434887547859966457800450246740293534814949166313730521206461537267791425723200016936887361101289123131786429596505551468622706554884398219099435948646774639973549202021165920151721425227595897601310173640624253912427586997266506283617561246400242644733966381769628268655576884204061851648 := ch_to (ch_cons 995 rfl (ch_app (ch_app ch_X12_burnsOf_r1 (ch_app ch_X12_burnsOf_r2 ch_X12_burnsOf_r3)) ch_X120)) (by decide +kernel)
set_option maxRecDepth 100000 in
set_option maxHeartbeats 4000000 in
theorem ch_X12_flaresOf_r1 : CH wsX12_flaresOf_r1 11235924379198553231807527988640191711276665450042549492786160659628108629694788583438595979204864253050277890889870006792575043805352374728531412067787545511797696165081118562827330498144578180243247897771913828245921092108272930204533075469615727800477905414448574137340540106408779362825464210766623145984 := ch_to (ch_of (n := [1020, 996, 997, 80, 156, 998, 864, 865, 833, 870, 990, 991, 78, 992, 999, 1000, 81, 1001, 868, 869, 1002, 1003, 82, 1004]) rfl) (by decide +kernel)
set_option maxRecDepth 100000 in
set_option maxHeartbeats 4000000 in
theorem ch_X12_flaresOf_r2 : CH wsX12_flaresOf_r2 142296353334790487068596959281035556674811810444555493402571039375692813254954944802638967728372740858458138517008754041700038973627453382635954498547587341748111163399378638729232047213362076203605492699128933655171445648857824269369930304905978948371550081032066754460067053020294969033824123931743748096 := ch_to (ch_of (n := [850, 854, 855, 867, 866, 1008, 1012, 1013, 1005, 1006, 83, 1007, 987, 988, 77, 989, 965, 966, 967, 984, 985, 76, 986, 1009]) rfl) (by decide +kernel)
set_option maxRecDepth 100000 in
set_option maxHeartbeats 4000000 in
theorem ch_X12_flaresOf_r3 : CH wsX12_flaresOf_r3 1261808535822548397148865337773058132117110306264436376125760457344925397804724777847990410893363442531055486827710585701340382288431269017741543855196504168911334701163301440843185745492144825667547884490342752894066609403648878867767334455090034928819904097212367205663692216975432390607063173538645016576 := ch_to (ch_of (n := [1010, 84, 1011, 1014, 1015, 1016]) rfl) (by decide +kernel)
set_option maxRecDepth 100000 in
set_option maxHeartbeats 4000000 in
theorem ch_X12_flaresOf : CH wsX12_flaresOf 18257820314800629327688585915124245504218418623885413996219766948679172512237473354416672895574413139011942372465896963676939587551874208048479014552817048170184713334272670921369663995229405835651349768299496996147184456873294484444395454886545811452773455542730318177024577949113669433089379451443655737344 := ch_to (ch_cons 1019 rfl (ch_app (ch_app ch_X12_flaresOf_r1 (ch_app ch_X12_flaresOf_r2 ch_X12_flaresOf_r3)) ch_X120)) (by decide +kernel)
set_option maxRecDepth 100000 in
set_option maxHeartbeats 4000000 in
theorem ch_X12_isBarred_r1 : CH wsX12_isBarred_r1 342286309078808499370546208787126164309331653140920713609391970046363008673896901177458313986801233807451297298684570463302486159283232927027984201261292206387531489644915749108075309959059238336853171761007420459265364446336740763395206226345457536416399288084827682881919870916358387141679762775212032 := ch_to (ch_of (n := [833, 996, 997, 80, 156, 998, 864, 865, 870, 990, 991, 78, 992, 999, 1000, 81, 1001, 868, 869, 1002, 1003, 82, 1004, 850]) rfl) (by decide +kernel)
set_option maxRecDepth 100000 in
set_option maxHeartbeats 4000000 in
theorem ch_X12_isBarred_r2 : CH wsX12_isBarred_r2 153268601472377864435108831783409975214960595716412650025966238652375236860778781440108007367851916942148030068293735633627336109644995268243822374603230128328155455338179468567636925365684182791981877876493613518632042654138303979000626676494441881028153083599063443300706648550787991792058182938180714496 := ch_to (ch_of (n := [854, 855, 867, 866, 1008, 1012, 1013, 1005, 1006, 83, 1007, 987, 988, 77, 989, 965, 966, 967, 984, 985, 76, 986, 1009, 1010]) rfl) (by decide +kernel)
set_option maxRecDepth 100000 in
set_option maxHeartbeats 4000000 in
theorem ch_X12_isBarred_r3 : CH wsX12_isBarred_r3 21944496275174754733023745004748837080297570543729328280448007953824789527038691788660702798145451174453138901351488446979832735450978591612896414872982681198457994802840025058142360791167736098566050165049439180766375815715632675961171034001565824849041810386302038359368560295243917557356431275001380864 := ch_to (ch_of (n := [84, 1011]) rfl) (by decide +kernel)
set_option maxRecDepth 100000 in
set_option maxHeartbeats 4000000 in
theorem ch_X12_isBarred : CH wsX12_isBarred 90060212127172426814142279570662440430952069442967776129845648973593883844708072886914492451106329381822612857687967162194952297947476159805876084017216381051539272329165232911611468503930238350159465908341261995614766125894844600189347078139669190358838259126710587688878507235088477996251157516693956198400 := ch_to (ch_cons 1023 rfl (ch_app (ch_app ch_X12_isBarred_r1 (ch_app ch_X12_isBarred_r2 ch_X12_isBarred_r3)) ch_X120)) (by decide +kernel)
set_option maxRecDepth 100000 in
set_option maxHeartbeats 4000000 in
theorem ch_X12_of_r1 : CH wsX12_of_r1 2678608020910461556677691526596510203472221965292918399562674336936898160093709675815010414148141647328114984688935891943605062699564156845207055120999113420863466444186503191143601708364084947391944080110450368614179821751792882626215907901589411254749077204009511797053537177450103711934629799788544 := ch_to (ch_of (n := [830, 833, 984, 985, 76, 156, 986, 965, 966, 967, 987, 988, 77, 989, 990, 991, 78, 992, 993, 994, 79, 995, 996, 997]) rfl) (by decide +kernel)
set_option maxRecDepth 100000 in
set_option maxHeartbeats 4000000 in
theorem ch_X12_of_r2 : CH wsX12_of_r2 135093126422526618156875059122862378271055530769573058555399358017657377144689468367787880776033195232578393963289527103514397145763119903161187461063034494345572657722909042389477470560672909135739312238424527579808383485885039942975958814109493829587573848966745601957831724466862912598121978894225506304 := ch_to (ch_of (n := [80, 998, 864, 865, 870, 999, 1000, 81, 1001, 868, 869, 1002, 1003, 82, 1004, 850, 854, 855, 867, 866, 1008, 1012, 1013, 1005]) rfl) (by decide +kernel)
set_option maxRecDepth 100000 in
set_option maxHeartbeats 4000000 in
theorem ch_X12_of_r3 : CH wsX12_of_r3 179634217681037546189105341648716988333522115975570823596203573108766941944975131186384534870806453087327386743509948256907070173536796535538230537085412324746639886394360501372038030692625467744096285705756420158881557681226963517812527151362755097554123597039395626316297383239162385087664466596062170185728 := ch_to (ch_of (n := [1006, 83, 1007, 1009, 1010, 84, 1011, 1014, 1015, 1016, 1017, 1018, 85, 1019, 1020, 1021, 1022, 86, 1023]) rfl) (by decide +kernel)
set_option maxRecDepth 100000 in
set_option maxHeartbeats 4000000 in
theorem ch_X12_of : CH wsX12_of 179769313486149843336811832417231080146223016884167649345415393126510180146629308897983258956150029510880338121390168514283701581101828057532221793273676201477878951245627987897380247117938387674691373168979381329479824298908750025601292817196434599098667450017275055859674570121763768030427858458138728464384 := ch_to (ch_cons 983 rfl (ch_app (ch_app ch_X12_of_r1 (ch_app ch_X12_of_r2 ch_X12_of_r3)) ch_X120)) (by decide +kernel)
set_option maxRecDepth 100000 in
set_option maxHeartbeats 4000000 in
theorem ch_X12_score : CH wsX12_score 90603733997060721751742073258668654375955618348971580309482257874869494780544476490228469998016945541030557310752884972081802033600956226037719304223429109130819958798021980412981211810384826278845625634416494696185684984130564023082376566207094639036094893144459530823224561360897859071474867007095155061686272 := ch_to (ch_cons 1027 rfl (ch_app (ch_of (n := [830, 1028, 1029, 965, 966, 156, 967, 1030, 1031, 87, 1032, 833, 831, 955, 956, 74, 957, 832]) rfl) ch_X120)) (by decide +kernel)
set_option maxRecDepth 100000 in
set_option maxHeartbeats 4000000 in
theorem ch_X12_chord : CH wsX12_chord 739211417055384301260473254307908784515522885048958444054574943558988012466453642490327240332479494266913255580054416354595956517436937749989508684350844999766420685300951754397363986069392732773292014022762994714048724701799634551601723050111960912124404786117393663418855204743239086177470591079590622362861568 := ch_to (ch_cons 1036 rfl (ch_app (ch_of (n := [830, 1028, 833, 965, 966, 156, 967]) rfl) ch_X120)) (by decide +kernel)
set_option maxRecDepth 100000 in
set_option maxHeartbeats 4000000 in
theorem ch_X12_canBe : CH wsX12_canBe 1413766283745056603655382165237442556706940816497064387705846004619852247648339501280598102633892197885843370403177605420489320895580696192722867606764712982791370217276291889268269074757567482758904319911400000323692573908312350735067359079054697113554040883724240032016404004842314113685106734104158339604341063680 := ch_to (ch_cons 1043 rfl (ch_of (n := [1028, 978, 1044, 1045, 1046, 965, 966, 156, 967]) rfl)) (by decide +kernel)
set_option maxRecDepth 100000 in
set_option maxHeartbeats 4000000 in
theorem ch_X12_terms_r1 : CH wsX12_terms_r1 1484534990769300476605417087231907059974189344268201202518431028975912481475272828124162233804993595016171659398156997087703772843619163475573986539784104810472912344442820587881703842148733016797397691697145291405996821284422410866052121712463548815467697531655774594647820846815941555546745037346670390499453435904 := ch_to (ch_of (n := [830, 838, 1041, 1042, 156, 1043, 1028, 978, 1044, 1045, 1046, 965, 966, 967, 955, 956, 74, 957, 831, 832, 1030, 1031, 87, 1032]) rfl) (by decide +kernel)
set_option maxRecDepth 100000 in
set_option maxHeartbeats 4000000 in
theorem ch_X12_terms_r2 : CH wsX12_terms_r2 57277807836949922408837567867349676981443478344341305058882899404622128010705808318690568531649256750858719018437999440148793721514146753400890052083129159241025748615958424204533602522957957552490080016463490494951861107213475167230717574212948590592 := ch_to (ch_of (n := [833]) rfl) (by decide +kernel)
set_option maxRecDepth 100000 in
set_option maxHeartbeats 4000000 in
theorem ch_X12_terms : CH wsX12_terms 1496316352497934150138311861739778920682685929791050500812667136942528214105111614213964934872452193700872467437876851267000773409017255303064077574357683842139235252887356225864596888646785344176137234646422837512647608644399256018723706343274884944773611036963472149896752784039554006579645470586729275771345436672 := ch_to (ch_cons 1040 rfl (ch_app (ch_app ch_X12_terms_r1 ch_X12_terms_r2) ch_X120)) (by decide +kernel)
set_option maxRecDepth 100000 in
set_option maxHeartbeats 4000000 in
theorem ch_X12_row : CH wsX12_row 12064114410120881697684249088456775702308512113917966958880092269787231603746204096958893702264073430031103476810560879980204569386500404197726974518377842088512185713711630626337832574643433880689442742822108237427399712300900353353191080826101621876210487187136147850411239066331007783531006696775086352156793503744 := ch_to (ch_cons 1050 rfl (ch_app (ch_of (n := [830, 843, 841, 842, 833, 955, 956, 74, 156, 957, 831, 832]) rfl) ch_X120)) (by decide +kernel)
set_option maxRecDepth 100000 in
set_option maxHeartbeats 4000000 in
theorem ch_X12_ash : CH wsX12_ash 193025830561934107162947985381057058573822329867545838015430846687552778312189371817395776520879747436958001693317390844965742480722659500682427174219832919802655093009264406347756321722085797037348444698502062938159709236128793652157759557172455740245796660039070317265424436796867155594339454308125121412876478709760 := ch_to (ch_cons 1054 rfl (ch_app (ch_of (n := [830, 841]) rfl) ch_X120)) (by decide +kernel)
set_option maxRecDepth 100000 in
set_option maxHeartbeats 4000000 in
theorem ch_X12_four : CH wsX12_four 24707306311927565716857342128774094850106047480973473335236874470764894420640013374020043380249015897693811100797806220895005721948128318348270980841428813273441042669715456895704270789918620950492814871474638672902970022774282190911781647245611826210099996120844807409147890414778875291453055835650243553487924089585664 := ch_to (ch_cons 1061 rfl (ch_app (ch_of (n := [842, 843]) rfl) ch_X120)) (by decide +kernel)
set_option maxRecDepth 100000 in
set_option maxHeartbeats 4000000 in
theorem ch_X12_feed : CH wsX12_feed 46326199334864185719107516491451419516654151551240118057195942863587356063031511612201913788992543741853713704484211863956829811462478858548187934905865402058048483475490413624486427135836379332250093583015060358255153820657054276075041312482354996889688900954444376891597761592932175321205368578639995864102560950386688 := ch_to (ch_cons 1058 rfl (ch_app (ch_of (n := [830, 843, 1059, 1060, 88, 156, 1061, 842]) rfl) ch_X120)) (by decide +kernel)
set_option maxRecDepth 100000 in
set_option maxHeartbeats 4000000 in
theorem ch_X12_end : CH wsX12_end 395316900990841051469717474060385374848073545828401668568820904061977652188448079537199636291011963575222304833205083950774133966134101008297058645295100549309862816204902782479367347186282282007871437171156070776275890971322644254890690850576789399491921493122758374371253016611774211941738552842540486541771608543985664 := ch_to (ch_cons 1065 rfl (ch_app (ch_of (n := [830, 843]) rfl) ch_X120)) (by decide +kernel)
set_option maxRecDepth 100000 in
set_option maxHeartbeats 4000000 in
theorem ch_X12_isSmall : CH wsX12_isSmall 414519814773372146385910470080342644837492018716963058394933981240177335435254470434734865820543230966143135466120830794526328294166105040623643443078632468319267684918407908074428227055806907066859044205512181900414991326053770646769875672369478771385978995737310760043178833131992069185917598737707020827254185453759477317632 := ch_to (ch_cons 1085 rfl (ch_of (n := []) rfl)) (by decide +kernel)
set_option maxRecDepth 100000 in
set_option maxHeartbeats 4000000 in
theorem ch_X12_isDigit : CH wsX12_isDigit 3316158518186977171087283760642741158699936149735704467159471849921418683482035763477878926564345847729145083728966646356210626353328840324989147544629059746554141479347263264595425816446455256534872353644097455203319930608430165174159005378955830171087831965898486080345430665055936553487340789901656166618033483630075818541056 := ch_to (ch_cons 1088 rfl (ch_of (n := []) rfl)) (by decide +kernel)
set_option maxRecDepth 100000 in
set_option maxHeartbeats 4000000 in
theorem ch_X12_next : CH wsX12_next 106065257605136974960070160552422761277421568792559078058985695421635995125544996334230116874658051478226643499925362526496869742241249726822117735223821274042641078103790597286532467132027332635791707148831461297018930916928796941417121689782478397889792015908070124548360443662936880229827301855542203371394872881965759215960064 := ch_to (ch_cons 1082 rfl (ch_app (ch_of (n := [845, 844, 843, 842, 847, 846, 1089, 1090, 1008, 1091, 1045, 1092, 1083, 1084, 156, 1085, 1086, 1087, 1088]) rfl) ch_X120)) (by decide +kernel)
set_option maxRecDepth 100000 in
set_option maxHeartbeats 4000000 in
theorem ch_X12_begin_r1 : CH wsX12_begin_r1 102787960319585001427706555898350052241675138002669874620739154979457903908296542714202868214690188730082086673508741825987861464376438175341946239274195604459082848283229168554973611025761354415317285358966472674877566532086027732219816719090094826469936216559928537373140137559422893560314333196898540881731836541354315509399552 := ch_to (ch_of (n := [845, 849, 848, 1080, 1081, 91, 156, 1082, 844, 843, 842, 847, 846, 1089, 1090, 1008, 1091, 1045, 1092, 1083, 1084, 1085, 1086, 1087]) rfl) (by decide +kernel)
set_option maxRecDepth 100000 in
set_option maxHeartbeats 4000000 in
theorem ch_X12_begin_r2 : CH wsX12_begin_r2 3316158518186977171087283760642741158699936149735704467159471849921418683482035763477878926564345847729145083728966646356210626353328840324989147544629059746554141479347263264595425816446455256534872353644097455203319930608430165174159005378955830171087831965898486080345430665055936553487340789901656166618033483630075818541056 := ch_to (ch_of (n := [1088]) rfl) (by decide +kernel)
set_option maxRecDepth 100000 in
set_option maxHeartbeats 4000000 in
theorem ch_X12_begin : CH wsX12_begin 106110595709877812538581119510087798754200669482106245893497641325834139527238864913537441173085541665745508051350789187527148711906848687632909618189831780429421146942077083787893622107890658480639162856518121638235384486585012942611407336877320742632883619777587952152724992286237661478142265876417605392126392794690012206596096 := ch_to (ch_cons 1079 rfl (ch_app (ch_app ch_X12_begin_r1 ch_X12_begin_r2) ch_X120)) (by decide +kernel)
set_option maxRecDepth 100000 in
set_option maxHeartbeats 4000000 in
theorem ch_X12_isWord : CH wsX12_isWord 3395746322623464623193378570898166946508734626846269588629110767972530671051606391791505053394562301242502981707579223369752125446233323955131594990633472138303046955707333518699580836962937558758670130102829305120092186902678556810897346139137453641330614414014217044302330956894376917163233469357311411998304499264112968635252736 := ch_to (ch_cons 1098 rfl (ch_app (ch_of (n := [846, 847]) rfl) ch_X120)) (by decide +kernel)
set_option maxRecDepth 100000 in
set_option maxHeartbeats 4000000 in
theorem ch_X12_isSign : CH wsX12_isSign 222543630999451377545601258022382269006396431881306543939011720499798550114794150496143134048305265416373074118651804648232535471744421517238874846756350434294334180780355154931866200002795050860259926998901611797496681464268536854237845564876246355642176184128815074339092608132624275658497070987663315075828330438589011331490854731776 := ch_to (ch_cons 1114 rfl (ch_app (ch_of (n := [846, 847]) rfl) ch_X120)) (by decide +kernel)
set_option maxRecDepth 100000 in
set_option maxHeartbeats 4000000 in
theorem ch_X12_must_r1 : CH wsX12_must_r1 102787960319585001427706555898350052241675138002669874620739154979457903908296542714202868214690188730082086673508741825987861464376438175341946239274195604459082848283229168554973611025761354415317285358966472674877566532086027732219816719090094826469936216559928537373140137559422893560314333196898540881731836541354315509399552 := ch_to (ch_of (n := [849, 844, 848, 1080, 1081, 91, 156, 1082, 845, 843, 842, 847, 846, 1089, 1090, 1008, 1091, 1045, 1092, 1083, 1084, 1085, 1086, 1087]) rfl) (by decide +kernel)
set_option maxRecDepth 100000 in
set_option maxHeartbeats 4000000 in
theorem ch_X12_must_r2 : CH wsX12_must_r2 3316158518186977171087283760642741158699936149735704467159471849921418683482035763477878926564345847729145083728966646356210626353328840324989147544629059746554141479347263264595425816446455256534872353644097455203319930608430165174159005378955830171087831965898486080345430665055936553487340789901656166618033483630075818541056 := ch_to (ch_of (n := [1088]) rfl) (by decide +kernel)
set_option maxRecDepth 100000 in
set_option maxHeartbeats 4000000 in
theorem ch_X12_must : CH wsX12_must 27272074699825488964145822406844328365470252022304204788316103615038639116841209663473221064855928280274918187972553897999623435324497112284552746559362291120568630657197280897230058247496204373031390564236398763535990062046605456459155623621976100731078600178496177526861867325755202220270356986788304645654856264845623402703093760 := ch_to (ch_cons 1101 rfl (ch_app (ch_app ch_X12_must_r1 ch_X12_must_r2) ch_X120)) (by decide +kernel)
set_option maxRecDepth 100000 in
set_option maxHeartbeats 4000000 in
theorem ch_X12_number_r1 : CH wsX12_number_r1 47586965412192604080259543885881727736696669242052975164795048730872834756914620168286264652234076093532019143237571378891129686174470891812341892894222858621038034501593288062255634721190189980663143796962190786936109994413884830190429954542355347524057326608027651429922369627452001922758270282315678987300069862972915090404147200 := ch_to (ch_of (n := [847, 846, 965, 966, 156, 967, 1099, 1100, 94, 1101, 849, 844, 848, 1080, 1081, 91, 1082, 845, 843, 842, 1089, 1090, 1008, 1091]) rfl) (by decide +kernel)
set_option maxRecDepth 100000 in
set_option maxHeartbeats 4000000 in
theorem ch_X12_number_r2 : CH wsX12_number_r2 59587223373672623046549946351602307828173425049043255285037494084886854257259390226389667819658925137231709364863851190802223092338700400435929993634002111440869590141460023870392289382774421058613428796991150947456474134094247660938549403763829382166562077554160493351057140464248386447322369193159392361994986543078822675218432 := ch_to (ch_of (n := [1045, 1092, 1083, 1084, 1085, 1086, 1087, 1088]) rfl) (by decide +kernel)
set_option maxRecDepth 100000 in
set_option maxHeartbeats 4000000 in
theorem ch_X12_number : CH wsX12_number 933415641723169463280591815631616134254837909869976488340000847577326450615424048435023728584837946853125817286701407193317451189326555553749519932919763695914601208592125760975044525846344115563696745196629712407545797491563953519124619484539024908833477908777013446810030456526738195273672353949683220460850316227410828191078305334734880768 := ch_to (ch_cons 1136 rfl (ch_app (ch_app ch_X12_number_r1 ch_X12_number_r2) ch_X120)) (by decide +kernel)
set_option maxRecDepth 100000 in
set_option maxHeartbeats 4000000 in
theorem ch_X12_fault : CH wsX12_fault 6325070415853456823515479584966165854815553519387252792306165377523669108451537896349547642298433868416255168415924453305061615577933844107457187025952437489635492611856692077100279639171002787400875330416370127770130305993227559523782921816059475455152868522054514301142388065189107219801769422280975849962930448831086592 := ch_to (ch_cons 1069 rfl (ch_app (ch_of (n := [830, 848]) rfl) ch_X120)) (by decide +kernel)
set_option maxRecDepth 100000 in
set_option maxHeartbeats 4000000 in
theorem ch_X12_emit : CH wsX12_emit 116676955209440363830628192366038755052825572478181455717439648332131380693254664050170921917465386411899503605414994553342004276899401826743186458131833476811094452013528361565956462874160451950518034220135356149823676677201463458128609439571351449629973663963475181941511932131918250097340489770691929579356268279860042880188382064658087936 := ch_to (ch_cons 1133 rfl (ch_app (ch_of (n := [854, 853, 855]) rfl) ch_X120)) (by decide +kernel)
set_option maxRecDepth 100000 in
set_option maxHeartbeats 4000000 in
theorem ch_X12_push : CH wsX12_push 27817953874931422193200157252797783625799553985171645287063940647619265137552764390985836753966437802883764527107522399375276866993555831920376455600649461441755514651380886240533454929361086866219096059680183217301129777737711157130122272192426458218435260989957771763446242926137383064254603092241316686611901295187012789434740375552 := ch_to (ch_cons 1111 rfl (ch_app (ch_of (n := [857, 859, 858]) rfl) ch_X120)) (by decide +kernel)
set_option maxRecDepth 100000 in
set_option maxHeartbeats 4000000 in
theorem ch_X12_binds : CH wsX12_binds 59738601067233466281281634491411842587046693108828905322456442940351267378996053048619984314607394328433441901243661178266073250346714990869466422744346314146547336886211544973740022653335892968371145324357253830164177517651204783778367316558886741059472501923705824093383596292495753904407271199775319567834517805828939983656912225009196335104 := ch_to (ch_cons 1142 rfl (ch_of (n := []) rfl)) (by decide +kernel)
set_option maxRecDepth 100000 in
set_option maxHeartbeats 4000000 in
theorem ch_X12_settle : CH wsX12_settle 582655545077142816879199535627906033045047702562918644441448700371845393502729473137684684154566519775329803372686312671099392224991003488760310651024823627831867567153413882836291781236448018794224068461118874337127840840649608256277047143660978228851727152802128682547194042450785806267131084529377227430356318839163158119578672298105975603200 := ch_to (ch_cons 1145 rfl (ch_app (ch_of (n := [859, 857, 855, 858, 853, 1140, 1141, 156, 1142, 1131, 1132, 104, 1133, 854]) rfl) ch_X120)) (by decide +kernel)
set_option maxRecDepth 100000 in
set_option maxHeartbeats 4000000 in
theorem ch_X12_inner : CH wsX12_inner 3823270468302941842002024607450357925570988358965049940637221865090695370067341048109622965539754256784038762773080541283850235169752208299821472208733578764293592811219637812313121483821042069308953836890042347916619265907205013809099797450156631904112531401655981070177144545736146255547282206957503212017959664865140159883027138801000740028416 := ch_to (ch_cons 1148 rfl (ch_app (ch_of (n := [859, 857]) rfl) ch_X120)) (by decide +kernel)
set_option maxRecDepth 100000 in
set_option maxHeartbeats 4000000 in
theorem ch_X12_isCompared : CH wsX12_isCompared 458792456196353021040242952894043139570306261214582519195040415316599455342883305862089146831446724328932679397641132964298281437346503907758507222613406805794007036118166653065399418278652139525203681653320010968298222041353418005392111728679419134276772102922302858623005986303133295776785336715073739932694751134693097035301043708368406190227456 := ch_to (ch_cons 1151 rfl (ch_app (ch_of (n := [859, 857, 1044, 1152, 1153, 1154, 965, 966, 156, 967]) rfl) ch_X120)) (by decide +kernel)
set_option maxRecDepth 100000 in
set_option maxHeartbeats 4000000 in
theorem ch_X12_partAt : CH wsX12_partAt 911538718516308907017845843448090272921991941376078212561437026578472407302818251830156720913195007537235608743370440312291476587919408637411627223175133321106653426170541833871230791128723107035054930579503061874735735289358434653143720060028415877998558272513882574937729383051036164026175985982500791376427172954249942978031166095884288 := ch_to (ch_cons 1126 rfl (ch_app (ch_of (n := [861, 1096, 1097, 93, 156, 1098, 846, 847]) rfl) ch_X120)) (by decide +kernel)
set_option maxRecDepth 100000 in
set_option maxHeartbeats 4000000 in
theorem ch_X12_orderPartAt : CH wsX12_orderPartAt 113942345014275169894410934695872220803067129513509667683058920303946056036010002777717838598899819402882425109643257736190680603490157597701253090534944889783106467026029438071684050008783438642946620289240626823765223951891342737587587766624964220219306567852409589531822041360357319449525677263507618546296911990828071897208292831657984 := ch_to (ch_cons 1123 rfl (ch_app (ch_of (n := [862, 1096, 1097, 93, 156, 1098, 846, 847]) rfl) ch_X120)) (by decide +kernel)
set_option maxRecDepth 100000 in
set_option maxHeartbeats 4000000 in
theorem ch_X12_openBracket_r1 : CH wsX12_openBracket_r1 47640023948483596092000515742329564647866469217468672652116366857098304783644835258483218999721508531936597423695353971344657443379587881901256252324485805667577824117906811657426736941980855130612554431901651971103679843951026842827131220028424251891414284228948563042474181863776845567852908217593872066040453887024287022611169280 := ch_to (ch_of (n := [860, 849, 1099, 1100, 94, 156, 1101, 844, 848, 1080, 1081, 91, 1082, 845, 843, 842, 847, 846, 1089, 1090, 1008, 1091, 1045, 1092]) rfl) (by decide +kernel)
set_option maxRecDepth 100000 in
set_option maxHeartbeats 4000000 in
theorem ch_X12_openBracket_r2 : CH wsX12_openBracket_r2 48681425809817071518711580770486025110545875664533019455155114683255025777111787698480643584696087993649168505328707950373444161305488019986899192963088513438020831948266517331274641666120287962533918377192936911401272794315776504657508627087599128613284591211305450314663236822704774767042955647553083767930290542157381592442747224064 := ch_to (ch_of (n := [1083, 1084, 1085, 1086, 1087, 1088, 1109, 1110, 97, 1111, 857, 859, 858]) rfl) (by decide +kernel)
set_option maxRecDepth 100000 in
set_option maxHeartbeats 4000000 in
theorem ch_X12_openBracket : CH wsX12_openBracket 1829078113829376575479613645465286506726365197184136221282401190367344954014674473082834862690028491008501455135069395172607641855063903646533427056317463949287711794633247439634177482267937626195837237100203434097098273359988384847947174860196382805423529271186872850204595565799665132588640227144635141259775594575157204266654489378816 := ch_to (ch_cons 1117 rfl (ch_app (ch_app ch_X12_openBracket_r1 ch_X12_openBracket_r2) ch_X120)) (by decide +kernel)
set_option maxRecDepth 100000 in
set_option maxHeartbeats 4000000 in
theorem ch_X12_leaf_r1 : CH wsX12_leaf_r1 47640023948483596092000515742329564647866469217468672652116366857098304776437619102830706778949197144247710836836064761537134048168804466769129952210023366038064033480788686042814878524663611016197171392251498439812677373576717889188993374341157777648251068335368967215293604662590324459695782734696639631546424555274273263179530240 := ch_to (ch_of (n := [856, 849, 1099, 1100, 94, 156, 1101, 844, 848, 1080, 1081, 91, 1082, 845, 843, 842, 847, 846, 1089, 1090, 1008, 1091, 1045, 1092]) rfl) (by decide +kernel)
set_option maxRecDepth 100000 in
set_option maxHeartbeats 4000000 in
theorem ch_X12_leaf_r2 : CH wsX12_leaf_r2 204184671616527165390682017251873399432348517233473737988159587374448466134507448486978863213140652620527799260227655181518667495219784491672967044151562130821487181979224366195998990305465362738156947985822241134578128564307964697690186449869543748937549266681041907707157219624755893422978916173339226492804364758308335992541574834893619200 := ch_to (ch_of (n := [1083, 1084, 1085, 1086, 1087, 1088, 1131, 1132, 104, 1133, 854, 853, 855]) rfl) (by decide +kernel)
set_option maxRecDepth 100000 in
set_option maxHeartbeats 4000000 in
theorem ch_X12_leaf : CH wsX12_leaf 218769291065347234817994137389628759556281278441112889178635510755556840722708959466404314784614561431741744742246132166012469218969548916556809822112585721870637165449365106817514097868224585429376430755299684285680894996271268043221195882657847657378280712432146274918154868936865708003029913222280915168293990595215042695436394340143857664 := ch_to (ch_cons 1130 rfl (ch_app (ch_app ch_X12_leaf_r1 ch_X12_leaf_r2) ch_X120)) (by decide +kernel)
set_option maxRecDepth 100000 in
set_option maxHeartbeats 4000000 in
theorem ch_X12_readPart_r1 : CH wsX12_readPart_r1 1826582534876195560778413450240508061011587570644020407683080173147655598330419823657199652493842340238650482843658351527091558965227780014479373187786884178688479317818327817651030129327130573149378268266625218938284248316728390814059167273629744312550451443700213653319519616725117342541698132983619322970596012928054247481359357494427648 := ch_to (ch_of (n := [850, 846, 847, 1127, 849, 853, 855, 976, 979, 1112, 1113, 98, 156, 1114, 1115, 1116, 99, 1117, 860, 1099, 1100, 94, 1101, 844]) rfl) (by decide +kernel)
set_option maxRecDepth 100000 in
set_option maxHeartbeats 4000000 in
theorem ch_X12_readPart_r2 : CH wsX12_readPart_r2 48681525385248826610078873986235780337942619849107877068566032861671650623634614357999832653658189218862427650712115650252046921924370492135628022220666805516608131496066388730039445522178318700849612122654321731427206248666576477561807086182147862406982274087875603184235480270377619388588341171388030806043757483754611846542899806208 := ch_to (ch_of (n := [848, 1080, 1081, 91, 1082, 845, 843, 842, 1089, 1090, 1008, 1091, 1045, 1092, 1083, 1084, 1085, 1086, 1087, 1088, 1109, 1110, 97, 1111]) rfl) (by decide +kernel)
set_option maxRecDepth 100000 in
set_option maxHeartbeats 4000000 in
theorem ch_X12_readPart_r3 : CH wsX12_readPart_r3 114825392205467484434039852989880947073764146321319350023352887633457477910648614973725929947273127880608068621309752319985258813061651279236062688728983501496324184454979033853190265751211310151016753762502914289021207048203811337365340938655543222818907185390915070131539601784267451309081665218730739661928144716673768462347312955199062016 := ch_to (ch_of (n := [857, 859, 858, 1121, 1122, 101, 1123, 862, 1096, 1097, 93, 1098, 1124, 1125, 102, 1126, 861, 1128, 1129, 103, 1130, 856, 1131, 1132]) rfl) (by decide +kernel)
set_option maxRecDepth 100000 in
set_option maxHeartbeats 4000000 in
theorem ch_X12_readPart_r4 : CH wsX12_readPart_r4 1750154328141605457459422885490581325792383587172724018569179655367897535651679875701090359511090482201189050134672449892301584589195160102490503064388539495565272553207060514683874833758593287083858059610801818862456764354584514581145923231889001649847127240950322824408009162680819063640318080497684124302108798921952317190509863935238209536 := ch_to (ch_of (n := [104, 1133, 854, 1134, 1135, 105, 1136, 965, 966, 967]) rfl) (by decide +kernel)
set_option maxRecDepth 100000 in
set_option maxHeartbeats 4000000 in
theorem ch_X12_readPart : CH wsX12_readPart 1866820594355858487591230680490090199628156068378947641127339570992405387539378010791260081102483903682580170736354116799711181358052838221368764181660165916906095622686927992644875323028974842532929472160051781055202864002824203476882774876152718378336761526403135330118772415703599967196461202665170548657257344007719223878876074962671632384 := ch_to (ch_cons 1120 rfl (ch_app (ch_app ch_X12_readPart_r1 (ch_app ch_X12_readPart_r2 (ch_app ch_X12_readPart_r3 ch_X12_readPart_r4))) ch_X120)) (by decide +kernel)
set_option maxRecDepth 100000 in
set_option maxHeartbeats 4000000 in
theorem ch_X12_readPlain_r1 : CH wsX12_readPlain_r1 52164612794554253530970382457980352706087824965832995658492908433938590183176574472121878921972292385880963813245710651958301314494333694558542327174939426935551509633280827735910672498818408445949368308625838398879786508118139257893025142449408783816554090620722946125646738029759337809918378268824436670903811045530031805609059287040 := ch_to (ch_of (n := [1108, 1096, 1097, 93, 156, 1098, 846, 847, 1109, 1110, 97, 1111, 857, 859, 858, 1080, 1081, 91, 1082, 845, 844, 843, 842, 1089]) rfl) (by decide +kernel)
set_option maxRecDepth 100000 in
set_option maxHeartbeats 4000000 in
theorem ch_X12_readPlain_r2 : CH wsX12_readPlain_r2 3505082662100420529047308073721300348229658983955132625743140749690064367927061436074953378916264179043177210517687206479046312331589743790526693259977070892895812221731754377100123712934827498361704790556828562751180360431804723958131789791554247278685784460490378908800740600010679847390221305540232396916212644024619519808068833509376 := ch_to (ch_of (n := [1090, 1008, 1091, 1045, 1092, 1083, 1084, 1085, 1086, 1087, 1088, 1112, 1113, 98, 1114, 1115, 1116, 99, 1117, 860, 849, 1099, 1100, 94]) rfl) (by decide +kernel)
set_option maxRecDepth 100000 in
set_option maxHeartbeats 4000000 in
theorem ch_X12_readPlain_r3 : CH wsX12_readPlain_r3 14581058730250024837775511411173514832484429794680478241152733807871931667198695555866293457585359501572848637135609719900494161496582800732496353059438365511647303726029531257698366630974665567754889127048826790029065616943348200777808442704631019866242269042932727591281147092669764169167029515257521312604965405855277426762333564786704384 := ch_to (ch_of (n := [1101, 848, 1118, 1119, 100, 1120, 850, 1127, 853, 855, 976, 979, 1121, 1122, 101, 1123, 862, 1124, 1125, 102, 1126, 861, 1128, 1129]) rfl) (by decide +kernel)
set_option maxRecDepth 100000 in
set_option maxHeartbeats 4000000 in
theorem ch_X12_readPlain_r4 : CH wsX12_readPlain_r4 1852246663949865775811222553810865236463605963091132792313612052971036908613831333548333509094543104182663574663880752352876345980630327580812074406454580386038194241452091450697747526159597827021297865778610364778759590985729443754573360369141360380758254457429637734273005576014480941963541118688364790653029568074610996660010828512779829248 := ch_to (ch_of (n := [103, 1130, 856, 1131, 1132, 104, 1133, 854, 1134, 1135, 105, 1136, 965, 966, 967]) rfl) (by decide +kernel)
set_option maxRecDepth 100000 in
set_option maxHeartbeats 4000000 in
theorem ch_X12_readPlain : CH wsX12_readPlain 1866831281666012812806994530575504758876652805245094315602536120304929953129241896006804510100261244722575160734508661094094057654122715247303424366384090805925584061955821541583290615095009297610363331199799077656017715096838243961086670360945453092235654406863304875368457072119852512842132703242065308640354766012428459398693024412599320576 := ch_to (ch_cons 1107 rfl (ch_app (ch_app ch_X12_readPlain_r1 (ch_app ch_X12_readPlain_r2 (ch_app ch_X12_readPlain_r3 ch_X12_readPlain_r4))) ch_X120)) (by decide +kernel)
set_option maxRecDepth 100000 in
set_option maxHeartbeats 4000000 in
theorem ch_X12_behindSum_r1 : CH wsX12_behindSum_r1 940970474914785528452098625088813251351444006404607650712739715669516426100371106719858635144770090173521829995886638213469729765832961607972704664173344150610946283991633493667946980853514691751290864382821378099539731856477348901356670721897609881632154912945810826466911453080448354067302160671610829375170637077301455252168171145469490102272 := ch_to (ch_of (n := [849, 859, 860, 1112, 1113, 98, 156, 1114, 846, 847, 1140, 1141, 1142, 1143, 1144, 107, 1145, 857, 855, 858, 853, 1131, 1132, 104]) rfl) (by decide +kernel)
set_option maxRecDepth 100000 in
set_option maxHeartbeats 4000000 in
theorem ch_X12_behindSum_r2 : CH wsX12_behindSum_r2 116677003890960774841677521979156110362964946309063254911575205127205691563477407617293402505659127989584077590065845860995099329002869216668326256872578244992382665270001977542998727815535779452152796437468133840366595799109661062103933336502151929535548402002578175138765231156247702604747939836036475659274102065788111288282319900597288960 := ch_to (ch_of (n := [1133, 854, 1109, 1110, 97, 1111, 1080, 1081, 91, 1082, 845, 844, 843, 842, 1089, 1090, 1008, 1091, 1045, 1092, 1083, 1084, 1085, 1086]) rfl) (by decide +kernel)
set_option maxRecDepth 100000 in
set_option maxHeartbeats 4000000 in
theorem ch_X12_behindSum_r3 : CH wsX12_behindSum_r3 488422802325700867861181398107568603957412339211863019095313348333768267603981402769547089507651748967361652773365883923338384401758144124902818172163230170174340763737177523645236719267169098867238717295298636988801585224153712463538767953529708551880635524024862861351071554223025301740313228598956316498142948236799794169850976412339641098698752 := ch_to (ch_of (n := [1087, 1088, 1146, 1147, 108, 1148, 1099, 1100, 94, 1101, 848, 1149, 1150, 109, 1151, 1044, 1152, 1153, 1154, 965, 966, 967]) rfl) (by decide +kernel)
set_option maxRecDepth 100000 in
set_option maxHeartbeats 4000000 in
theorem ch_X12_behindSum : CH wsX12_behindSum 489371356802752948533693498614490822845197527019852539422446316196918669402007305513303582098832461225710369667229577184995428693401022005955778375753988756767179507763154216175470595371505897926151429030278542317627821316137535703011463063750597979807905481649840450869781942720826001529934935808958879267199319389842021702288486902891043222454272 := ch_to (ch_cons 1139 rfl (ch_app (ch_app ch_X12_behindSum_r1 (ch_app ch_X12_behindSum_r2 ch_X12_behindSum_r3)) ch_X120)) (by decide +kernel)
set_option maxRecDepth 100000 in
set_option maxHeartbeats 4000000 in
theorem ch_X12_behindTest_r1 : CH wsX12_behindTest_r1 11746027790762685074026796802078850465972923486435282748831994529899959943929041015578192464045464857131581452514931891186159307263599849304748835669874458905097759968419198546963750983356628778893194027216802449556812109461825605164342783526362227608396391059605955378315809968277953793066234488016129094553028692515988921007278112613435661688504320 := ch_to (ch_of (n := [1158, 1159, 853, 849, 859, 860, 1096, 1097, 93, 156, 1098, 846, 847, 1143, 1144, 107, 1145, 857, 855, 858, 1140, 1141, 1142, 1131]) rfl) (by decide +kernel)
set_option maxRecDepth 100000 in
set_option maxHeartbeats 4000000 in
theorem ch_X12_behindTest_r2 : CH wsX12_behindTest_r2 175015481495679713197547298045736330157967491520219470289480424296967291311334520140580050174481607308847399067056210300989163125052199495954407062018732071470791063050537981628361963464209889144396575622564563956753683869645214488788517007767249452974422408726132986042972937478357957740521269640859503421941305521890057380186335914152165376 := ch_to (ch_of (n := [1132, 104, 1133, 854, 1109, 1110, 97, 1111, 1080, 1081, 91, 1082, 845, 844, 843, 842, 1089, 1090, 1008, 1091, 1045, 1092, 1083, 1084]) rfl) (by decide +kernel)
set_option maxRecDepth 100000 in
set_option maxHeartbeats 4000000 in
theorem ch_X12_behindTest_r3 : CH wsX12_behindTest_r3 6690723319919647124418896923848235474377048224492421946754414298436924580264366703460840897971582649188761941504685821314594502003422912256966081163721081410929823461157542259927675401991623366478490780636586128773615924333271231274750948574523904214757225380181813501609883059102627264194922790217872850370913696812839940622333816530465462419456 := ch_to (ch_of (n := [1085, 1086, 1087, 1088, 1146, 1147, 108, 1148, 1112, 1113, 98, 1114, 1099, 1100, 94, 1101, 848]) rfl) (by decide +kernel)
set_option maxRecDepth 100000 in
set_option maxHeartbeats 4000000 in
theorem ch_X12_behindTest : CH wsX12_behindTest 13710233168869192439935965495564580005075976732417372260604471965465159709209350953566351030709135822201240698823340494653057321329748976667217885593229467353769538884701008058052640018047018209101908274707188253582833536509579264775993867532106445465948472035545427674728456242952447295846618363394345423849964069542647119894003623328461292698599424 := ch_to (ch_cons 1157 rfl (ch_app (ch_app ch_X12_behindTest_r1 (ch_app ch_X12_behindTest_r2 ch_X12_behindTest_r3)) ch_X120)) (by decide +kernel)
set_option maxRecDepth 100000 in
set_option maxHeartbeats 4000000 in
theorem ch_X12_readExpression_r1 : CH wsX12_readExpression_r1 55207194815492864612725789184698780244634503178401301638900275875818444013094233330875097216121275953482774027498207754875991209111078231148806278485436528790489603213835666294290013364648804797372415703333469996109328711402613819948442776510822065993786157128245417591979802498829500369005221972059062155703442826951591797509442240512 := ch_to (ch_of (n := [859, 860, 849, 1105, 1106, 96, 156, 1107, 1108, 1096, 1097, 93, 1098, 846, 847, 1109, 1110, 97, 1111, 857, 858, 1080, 1081, 91]) rfl) (by decide +kernel)
set_option maxRecDepth 100000 in
set_option maxHeartbeats 4000000 in
theorem ch_X12_readExpression_r2 : CH wsX12_readExpression_r2 1724713246311005781115384709743623137222333624501611235139544137007689721293682089374618209230447495753602583885055256172111542719003480284675711385785282923096482917135623066823122490237120710729806484125844891618839399306954930646048109657822077030224234620888624560234234511051167874683635254409980008312833852357708888638065941151744 := ch_to (ch_of (n := [1082, 845, 844, 843, 842, 1089, 1090, 1008, 1091, 1045, 1092, 1083, 1084, 1085, 1086, 1087, 1088, 1112, 1113, 98, 1114, 1115, 1116, 99]) rfl) (by decide +kernel)
set_option maxRecDepth 100000 in
set_option maxHeartbeats 4000000 in
theorem ch_X12_readExpression_r3 : CH wsX12_readExpression_r3 2732835836213711432988488173222154255972885440372632226009245140579697990614532557324100542230064458500990755885563178702059553441806421358462554018763009309519712102523726125097947198423523060819986070686530304734408068828267587074497598915143214529020947502212756994045297725206659940039212796973700381954625328329515887368527782262865920 := ch_to (ch_of (n := [1117, 1099, 1100, 94, 1101, 848, 1118, 1119, 100, 1120, 850, 1127, 853, 855, 976, 979, 1121, 1122, 101, 1123, 862, 1124, 1125, 102]) rfl) (by decide +kernel)
set_option maxRecDepth 100000 in
set_option maxHeartbeats 4000000 in
theorem ch_X12_readExpression_r4 : CH wsX12_readExpression_r4 29866565917479011882113536897447342260201795955059497466310405584553915026879909494318682932198073708985104618400794925487411634604196148421452087441164356208512594776580881001714486717284592198621486903794465954387425986583132537942662211146123091799693667345319006022915403860323607196236869469371386210121802468919191031513128535068115992576 := ch_to (ch_of (n := [1126, 861, 1128, 1129, 103, 1130, 856, 1131, 1132, 104, 1133, 854, 1134, 1135, 105, 1136, 965, 966, 967, 1137, 1138, 106, 1139, 1140]) rfl) (by decide +kernel)
set_option maxRecDepth 100000 in
set_option maxHeartbeats 4000000 in
theorem ch_X12_readExpression_r5 : CH wsX12_readExpression_r5 15660085968868316168107152151299420545719262453113066668713752523613212367986234699491718539320504255186390242467645611927716689923068572091034502890708709402898572431376320486883605058641977101896547950207396858511519289694622988636040342213841535470156519695967336102613816573160321699437412589359063748381551275622059621817242568999622378531061760 := ch_to (ch_of (n := [1141, 1142, 1143, 1144, 107, 1145, 1146, 1147, 108, 1148, 1149, 1150, 109, 1151, 1044, 1152, 1153, 1154, 1155, 1156, 110, 1157, 1158, 1159]) rfl) (by decide +kernel)
set_option maxRecDepth 100000 in
set_option maxHeartbeats 4000000 in
theorem ch_X12_readExpression : CH wsX12_readExpression 15660115838168849621101636844372270161158833770282058713270546591160856680914801828284144971493532394667639737465483891843320547069869275440738981098830893968745548944694964705572365016083928107786458630989340696659091814107545253909951505888746667369561519166102022349908825735040442257301576578141147670552469387371698073783993110080827554086780928 := ch_to (ch_cons 1104 rfl (ch_app (ch_app ch_X12_readExpression_r1 (ch_app ch_X12_readExpression_r2 (ch_app ch_X12_readExpression_r3 (ch_app ch_X12_readExpression_r4 ch_X12_readExpression_r5)))) ch_X120)) (by decide +kernel)
set_option maxRecDepth 100000 in
set_option maxHeartbeats 4000000 in
theorem ch_X12_beginText_r1 : CH wsX12_beginText_r1 19998961844788747578173362961664815671796935077863480024213344421170655528742472043246514938404950300912356797284495368371967067696183804263163962020564852204654766286951353190201189927605000219776659486124878646831260354144727700832796085779184286288040642293549257549242506953698365721497809260114324712547441672848563194822656 := ch_to (ch_of (n := [850, 851, 853, 856, 1077, 1078, 90, 156, 1079, 845, 849, 848, 1080, 1081, 91, 1082, 844, 843, 842, 847, 846, 1089, 1090, 1008]) rfl) (by decide +kernel)
set_option maxRecDepth 100000 in
set_option maxHeartbeats 4000000 in
theorem ch_X12_beginText_r2 : CH wsX12_beginText_r2 86116491519168440415248216436744237097772914246928891022313268884258203725115676334212699232173691919064870034695584361651908103165331123035843173991034589413302721976238129987155695914346063110892407626143930589083033578961688982331821446795476023535264733281348381993820585784695878875221095512372641694939254412119429223546880 := ch_to (ch_of (n := [1091, 1045, 1092, 1083, 1084, 1085, 1086, 1087, 1088]) rfl) (by decide +kernel)
set_option maxRecDepth 100000 in
set_option maxHeartbeats 4000000 in
theorem ch_X12_beginText : CH wsX12_beginText 106116262972970417235894989379795928438798057068299641872811634563858908139810530943602933311666009068425637887912959574473432877393949797047629091007408217163463842954810391287563266034217133529398517542681363507206872220787435836986487838088972219347587404145076222196755051464543849506988595444934132663087846238856862679171072 := ch_to (ch_cons 1076 rfl (ch_app (ch_app ch_X12_beginText_r1 ch_X12_beginText_r2) ch_X120)) (by decide +kernel)
set_option maxRecDepth 100000 in
set_option maxHeartbeats 4000000 in
theorem ch_X12_endText_r1 : CH wsX12_endText_r1 47640023948483596092000515742329564647866469217468672652116366857098304775964645542616010664461014209430627654573423907143515325358096805151084163765011768437377190970227809049355975316027166871188661880274457114321705336458403864106490578217930915276043482292352806239134879283762459011972971374881508753032753880378178610216828928 := ch_to (ch_of (n := [849, 846, 850, 843, 1099, 1100, 94, 156, 1101, 844, 848, 1080, 1081, 91, 1082, 845, 842, 847, 1089, 1090, 1008, 1091, 1045, 1092]) rfl) (by decide +kernel)
set_option maxRecDepth 100000 in
set_option maxHeartbeats 4000000 in
theorem ch_X12_endText_r2 : CH wsX12_endText_r2 6528687082680611305578089903765396656190499294792168169720210204532793033105257909347074136673555887716754383591403085013789670633116154389822384228488461376028466037464924552172244576128958786303029946236816864931536113385346887686625541839819290649329169182862644470680066621828875089678202180118885578029253420896711767752704 := ch_to (ch_of (n := [1083, 1084, 1085, 1086, 1087, 1088]) rfl) (by decide +kernel)
set_option maxRecDepth 100000 in
set_option maxHeartbeats 4000000 in
theorem ch_X12_endText : CH wsX12_endText 125280926705350798326368894972499605208416240378800086499322833951523914120940229303975332853509871141772963439974186853741346888375750769337614274567178768037108741281774779876113522092375872386158392642194394516237294205189295186277319751267542743235583155947175140288666463858865676708959690710927990013374203824518537914888420017224619340427427840 := ch_to (ch_cons 1163 rfl (ch_app (ch_app ch_X12_endText_r1 ch_X12_endText_r2) ch_X120)) (by decide +kernel)
set_option maxRecDepth 100000 in
set_option maxHeartbeats 4000000 in
theorem ch_X12_readLaw_r1 : CH wsX12_readLaw_r1 15660115838168849838323388049645715553591502727882304039316150202471978617816527217718474045772913343169219833573484299628285988977699528948313004907455513583471681400348389917832564581581647105682681161059377475988817914975930616873075516431162483967373012176762868722859726817665488965063260531138929442098661976060368092281148313322707378019237888 := ch_to (ch_of (n := [863, 851, 849, 852, 853, 1160, 1096, 1097, 93, 156, 1098, 846, 847, 1099, 1100, 94, 1101, 844, 848, 1080, 1081, 91, 1082, 845]) rfl) (by decide +kernel)
set_option maxRecDepth 100000 in
set_option maxHeartbeats 4000000 in
theorem ch_X12_readLaw_r2 : CH wsX12_readLaw_r2 3423018306647080630482367371387095944799251311140769576609688442449109976786013266529486743043641445911933461266567904102592503746144953927910007596089260686323276927105528351419727620190239729648452750637220535474920303499779011604259703521839542914853146637808115879538871938586126242508140811376639386461288493917829963321131925504 := ch_to (ch_of (n := [843, 842, 1089, 1090, 1008, 1091, 1045, 1092, 1083, 1084, 1085, 1086, 1087, 1088, 1102, 1103, 95, 1104, 859, 860, 1105, 1106, 96, 1107]) rfl) (by decide +kernel)
set_option maxRecDepth 100000 in
set_option maxHeartbeats 4000000 in
theorem ch_X12_readLaw_r3 : CH wsX12_readLaw_r3 1851559532671201094751628316726563878410265094056163211090180590925863654356811093538945980260693051521706808895657195181403977228687180636159264503186299334681466939085180535845951932230731026977019041927158100393589938485103880535312816576500008938440100366392324586780134374769762429226315617976878119458602043520270264624503853087195136 := ch_to (ch_of (n := [1108, 1109, 1110, 97, 1111, 857, 858, 1112, 1113, 98, 1114, 1115, 1116, 99, 1117, 1118, 1119, 100, 1120, 850, 1127, 855, 976, 979]) rfl) (by decide +kernel)
set_option maxRecDepth 100000 in
set_option maxHeartbeats 4000000 in
theorem ch_X12_readLaw_r4 : CH wsX12_readLaw_r4 1864979720341130385828871675389873860367075941337650900061867606996411240849614424345108110016786138357653635290628864374002466896719174472663245046833758096253554016733661894224048081006278759513152297012440576050536148550567016573628772519139625585276557524464161792582049099518417783957728889329988292071003863481111408963338201126854983680 := ch_to (ch_of (n := [1121, 1122, 101, 1123, 862, 1124, 1125, 102, 1126, 861, 1128, 1129, 103, 1130, 856, 1131, 1132, 104, 1133, 854, 1134, 1135, 105, 1136]) rfl) (by decide +kernel)
set_option maxRecDepth 100000 in
set_option maxHeartbeats 4000000 in
theorem ch_X12_readLaw_r5 : CH wsX12_readLaw_r5 122342788154410787898243497387333785499978440416498473515674392395791017229460347812605681827663166970358472583683933118017114529457169295454032037738442189039420791920243438728521421285348928661348929052117393129845269726616878155355569638650738662942858572293767733193866059363396651289188855740542173044385368318075543737958895479957275300331520 := ch_to (ch_of (n := [965, 966, 967, 1137, 1138, 106, 1139, 1140, 1141, 1142, 1143, 1144, 107, 1145, 1146, 1147, 108, 1148, 1149, 1150, 109, 1151, 1044, 1152]) rfl) (by decide +kernel)
set_option maxRecDepth 100000 in
set_option maxHeartbeats 4000000 in
theorem ch_X12_readLaw_r6 : CH wsX12_readLaw_r6 15537771183183155645896228004678254609520496690833962958749630983013603240207357413733863440292124835248224504745871297822292588122179182265184738690113498924260376134756078001489884932042052417501461414284024292210381915631007759441618225567700205802604559860348190023392699861292975607520713609976761518315486743226182048203861948983124554057515008 := ch_to (ch_of (n := [1153, 1154, 1155, 1156, 110, 1157, 1158, 1159]) rfl) (by decide +kernel)
set_option maxRecDepth 100000 in
set_option maxHeartbeats 4000000 in
theorem ch_X12_readLaw : CH wsX12_readLaw 31320231676337699569362221412743171215478945813077187570853421828291815458333115922789094923203318560231301917619616371635859528406040010360114047400189270831896795377175610014225369578309806309795577661594346238811857635221615533088810520738140515006092975185552601737932346872231933407435476844457331612399154837741026791141826686406165119111266304 := ch_to (ch_cons 1095 rfl (ch_app (ch_app ch_X12_readLaw_r1 (ch_app ch_X12_readLaw_r2 (ch_app ch_X12_readLaw_r3 (ch_app ch_X12_readLaw_r4 (ch_app ch_X12_readLaw_r5 ch_X12_readLaw_r6))))) ch_X120)) (by decide +kernel)
set_option maxRecDepth 100000 in
set_option maxHeartbeats 4000000 in
theorem ch_X12_law_r1 : CH wsX12_law_r1 6274469852526629168927355748286436520668043582682155467891244496198995236767574092760002765019322763033299062585482787369500125974466004229372390849367943709704718217326193949621831847639904097804612389239308803813336237812646010804256316573661817565704190577628752331674722368365314285605736099641979619623579748790215639040 := ch_to (ch_of (n := [830, 833, 843, 849, 851, 852, 853, 854, 855, 955, 956, 74, 156, 957, 831, 832, 1074, 1075, 89, 1076, 850, 856, 1077, 1078]) rfl) (by decide +kernel)
set_option maxRecDepth 100000 in
set_option maxHeartbeats 4000000 in
theorem ch_X12_law_r2 : CH wsX12_law_r2 106110595709877812538581119510087798754200659965198031635686047672836200358832343439153903038000752048544283243844488691725879299890117576686546290855044166145910236853578752605976361916022313918471367281194673351559838580280850648477657675898238714693070370519553764240371516997936498802034495471719180097311728649709794533310464 := ch_to (ch_of (n := [90, 1079, 845, 848, 1080, 1081, 91, 1082, 844, 842, 847, 846, 1089, 1090, 1008, 1091, 1045, 1092, 1083, 1084, 1085, 1086, 1087, 1088]) rfl) (by decide +kernel)
set_option maxRecDepth 100000 in
set_option maxHeartbeats 4000000 in
theorem ch_X12_law_r3 : CH wsX12_law_r3 15660115838168853261978410085962456943683631837703230064715871966629947449060792734381469294189272069594061206404492939138134926485289817542570809751334743239933069276117917048868239608596569732980351428755028815564970132371901945964181341510809315088137998580450202794976218039168766589999373267162586141946211269025340703125787424180990023447871488 := ch_to (ch_of (n := [1093, 1094, 92, 1095, 863, 1160, 1096, 1097, 93, 1098, 1099, 1100, 94, 1101, 1102, 1103, 95, 1104, 859, 860, 1105, 1106, 96, 1107]) rfl) (by decide +kernel)
set_option maxRecDepth 100000 in
set_option maxHeartbeats 4000000 in
theorem ch_X12_law_r4 : CH wsX12_law_r4 1937016286974990423729139199807158669708721323898581269470006816598134334849683407337037212164386650266439048947782279601964243881604902585365191009574060840622901094903565313586253655545438139453406177748744978366826415642504852264133292729628040756220429252506053350264304886747134752982803455539783452735176763000682768361402725826560000 := ch_to (ch_of (n := [1108, 1109, 1110, 97, 1111, 857, 858, 1112, 1113, 98, 1114, 1115, 1116, 99, 1117, 1118, 1119, 100, 1120, 1127, 976, 979, 1121, 1122]) rfl) (by decide +kernel)
set_option maxRecDepth 100000 in
set_option maxHeartbeats 4000000 in
theorem ch_X12_law_r5 : CH wsX12_law_r5 3731725546937872417789945242363413346420986644758713956280590176256510074920403093842017815489524687678153240055895020785575198548776958613515019770230081753552479512815570032290155846656890536963556858021181502326106096261389411069406451174384450096423460234371683768773264170006762854557426494778262068333998503817479015909225892938147430400 := ch_to (ch_of (n := [101, 1123, 862, 1124, 1125, 102, 1126, 861, 1128, 1129, 103, 1130, 1131, 1132, 104, 1133, 1134, 1135, 105, 1136, 965, 966, 967, 1137]) rfl) (by decide +kernel)
set_option maxRecDepth 100000 in
set_option maxHeartbeats 4000000 in
theorem ch_X12_law_r6 : CH wsX12_law_r6 1957510746108539521013394018912427733153972007510562794116062042420986465341114346184669788416256214442659762558811379603523363458587501033168278098861479900732569600224548864537939633770314150836621782663706810262331604233524212554186463646531324865848168613934980616667901645296193618752423528820549948892251846992563789710978420149574566416482304 := ch_to (ch_of (n := [1138, 106, 1139, 1140, 1141, 1142, 1143, 1144, 107, 1145, 1146, 1147, 108, 1148, 1149, 1150, 109, 1151, 1044, 1152, 1153, 1154, 1155, 1156]) rfl) (by decide +kernel)
set_option maxRecDepth 100000 in
set_option maxHeartbeats 4000000 in
theorem ch_X12_law_r7 : CH wsX12_law_r7 232944223092761640549499355282735407689189178735022562783144073950062209207518177289364377876505556585138735882174322449241299903815977661676470413117922062612533513075398208778242054414236754353722697108636080727311552498908966724227095287251190486993378598221283100823147248314187602808814478058234282920257376055910816163395795395624457987780771840 := ch_to (ch_of (n := [110, 1157, 1158, 1159, 1161, 1162, 111, 1163]) rfl) (by decide +kernel)
set_option maxRecDepth 100000 in
set_option maxHeartbeats 4000000 in
theorem ch_X12_law : CH wsX12_law 250561853410701596557444684572665530922070346894045231169237920371477340005148318336204303560699770576460207439877816056015581253381085201820894133710721193055017194928537891119172172831298170568903513011371039478764142967972125152054427504316289084523328789669716327372957661032626150093466965881906220560617521887890520944783770498348688602801635328 := ch_to (ch_cons 1073 rfl (ch_app (ch_app ch_X12_law_r1 (ch_app ch_X12_law_r2 (ch_app ch_X12_law_r3 (ch_app ch_X12_law_r4 (ch_app ch_X12_law_r5 (ch_app ch_X12_law_r6 ch_X12_law_r7)))))) ch_X120)) (by decide +kernel)
set_option maxRecDepth 100000 in
set_option maxHeartbeats 4000000 in
theorem ch_X12_isLaw : CH wsX12_isLaw 16035958618284902179676459819127466048654098757960544826214424483791028720872782133057803542185829587967523407679784648878334596284386626759548688220330734374355225790046122242750483886611790611076069917636305366382058826056119058687413190317793646129254865517318638950551390220468874841336510267652277378484501600008272534600623372374330701443263102976 := ch_to (ch_cons 1170 rfl (ch_app (ch_of (n := [833, 965, 966, 156, 967]) rfl) ch_X120)) (by decide +kernel)
set_option maxRecDepth 100000 in
set_option maxHeartbeats 4000000 in
theorem ch_X12_force : CH wsX12_force 30067422409284191586893362160863998841226515707828463380904710272022640110850987049271946257546908465532413928483402602980087288581935330891175827204809806824158462664748702700439698756845389525055481863180717489777989158566854974575497094170453686963098301073578763324282742813112030078426279173940836758455712512042739089997271527675277833708284936192 := ch_to (ch_cons 1167 rfl (ch_app (ch_of (n := [830, 1168, 1169, 112, 156, 1170, 833, 965, 966, 967, 1030, 1031, 87, 1032, 831, 955, 956, 74, 957, 832]) rfl) ch_X120)) (by decide +kernel)
set_option maxRecDepth 100000 in
set_option maxHeartbeats 4000000 in
theorem ch_X12_discords_r1 : CH wsX12_discords_r1 28736437843966544705980215995876419159188144974265296338704041573674839413151657953046511670919339465550137399693917882289519385296289323540669146292404863008051795826747971044294901709197019419659801129024343129830976366689242632808514005411796879856665710976870365949115368590198493480331089244989322540377652211383148632020264621886571427443380246806528 := ch_to (ch_of (n := [833, 987, 988, 77, 156, 989, 990, 991, 78, 992, 965, 966, 967, 1178, 1179, 1180, 996, 997, 80, 998, 864, 865, 870, 999]) rfl) (by decide +kernel)
set_option maxRecDepth 100000 in
set_option maxHeartbeats 4000000 in
theorem ch_X12_discords_r2 : CH wsX12_discords_r2 137142387124268068879441662941859789689687655227485279894127601989302689055349587393737496374920064850360426251879127262362330890585970346607173053465948086334947243637512111011269175692956199914780307185680831389821803878171044667610339155975755461660362919301318768377627205370094965626765899891902251008 := ch_to (ch_of (n := [1000, 81, 1001, 868, 869, 1002, 1003, 82, 1004, 850, 854, 855, 867, 866, 1008, 1012, 1013, 1005, 1006, 83, 1007, 984, 985, 76]) rfl) (by decide +kernel)
set_option maxRecDepth 100000 in
set_option maxHeartbeats 4000000 in
theorem ch_X12_discords_r3 : CH wsX12_discords_r3 1267294660545339038460458261907805551995095960229351137215363186532936275588310043522777731669314831457295638086004190794990337313838902145681580729665761654072922759674470906020333090171203520255078260671616964627310356371712427006691634022621526479397219659340876094018582096774606566010202948013865828352 := ch_to (ch_of (n := [986, 1009, 1010, 84, 1011, 1014, 1015, 1016]) rfl) (by decide +kernel)
set_option maxRecDepth 100000 in
set_option maxHeartbeats 4000000 in
theorem ch_X12_discords : CH wsX12_discords 30789040547107012184978802852724734813415869615285650513507157235288579007144239357455021552038909336324537602267052112710385029650272638764674333515881290275135509425457195126707111781974991240183618135991095063836797221562762804666833256939436360563756102118152240023101056116402549689368568066085230956181823254632826571660766694920362051817309795778560 := ch_to (ch_cons 1177 rfl (ch_app (ch_app ch_X12_discords_r1 (ch_app ch_X12_discords_r2 ch_X12_discords_r3)) ch_X120)) (by decide +kernel)
set_option maxRecDepth 100000 in
set_option maxHeartbeats 4000000 in
theorem ch_X12_discord_r1 : CH wsX12_discord_r1 32328492574462362794227742995360971554086663096048458371739757615164017316067625677293153119586366438410757599917530020088818169391511649971638232660367704406006908772944486463088807655510585686131248640537169052580287439328054786005226180117609394247448743166539362048072684622235778281433223840395530721733345560234777099518986518410049766825666822537216 := ch_to (ch_of (n := [830, 1175, 1176, 113, 156, 1177, 833, 987, 988, 77, 989, 990, 991, 78, 992, 965, 966, 967, 1178, 1179, 1180, 996, 997, 80]) rfl) (by decide +kernel)
set_option maxRecDepth 100000 in
set_option maxHeartbeats 4000000 in
theorem ch_X12_discord_r2 : CH wsX12_discord_r2 135778891931125829242282051154260779429814829849064600064163358266214401817409427486183527738475240581780054553956761117482516918745962984149090474027815203133024470060497793172544419335396900888819501306082322554207332730126153464099745408922042761614106405541317540656561991976087471633059945427807240192 := ch_to (ch_of (n := [998, 864, 865, 870, 999, 1000, 81, 1001, 868, 869, 1002, 1003, 82, 1004, 850, 854, 855, 867, 866, 1008, 1012, 1013, 1005, 1006]) rfl) (by decide +kernel)
set_option maxRecDepth 100000 in
set_option maxHeartbeats 4000000 in
theorem ch_X12_discord_r3 : CH wsX12_discord_r3 1268666192053035175102524986883272512268548004385071041997509232429716335235119156305285634401510191755169109167055458559355324490963254667684996333658581932794306554207493001770925803581601574183405286536941443529647369620795634026389712319019949414224076104638970005489828436587093872683948097166976745472 := ch_to (ch_of (n := [83, 1007, 984, 985, 76, 986, 1009, 1010, 84, 1011, 1014, 1015, 1016]) rfl) (by decide +kernel)
set_option maxRecDepth 100000 in
set_option maxHeartbeats 4000000 in
theorem ch_X12_discord : CH wsX12_discord 32585067912354921229102566352467011010865128676177231534043172532981670412158817153553349065981811472367327373142934836866389408522312988302018092185273878855370810530577984305707376040731465200464847313992196425660583136736134114851310397841881356497395676770472663452918730691842069182351992591252755976826467943556450392484834583821220789484682230104064 := ch_to (ch_cons 1174 rfl (ch_app (ch_app ch_X12_discord_r1 (ch_app ch_X12_discord_r2 ch_X12_discord_r3)) ch_X120)) (by decide +kernel)
set_option maxRecDepth 100000 in
set_option maxHeartbeats 4000000 in
theorem ch_X12_isMet : CH wsX12_isMet 276395269594082788852033711795766792735688489261047695887197426319230689825907921098542792739550158039963070083654695342804584110952757195740149152627481213835301653956600750901374814329154573932911633746840447595124126877236133827585692835190604361333359964237087243641725745934726438171450941312558459025395501496083842476361794524097276078905611470606696448 := ch_to (ch_cons 1194 rfl (ch_app (ch_of (n := [833, 990, 991, 78, 156, 992, 1186, 1187, 114, 1188, 987, 988, 77, 989, 965, 966, 967]) rfl) ch_X120)) (by decide +kernel)
set_option maxRecDepth 100000 in
set_option maxHeartbeats 4000000 in
theorem ch_X12_sounds_r1 : CH wsX12_sounds_r1 268513275214023393732679138265469260623454026639534928894216513469926151536098465756264892398993452440907864292440376114213714053430578618133009992249728658934466966759588905619723319836924131632513943943685561050968526023549371863431205691937200395650478458123495663095512907529706745674140926598206709804842974547141450739124589106394038033144677628108603392 := ch_to (ch_of (n := [830, 1185, 965, 966, 156, 967, 1186, 1187, 114, 1188, 833, 987, 988, 77, 989, 990, 991, 78, 992, 1189, 1190, 1191, 1192, 1193]) rfl) (by decide +kernel)
set_option maxRecDepth 100000 in
set_option maxHeartbeats 4000000 in
theorem ch_X12_sounds_r2 : CH wsX12_sounds_r2 269038741506027353407302776500822429430936324147635780027081825256261573300652275303085695894313221457599545609874399809196639488919010328515493904417636208510304741744624857513823123383125861311038547881547758222364776332316258893904571465094343227886487246495928655917415290434104709074956887069963248039937292386660490045232593315576386659089392582212452352 := ch_to (ch_of (n := [115, 1194]) rfl) (by decide +kernel)
set_option maxRecDepth 100000 in
set_option maxHeartbeats 4000000 in
theorem ch_X12_sounds : CH wsX12_sounds 537814749866052726977293733883968274458131499541221134487731035821164542788944067511209069511856462093001691069159175043273574696700436847980066231260599627451942538305148462832904495126570293461110976708993654178296965559578522439383197680483237122135099687776131575174073438146262066794383778786417832578586759339886548481094076443232536050913047206648872960 := ch_to (ch_cons 1184 rfl (ch_app (ch_app ch_X12_sounds_r1 ch_X12_sounds_r2) ch_X120)) (by decide +kernel)
set_option maxRecDepth 100000 in
set_option maxHeartbeats 4000000 in
theorem ch_X12_flare_r1 : CH wsX12_flare_r1 21066758688066831197352300191753933922743019860286011013016783972832870639513807522644292737227957984365008392186919916158429056886710789923176798362711695128612367668855754710407516342498782206008865788996962295927957917254520881869646042067086727175087028474010512099156960626634136424686265527901133733888 := ch_to (ch_of (n := [833, 1017, 1018, 85, 156, 1019, 1020, 996, 997, 80, 998, 864, 865, 870, 990, 991, 78, 992, 999, 1000, 81, 1001, 868, 869]) rfl) (by decide +kernel)
set_option maxRecDepth 100000 in
set_option maxHeartbeats 4000000 in
theorem ch_X12_flare_r2 : CH wsX12_flare_r2 137110250695013524292701100218244831999827719162427067213307196696648293564771864878338669960282233706180280500654197338208637928127369862609718806874915509250046492880674522563370615382611747726603267414949081254201162468082443310970283968089427508373314957638966399903347795393727811400390961231019638784 := ch_to (ch_of (n := [1002, 1003, 82, 1004, 850, 854, 855, 867, 866, 1008, 1012, 1013, 1005, 1006, 83, 1007, 987, 988, 77, 989, 965, 966, 967, 984]) rfl) (by decide +kernel)
set_option maxRecDepth 100000 in
set_option maxHeartbeats 4000000 in
theorem ch_X12_flare_r3 : CH wsX12_flare_r3 1267294660872337514774626755849585657299051590893842351725108550132713615789222839886588804207522344523609071352482057285942835734611346385699987115041267561503909539579700635476638967411836900536522692491622890596336432878779746991658637427137076526579747214106842783401105966637290657426606236514773893120 := ch_to (ch_of (n := [985, 76, 986, 1009, 1010, 84, 1011, 1014, 1015, 1016]) rfl) (by decide +kernel)
set_option maxRecDepth 100000 in
set_option maxHeartbeats 4000000 in
theorem ch_X12_flare : CH wsX12_flare 1128430269653696552505663664688505519051893948117725342710731879163238576123455470057789582654525157564663885994704700401788515327032389599111689673107327559664112164559972401115155449171096794697972380659975718226057759478075831899472052711598197789263781035326848534547892950942417813650156911558509977556724934689676540348047045843557577202941638051922505239625728 := ch_to (ch_cons 1216 rfl (ch_app (ch_app ch_X12_flare_r1 (ch_app ch_X12_flare_r2 ch_X12_flare_r3)) ch_X120)) (by decide +kernel)
set_option maxRecDepth 100000 in
set_option maxHeartbeats 4000000 in
theorem ch_X12_canStoke_r1 : CH wsX12_canStoke_r1 157298234424695996030656547118236676917302760251950149199382315100192698837412051144094835436050071503204419795563876897135103686052197314348599485832498478802938815143157729568279233818366508155391472725440609342311518915544933603831666057810983152146190245636959476980285653581107661733068084013400753963008 := ch_to (ch_of (n := [833, 1021, 1022, 86, 156, 1023, 996, 997, 80, 998, 864, 865, 870, 990, 991, 78, 992, 999, 1000, 81, 1001, 868, 869, 1002]) rfl) (by decide +kernel)
set_option maxRecDepth 100000 in
set_option maxHeartbeats 4000000 in
theorem ch_X12_canStoke_r2 : CH wsX12_canStoke_r2 137067390677724549914031657158062537231360893634450060378754810280890819723639663797250014563337118938168609980215361703288128863088386410066381253940122622381817534514804955095734808324824878523480187418226395037327304647384693700867050710429193247304184227619022343117201023537085216761383174994932006912 := ch_to (ch_of (n := [1003, 82, 1004, 850, 854, 855, 867, 866, 1008, 1012, 1013, 1005, 1006, 83, 1007, 987, 988, 77, 989, 965, 966, 967, 984, 985]) rfl) (by decide +kernel)
set_option maxRecDepth 100000 in
set_option maxHeartbeats 4000000 in
theorem ch_X12_canStoke_r3 : CH wsX12_canStoke_r3 38402869135552773411128541641870675498432009780508753510274741118748062074143303357778374973169565687919859610320837764119704128584101015359381496778731506959275050715429502764360885865810298735379451428848370504393310691636997152866056118533840287850878277707961945893942720242030455890481230268648652800 := ch_to (ch_of (n := [76, 986, 1009, 1010, 84, 1011]) rfl) (by decide +kernel)
set_option maxRecDepth 100000 in
set_option maxHeartbeats 4000000 in
theorem ch_X12_canStoke : CH wsX12_canStoke 275495671302172009889078043136842167737278795927179038905205493746921124413859154135610620537402944925886207311893314812360996108424000638080037205132814867257207618186235525411153339597203275223197343537724082112903763327781638997583082034654131110310134955784970102588505889177791402834820346952121770287990488037370791335134364721303551612791487654826801627136 := ch_to (ch_cons 1204 rfl (ch_app (ch_app ch_X12_canStoke_r1 (ch_app ch_X12_canStoke_r2 ch_X12_canStoke_r3)) ch_X120)) (by decide +kernel)
set_option maxRecDepth 100000 in
set_option maxHeartbeats 4000000 in
theorem ch_X12_stokeIt_r1 : CH wsX12_stokeIt_r1 1974752971893968966884911413204884658340814409206019349743762530736626043084605327478681959559250370330493593587365244677383796566872879268766204467382977193329400306223899505846943892894691389429371863441982821391736570425465165524820023639806878294527644705010272439617465588330013095001486040232750851943254753312684185306914275249507044190530810814709792354861056 := ch_to (ch_of (n := [833, 1214, 1215, 121, 156, 1216, 1017, 1018, 85, 1019, 1020, 996, 997, 80, 998, 864, 865, 870, 990, 991, 78, 992, 999, 1000]) rfl) (by decide +kernel)
set_option maxRecDepth 100000 in
set_option maxHeartbeats 4000000 in
theorem ch_X12_stokeIt_r2 : CH wsX12_stokeIt_r2 137131680703655828531697268148541980226406253788385409066305299879518500869027441673505986653631004149085131866813413741135287169602885783954506281339279934681292976558325117372389501495135715001915872461655716522537847733513756870468370210093885634934428549402958350472342096301389808811541197145050710016 := ch_to (ch_of (n := [81, 1001, 868, 869, 1002, 1003, 82, 1004, 850, 854, 855, 867, 866, 1008, 1012, 1013, 1005, 1006, 83, 1007, 987, 988, 77, 989]) rfl) (by decide +kernel)
set_option maxRecDepth 100000 in
set_option maxHeartbeats 4000000 in
theorem ch_X12_stokeIt_r3 : CH wsX12_stokeIt_r3 1267294661035838935882049556420269709108684290268269595254797333214288304300725653769001072156073053354540545556019056999720320780539241600563240113222086948688557303566681475210996696282112281734127738173643084607958410477230274689716074417846839397356460856538123401505859796926803211685480175996827074560 := ch_to (ch_of (n := [965, 966, 967, 984, 985, 76, 986, 1009, 1010, 84, 1011, 1014, 1015, 1016]) rfl) (by decide +kernel)
set_option maxRecDepth 100000 in
set_option maxHeartbeats 4000000 in
theorem ch_X12_stokeIt : CH wsX12_stokeIt 2115806755600681035948119371290947848222301152720735017582602611162922650322022130856518935957788989325597539975673505691937129397596980208928808550222523127076266731638613542188606533157142835723264828002022095666268046454097819100244132461637878945098835413762850636623301745480229041630593886415468217275263436745398725381738943191291376602186408242408209172660224 := ch_to (ch_cons 1213 rfl (ch_app (ch_app ch_X12_stokeIt_r1 (ch_app ch_X12_stokeIt_r2 ch_X12_stokeIt_r3)) ch_X120)) (by decide +kernel)
set_option maxRecDepth 100000 in
set_option maxHeartbeats 4000000 in
theorem ch_X12_stokeNow_r1 : CH wsX12_stokeNow_r1 482117424778801017305886575489473793540237892872563317965828784848668034571052538968924845239411699315225374379422106693268054040541122208110449039218431567484515271805466465473370537629582451775295567078604230727575747847812283168233188311612742367248245505145295377536815112974863241563561385389924570656012140257231817561179498515431160633501662951308921929728 := ch_to (ch_of (n := [833, 984, 985, 76, 156, 986, 965, 966, 967, 1202, 1203, 117, 1204, 1021, 1022, 86, 1023, 996, 997, 80, 998, 864, 865, 870]) rfl) (by decide +kernel)
set_option maxRecDepth 100000 in
set_option maxHeartbeats 4000000 in
theorem ch_X12_stokeNow_r2 : CH wsX12_stokeNow_r2 135776286407266557947722323050381717511349686941855952962980221194588686168262484785522308193101709885986644835234541237091115902215556050297005765875238421442004115159836825588685674721737860215576947978774846072563420003138147979904803053832516134251136027178002121862811545013743339809531092393879666688 := ch_to (ch_of (n := [990, 991, 78, 992, 999, 1000, 81, 1001, 868, 869, 1002, 1003, 82, 1004, 850, 854, 855, 867, 866, 1008, 1012, 1013, 1005, 1006]) rfl) (by decide +kernel)
set_option maxRecDepth 100000 in
set_option maxHeartbeats 4000000 in
theorem ch_X12_stokeNow_r3 : CH wsX12_stokeNow_r3 140502792364107725043429801999789505546012185922861309761343252196238698752112394577651664774061855571022002962717795295788932275304602173691556776108918617315815133857730407789234648026817808414341256836974331078613608891774297593371250297927333751691448037583573332219456272397164384566563622162528815518694945716746302028665120104260039850915850462391929587892224 := ch_to (ch_of (n := [83, 1007, 987, 988, 77, 989, 1009, 1010, 84, 1011, 1205, 1206, 118, 1207, 838, 836, 837, 1208, 1209, 119, 1210, 1211, 1212, 120]) rfl) (by decide +kernel)
set_option maxRecDepth 100000 in
set_option maxHeartbeats 4000000 in
theorem ch_X12_stokeNow_r4 : CH wsX12_stokeNow_r4 2115806755600681035948119371290947848222301152720735017582602435607538593690594453836487724754038936105101687528180375083542401851655022617608248296432620565705004175720861271705240975743602567874705375633324616347405391128481086609970672102934571753808402489330551877512106054695505428471141495892598961703486273741614307943170038307025527982342574763056327328530432 := ch_to (ch_of (n := [1213, 1214, 1215, 121, 1216, 1017, 1018, 85, 1019, 1020, 1014, 1015, 1016]) rfl) (by decide +kernel)
set_option maxRecDepth 100000 in
set_option maxHeartbeats 4000000 in
theorem ch_X12_stokeNow : CH wsX12_stokeNow 2256826102348480333510091194621618932832820736385959788041755118838545169225218341683578373981943780470470369627662729974177525239093476909265181334730138750934791277799661019057662341725954226998586706599196066852981402788223994630338249531337612441972787859385886213874204967883712692716066844055069022823334344100561656322503547103515555046636705169572147677364224 := ch_to (ch_cons 1201 rfl (ch_app (ch_app ch_X12_stokeNow_r1 (ch_app ch_X12_stokeNow_r2 (ch_app ch_X12_stokeNow_r3 ch_X12_stokeNow_r4))) ch_X120)) (by decide +kernel)
set_option maxRecDepth 100000 in
set_option maxHeartbeats 4000000 in
theorem ch_X12_stoke_r1 : CH wsX12_stoke_r1 542382102876151144469122397425658017732767629481633732691895111027299109024730346265753418469733334509974431898756987393085970105706471889486996915326806055433863735678858482128293635999182954050829407838261185617010738569883754724690036288467607370753134623862139647823959306299029817305114723442393345714770211107961849802692263241097632591879591034305078362112 := ch_to (ch_of (n := [830, 1199, 1200, 116, 156, 1201, 833, 984, 985, 76, 986, 965, 966, 967, 1202, 1203, 117, 1204, 1021, 1022, 86, 1023, 996, 997]) rfl) (by decide +kernel)
set_option maxRecDepth 100000 in
set_option maxHeartbeats 4000000 in
theorem ch_X12_stoke_r2 : CH wsX12_stoke_r2 340277230440334248143767911820138660914530495517202266234755526326233959683887096723501214654210968661139588220137332138508007661964253161275737596948482152330232158178911729338538229285712699034888124995232172255994575585909674760655544926839255260098749639898069342681008145219362853574203464839331840 := ch_to (ch_of (n := [80, 998, 864, 865, 870, 990, 991, 78, 992, 999, 1000, 81, 1001, 868, 869, 1002, 1003, 82, 1004, 850, 854, 855, 867, 866]) rfl) (by decide +kernel)
set_option maxRecDepth 100000 in
set_option maxHeartbeats 4000000 in
theorem ch_X12_stoke_r3 : CH wsX12_stoke_r3 17080731620734664613122838674484214399711285347485100402359546134966137821480929858736696795382731562473495794544675524569445528856890539390300056744601475345763140939557043872811966183726164794674811764279078088572844752708222971554396051555381595583299577619935483967473965555675600989430948157884513967952873139704506857346630502091392284037662681102035642744832 := ch_to (ch_of (n := [1008, 1012, 1013, 1005, 1006, 83, 1007, 987, 988, 77, 989, 1009, 1010, 84, 1011, 1205, 1206, 118, 1207, 838, 836, 837, 1208, 1209]) rfl) (by decide +kernel)
set_option maxRecDepth 100000 in
set_option maxHeartbeats 4000000 in
theorem ch_X12_stoke_r4 : CH wsX12_stoke_r4 2239228816344054096378426334616253139368602053296111226941586277107499102965417418223768887666745742377615741973244522877791955230813905426548804000855861249950196105880147266258181363288291973005271081170887163646817509974468731902582816133977532986828119189411252936376540098235267379807228136676157140265362336075632812526480547100720836805500748820742064694099968 := ch_to (ch_of (n := [119, 1210, 1211, 1212, 120, 1213, 1214, 1215, 121, 1216, 1017, 1018, 85, 1019, 1020, 1014, 1015, 1016, 955, 956, 74, 957, 831, 832]) rfl) (by decide +kernel)
set_option maxRecDepth 100000 in
set_option maxHeartbeats 4000000 in
theorem ch_X12_stoke : CH wsX12_stoke 2256856234687529008573672812532587024944917001254264323249118152002973870521430146525852313329682770853670968474214090199663111501794845925831374333540897444943610083868324629322888469728208125323497528857432006478381997957035415693780019504844893365298821159990204945133580790837353855085040824853174627048867627914364251687799497531077654942797850568517561400426496 := ch_to (ch_cons 1198 rfl (ch_app (ch_app ch_X12_stoke_r1 (ch_app ch_X12_stoke_r2 (ch_app ch_X12_stoke_r3 ch_X12_stoke_r4))) ch_X120)) (by decide +kernel)
set_option maxRecDepth 100000 in
set_option maxHeartbeats 4000000 in
theorem ch_X12_dampNow : CH wsX12_dampNow 144473786970257232393970972913563948551777322487355668614354807316406217542309087678465550081799101365642128143183722585060828034933611666688345526585516876297342172206624558535148272450256728094727261007840916193742521735544395576375445813420345979050712692608387130177144578054490798065923603222486822236494186101841850687632315497273462909644921234408425571810803712 := ch_to (ch_cons 1223 rfl (ch_app (ch_of (n := [1044, 833, 965, 966, 156, 967, 984, 985, 76, 986, 1205, 1206, 118, 1207, 838, 836, 837, 1208, 1209, 119, 1210, 1014, 1015, 1016]) rfl) ch_X120)) (by decide +kernel)
set_option maxRecDepth 100000 in
set_option maxHeartbeats 4000000 in
theorem ch_X12_damp_r1 : CH wsX12_damp_r1 252785461134048762425881783728899720482023955663717962056103054420979770200412018999736679054141229677243312548124804971143476310412412323171110937235081351159110453468427667914408131401273778558745909282308520543439203858585197880514231453156260760765071955529975471506237788447665919484621867165177396460173039476801933230487100203560342301901693218616876505703120896 := ch_to (ch_of (n := [830, 1221, 1222, 122, 156, 1223, 1044, 833, 965, 966, 967, 984, 985, 76, 986, 1205, 1206, 118, 1207, 838, 836, 837, 1208, 1209]) rfl) (by decide +kernel)
set_option maxRecDepth 100000 in
set_option maxHeartbeats 4000000 in
theorem ch_X12_damp_r2 : CH wsX12_damp_r2 17631722963339008632900994760757898735185842939339458479856063391785768254098728631423283850805035247793040360915480887321901774097619410343172252660451590145373316607907269933815784893655441250414694093004751032393844603408534276789820030028729359544623429771800745093334589742105109482322219055359597706795626312287046243848786244278366204133726126871809835925504 := ch_to (ch_of (n := [119, 1210, 1014, 1015, 1016, 955, 956, 74, 957, 831, 832]) rfl) (by decide +kernel)
set_option maxRecDepth 100000 in
set_option maxHeartbeats 4000000 in
theorem ch_X12_damp : CH wsX12_damp 270857977171471246274605303358676566685589444676540906997954261012365779039725622392490347298366670658344033200445172716492557592204957874832346142119755372844851422444628212804831195780283056334193138253563725712365918158789072139716717674086928357354484163062228110430046816827771747790061093589804230688808867175811345661335288911764266285800955487525029460234469376 := ch_to (ch_cons 1220 rfl (ch_app (ch_app ch_X12_damp_r1 ch_X12_damp_r2) ch_X120)) (by decide +kernel)
set_option maxRecDepth 100000 in
set_option maxHeartbeats 4000000 in
theorem ch_X12_buyNow : CH wsX12_buyNow 18488236250460748389926039506089909666259365343089098839531145156100398081215004100380012885587592417406317023386181723757402795801025591308521720392939408268308026284829046825146250116674665332410985164479688538542298800829721141774730809330367290536741689610326713511948960029378615887572978227691969526572259512231362973411928152693915745438817386501566026085151277056 := ch_to (ch_cons 1230 rfl (ch_app (ch_of (n := [978, 833, 965, 966, 156, 967, 984, 985, 76, 986, 1205, 1206, 118, 1207, 838, 836, 837, 1208, 1209, 119, 1210, 1014, 1015, 1016]) rfl) ch_X120)) (by decide +kernel)
set_option maxRecDepth 100000 in
set_option maxHeartbeats 4000000 in
theorem ch_X12_buy_r1 : CH wsX12_buy_r1 32354369772242408288107001716787504726470302991716768511301862505536569614020449578510550615100954702094264618460804719397761904360302664782021986774775789152185781402459755982488384965291823333938278690461846924321759847308944878880941819327227539777817172281124573428710492123206070427891662317298699939251277127964454347304236171750291003164160785721355813232318611456 := ch_to (ch_of (n := [830, 1228, 1229, 123, 156, 1230, 978, 833, 965, 966, 967, 984, 985, 76, 986, 1205, 1206, 118, 1207, 838, 836, 837, 1208, 1209]) rfl) (by decide +kernel)
set_option maxRecDepth 100000 in
set_option maxHeartbeats 4000000 in
theorem ch_X12_buy_r2 : CH wsX12_buy_r2 17631722963339008632900994760757898735185842939339458479856063391785768254098728631423283850805035247793040360915480887321901774097619410343172252660451590145373316607907269933815784893655441250414694093004751032393844603408534276789820030028729359544623429771800745093334589742105109482322219055359597706795626312287046243848786244278366204133726126871809835925504 := ch_to (ch_of (n := [119, 1210, 1014, 1015, 1016, 955, 956, 74, 957, 831, 832]) rfl) (by decide +kernel)
set_option maxRecDepth 100000 in
set_option maxHeartbeats 4000000 in
theorem ch_X12_buy : CH wsX12_buy 34665412596216142166647233803064324787387316983304809352631875229183221952884320273038182050102016835804756407558072072685490395689394922469852805474858265908707520177497440868705953861281856103557605065717717259728980622335179242273823009607678929784300105056636204663539707632158556159347099181334000079889136082723152308293326566182623504873051208614258317515542233088 := ch_to (ch_cons 1227 rfl (ch_app (ch_app ch_X12_buy_r1 ch_X12_buy_r2) ch_X120)) (by decide +kernel)
set_option maxRecDepth 100000 in
set_option maxHeartbeats 4000000 in
theorem ch_X12_goOn : CH wsX12_goOn 2423285551989543969259886147306320615721694717012975552426444448158985017722862515205247417998264160128746042156576056692290115631324825759276101328563224358506600914178426103957432245611416506747275814578058806118479780381798705627636121842602038362467563904685455143802926767839197362614275170872499474911573323670252585291270901550013827451326937868833649954935695755706368 := ch_to (ch_cons 1247 rfl (ch_app (ch_of (n := [833, 990, 991, 78, 156, 992]) rfl) ch_X120)) (by decide +kernel)
set_option maxRecDepth 100000 in
set_option maxHeartbeats 4000000 in
theorem ch_X12_passIt_r1 : CH wsX12_passIt_r1 302910693998693474332324642692379101345755657724448831857594858954658772158582781383815518766848364360485169798507140806464257543107158971990050257885313749116879287050137782560076322983389447686583257836044805783046910772690736381419096946795679347015925317741139627254047803977849663239801087513959014046929132763104829100219997758793778646298299745075714690212101762318336 := ch_to (ch_of (n := [833, 1244, 871, 1192, 1193, 115, 156, 1194, 990, 991, 78, 992, 1186, 1187, 114, 1188, 987, 988, 77, 989, 965, 966, 967, 1175]) rfl) (by decide +kernel)
set_option maxRecDepth 100000 in
set_option maxHeartbeats 4000000 in
theorem ch_X12_passIt_r2 : CH wsX12_passIt_r2 31815341898677245924478096281148892640529731935793721277422475264963173373875771002994165637908502090199765339078923696742339083919405779338118874837512927626085181133221940844203401401844837323790132194490843590009089398959635820736421963297860422639695697991045678978286021347236499071620184145723232495498122044038369452534620556958101949810589093068800 := ch_to (ch_of (n := [1176, 113, 1177, 1178, 1179, 1180, 996, 997, 80, 998, 864, 865, 870, 999, 1000, 81, 1001, 868, 869, 1002, 1003, 82, 1004, 850]) rfl) (by decide +kernel)
set_option maxRecDepth 100000 in
set_option maxHeartbeats 4000000 in
theorem ch_X12_passIt_r3 : CH wsX12_passIt_r3 1404105131136209173751809260371577614561433924390301462948255654573933970166407106913455013456255350660142807068651713948025397566417839508945593394744548022101323914935694719541895858280987857622243454316679632874503140034829287678795959667638740965308476937385332499438886388406609132900944761927952760832 := ch_to (ch_of (n := [854, 855, 867, 866, 1008, 1012, 1013, 1005, 1006, 83, 1007, 984, 985, 76, 986, 1009, 1010, 84, 1011, 1014, 1015, 1016, 993, 994]) rfl) (by decide +kernel)
set_option maxRecDepth 100000 in
set_option maxHeartbeats 4000000 in
theorem ch_X12_passIt_r4 : CH wsX12_passIt_r4 4240749715981701946204800757786061077512965754772707216746277784278223781015216064646213519330544110300687384839841664121038067665126524921158956821630550324958491711879706916695468074862552424936776353071670164959599895973998501666869623719287542484873446707172435755584820566562965361940813870464416129115075034494470462597447695720652141069824535502959372261160336446455808 := ch_to (ch_of (n := [79, 995, 1245, 1246, 127, 1247]) rfl) (by decide +kernel)
set_option maxRecDepth 100000 in
set_option maxHeartbeats 4000000 in
theorem ch_X12_passIt : CH wsX12_passIt 4695115756979741918647683626583762463265805428591615913271055153178614242164026786725825537468606393195052023015823965952237009688180488285013831603283828179858346106980637129880133369395534078184263634532317255025361748831277004258428085745495209493632309575158656254919721006729049706814024297742197457724274920193097423290500321481054870928108054321448045095858598402064384 := ch_to (ch_cons 1243 rfl (ch_app (ch_app ch_X12_passIt_r1 (ch_app ch_X12_passIt_r2 (ch_app ch_X12_passIt_r3 ch_X12_passIt_r4))) ch_X120)) (by decide +kernel)
set_option maxRecDepth 100000 in
set_option maxHeartbeats 4000000 in
theorem ch_X12_canPass : CH wsX12_canPass 18931918374918312259842860525830629810325739976663871503331597251242070451032538811401828843447368213332073170847326380204083361567482806379944145502693158023209678689699099265978978084055937763588394883522211313730347361940559453799841054686037340791055681595910253222819262066533533288863248017250101970215773990512605798263522440629979934766606626368149016100866743074816 := ch_to (ch_cons 1240 rfl (ch_app (ch_of (n := [990, 991, 78, 156, 992, 833]) rfl) ch_X120)) (by decide +kernel)
set_option maxRecDepth 100000 in
set_option maxHeartbeats 4000000 in
theorem ch_X12_passNow_r1 : CH wsX12_passNow_r1 146722367440329374597855842321211214465266597954042132437644437579340251416871647325720436186543800463132004435113363977409809523542712836625360093771804806050997462249375334929919725474617220729393969262013573508865506677968720552968866132386664021340485182202224139826072854298338857330418087825239542135983221835441161135636484774988352928236214260181045322276825517260800 := ch_to (ch_of (n := [1238, 1239, 125, 156, 1240, 990, 991, 78, 992, 833, 1205, 1206, 118, 1207, 838, 836, 837, 1208, 1209, 119, 1210, 1241, 1242, 126]) rfl) (by decide +kernel)
set_option maxRecDepth 100000 in
set_option maxHeartbeats 4000000 in
theorem ch_X12_passNow_r2 : CH wsX12_passNow_r2 454366040998039972426462047172577645920850978964122171290955571772237458799349708355578636024071348421770467223678928266115728557023582548739851522517940975810354574745071124386729987912249601829235510875886433263924037583479898640537678492769065747478513848795731219471145438121202278864149909419520392677122700829261554881349729473794287737228304022012833965453722188251136 := ch_to (ch_of (n := [1243, 1244, 871, 1192, 1193, 115, 1194, 1186, 1187, 114, 1188, 987, 988, 77, 989, 965, 966, 967, 1175, 1176, 113, 1177, 1178, 1179]) rfl) (by decide +kernel)
set_option maxRecDepth 100000 in
set_option maxHeartbeats 4000000 in
theorem ch_X12_passNow_r3 : CH wsX12_passNow_r3 16420821625123739831988694854786525233821797128151600987318664253009588673147515487184564841309992431371434859494887943551341396378423794511559900746993983961583888347325877414062644108038194247747518663032117789459724900235417185602795484907187051924011814502215495216163014022548627203907019878632740879065539867990437337275077095423473219881982826119168 := ch_to (ch_of (n := [1180, 996, 997, 80, 998, 864, 865, 870, 999, 1000, 81, 1001, 868, 869, 1002, 1003, 82, 1004, 850, 854, 855, 867, 866, 1008]) rfl) (by decide +kernel)
set_option maxRecDepth 100000 in
set_option maxHeartbeats 4000000 in
theorem ch_X12_passNow_r4 : CH wsX12_passNow_r4 1817464163992157976944914610479740461791271037759731664319833336119240164654495898911989894773123369157350948794258988562459730640337192033446537355824239051029830717310145917574387247524542092193689664970333821395210412202966282200794560509888688198083436336770282839721636986266434570119436203427628962931671875814950542238814150589256318402277735335178087955587197631987712 := ch_to (ch_of (n := [1012, 1013, 1005, 1006, 83, 1007, 984, 985, 76, 986, 1009, 1010, 84, 1011, 1014, 1015, 1016, 993, 994, 79, 995, 1245, 1246, 127]) rfl) (by decide +kernel)
set_option maxRecDepth 100000 in
set_option maxHeartbeats 4000000 in
theorem ch_X12_passNow_r5 : CH wsX12_passNow_r5 2423285551989543969259886147306320615721694717012975552426444448158985017722789267546553034738712987127346362442309271495645764807314487385596126924659433020959638410571315406303196994043324038030803068668509323897700215957022383545283810557899591580902307500436706661372076856211818662627186819885605667216486349283517459646495626188985295134800963771933733229691796170211328 := ch_to (ch_of (n := [1247]) rfl) (by decide +kernel)
set_option maxRecDepth 100000 in
set_option maxHeartbeats 4000000 in
theorem ch_X12_passNow : CH wsX12_passNow 4844204614216936082278019826470702506457362744042741029646616040414359752387195097786940030610494259316087490571741051545541545539663657101599274610802134683543334539710137464654771135691268750770283326597994606071990340796375854725110683640291461024652603643092831173315025573255980051420965209595394394279514800810889393193038705768224434419235505222488799652306551115350016 := ch_to (ch_cons 1237 rfl (ch_app (ch_app ch_X12_passNow_r1 (ch_app ch_X12_passNow_r2 (ch_app ch_X12_passNow_r3 (ch_app ch_X12_passNow_r4 ch_X12_passNow_r5)))) ch_X120)) (by decide +kernel)
set_option maxRecDepth 100000 in
set_option maxHeartbeats 4000000 in
theorem ch_X12_pass_r1 : CH wsX12_pass_r1 37272214317701158882300296273351891113563014978768282369669182490742197122268886881298968890380897728018143482811866438866384284620940238273164868959545666612401955177022849220182932254603080852721425410393347487345135096720932607450461056728119704495099500600351435505153257822676377049219472957581408007193107447251334864432432406752647423768916996786519960405916027715584 := ch_to (ch_of (n := [830, 1235, 1236, 124, 156, 1237, 1238, 1239, 125, 1240, 990, 991, 78, 992, 833, 1205, 1206, 118, 1207, 838, 836, 837, 1208, 1209]) rfl) (by decide +kernel)
set_option maxRecDepth 100000 in
set_option maxHeartbeats 4000000 in
theorem ch_X12_pass_r2 : CH wsX12_pass_r2 567957551265181568933463698686908913451073916132928875843576678951902592971933968330856930713015162750080303410811115165339001495548504921208009597206169614378714018362108186322714303875525944785975146600460421759467223195835557805681982610598515861490122054447728803748211433943918191052340094052046366084614997471413505390623507376046801624078287427763324690987457483636736 := ch_to (ch_of (n := [119, 1210, 1241, 1242, 126, 1243, 1244, 871, 1192, 1193, 115, 1194, 1186, 1187, 114, 1188, 987, 988, 77, 989, 965, 966, 967, 1175]) rfl) (by decide +kernel)
set_option maxRecDepth 100000 in
set_option maxHeartbeats 4000000 in
theorem ch_X12_pass_r3 : CH wsX12_pass_r3 31815341898677245924478096281148892640529731935793721277422475264963173373875771002994165637908502090199765339078923696742339083919405779338118874837512927626085181133221940844203401401844837323790132194490843590009089398959635820736421963297860422639695697991045678978286021347236499071620184145723232495498122044038369452534620556958101949810589093068800 := ch_to (ch_of (n := [1176, 113, 1177, 1178, 1179, 1180, 996, 997, 80, 998, 864, 865, 870, 999, 1000, 81, 1001, 868, 869, 1002, 1003, 82, 1004, 850]) rfl) (by decide +kernel)
set_option maxRecDepth 100000 in
set_option maxHeartbeats 4000000 in
theorem ch_X12_pass_r4 : CH wsX12_pass_r4 1404105131136209173751809260371577614561433924390301462948255654573933970166407106913455013456255350660142807068651713948025397566417839508945593394744548022101323914935694719541895858280987857622243454316679632874503140034829287678795959667638740965308476937385332499438886388406609132900944761927952760832 := ch_to (ch_of (n := [854, 855, 867, 866, 1008, 1012, 1013, 1005, 1006, 83, 1007, 984, 985, 76, 986, 1009, 1010, 84, 1011, 1014, 1015, 1016, 993, 994]) rfl) (by decide +kernel)
set_option maxRecDepth 100000 in
set_option maxHeartbeats 4000000 in
theorem ch_X12_pass_r5 : CH wsX12_pass_r5 4240749715981701946204800757786061077512965754772707216746277784278223781015216064646215651117984104050486212142239011818481114798107501541497265804343966169742332950198379525969923926781311426983210003074074314579406646093384334640854520611803176547161447795712770658361021362667973306163349418302948148041513433091529212174500927174751161033518124670067108915276535469965312 := ch_to (ch_of (n := [79, 995, 1245, 1246, 127, 1247, 955, 956, 74, 957, 831, 832]) rfl) (by decide +kernel)
set_option maxRecDepth 100000 in
set_option maxHeartbeats 4000000 in
theorem ch_X12_pass : CH wsX12_pass 4846275292789192772681440139340715231592867121852688640592292933863714353842768770256769539258672899417191423408451895934936445578665926013004443888698913833651387993238261223018643818060136835009746588932966859257405038956607883501474958851329068903571115795937187006028108408210175683754459381599647199592610781609305365921881772182966752966460497815556994513844972025806848 := ch_to (ch_cons 1234 rfl (ch_app (ch_app ch_X12_pass_r1 (ch_app ch_X12_pass_r2 (ch_app ch_X12_pass_r3 (ch_app ch_X12_pass_r4 ch_X12_pass_r5)))) ch_X120)) (by decide +kernel)
set_option maxRecDepth 100000 in
set_option maxHeartbeats 4000000 in
theorem ch_X12_goOnBy : CH wsX12_goOnBy 39707351233512670094300179438224543029061759209295364158171612116421088754151194313948590083353125879994917058068783412194974235042277372016905416730142208414526942048522538529530264380396964948631947855180936203538962093182204297499216551160387935193551550381685014925059939196584435029843413522291549955400236284746782949528210482101526828457522601560529300916834896711509868544 := ch_to (ch_cons 1261 rfl (ch_app (ch_of (n := [1245, 1246, 127, 156, 1247, 833, 990, 991, 78, 992]) rfl) ch_X120)) (by decide +kernel)
set_option maxRecDepth 100000 in
set_option maxHeartbeats 4000000 in
theorem ch_X12_layHour_r1 : CH wsX12_layHour_r1 157298191564351708579963709181234714517230337980754427185634875036219725338938397427910666955910378056545872933632413300027283102293980401740422355003542591693249905932131192901906006349520550249466767251328573123318558113150480136650568508066432338258581194228646171695918584329963611751085023178671907667968 := ch_to (ch_of (n := [833, 874, 873, 1021, 1022, 86, 156, 1023, 996, 997, 80, 998, 864, 865, 870, 990, 991, 78, 992, 999, 1000, 81, 1001, 868]) rfl) (by decide +kernel)
set_option maxRecDepth 100000 in
set_option maxHeartbeats 4000000 in
theorem ch_X12_layHour_r2 : CH wsX12_layHour_r2 137110250531514286135616853247354779347849907766282443098793189067877949327472727999852947474060587410806079651573840795244142414072945935885294616513852165845410688614114181889488191984687873406303648051854467061027254681214987625167052200249205046923383241457527852271694400687391689184195361088659783680 := ch_to (ch_of (n := [869, 1002, 1003, 82, 1004, 850, 854, 855, 867, 866, 1008, 1012, 1013, 1005, 1006, 83, 1007, 987, 988, 77, 989, 965, 966, 967]) rfl) (by decide +kernel)
set_option maxRecDepth 100000 in
set_option maxHeartbeats 4000000 in
theorem ch_X12_layHour_r3 : CH wsX12_layHour_r3 1974752971893968966884911413204884658340814409206019349743763798011039333267984946044809755914539388709146282461447284340735633535001063774073369965245555257467674585704093768798321103653094239145151968675271453861002641339574404816285881090360130509379757831760303910954428888430506414149841686146579243165033344638547322157710360997590521248786215376325581073285120 := ch_to (ch_of (n := [984, 985, 76, 986, 1009, 1010, 84, 1011, 1214, 1215, 121, 1216, 1017, 1018, 85, 1019, 1020, 1014, 1015, 1016, 993, 994, 79, 995]) rfl) (by decide +kernel)
set_option maxRecDepth 100000 in
set_option maxHeartbeats 4000000 in
theorem ch_X12_layHour : CH wsX12_layHour 4962888810476560802016140798650229532411235665100914745778564249179345237529585274151831466199771950089046997842399420765418196453973787238138709832446698537718109827123367495520962306883241488004924695938191390287436857592131464159722074274527597319744169237022190177432324171315400505367377834547880580546400841790570709954631551004887402549275832108844088235926721804120358912 := ch_to (ch_cons 1258 rfl (ch_app (ch_app ch_X12_layHour_r1 (ch_app ch_X12_layHour_r2 ch_X12_layHour_r3)) ch_X120)) (by decide +kernel)
set_option maxRecDepth 100000 in
set_option maxHeartbeats 4000000 in
theorem ch_X12_coalBy : CH wsX12_coalBy 714655988708340391062371543474401625423716432383730646117187585095462589547892120262098834845922171088180163128676629044133545824530489059009038998017236034664065432898528410101032391781195001789755976976015513150257011375300878261550736281731204966687653708168561254685965796774231042946450372128799495614734446423904549344477647410800786254152248026560828797986297326895504556032 := ch_to (ch_cons 1265 rfl (ch_app (ch_of (n := [874, 1262, 872, 873, 1014, 1015, 156, 1016]) rfl) ch_X120)) (by decide +kernel)
set_option maxRecDepth 100000 in
set_option maxHeartbeats 4000000 in
theorem ch_X12_layLeast_r1 : CH wsX12_layLeast_r1 88091276385923933226109419294848918083013725161538028763469269744435058594398285902785702243754793125904766869550830864287753766655242581706886950234785643645056446170485073525101931067562509009271980553861420811373041843554144286986945825760365863595538759627039938248459793653067873187649209326067139950259750968913856217612643433911475202909114848486638002923139791530653384704 := ch_to (ch_of (n := [872, 1262, 1208, 1209, 119, 156, 1210, 836, 833, 1189, 1190, 1191, 1256, 1257, 129, 1258, 874, 873, 1021, 1022, 86, 1023, 996, 997]) rfl) (by decide +kernel)
set_option maxRecDepth 100000 in
set_option maxHeartbeats 4000000 in
theorem ch_X12_layLeast_r2 : CH wsX12_layLeast_r2 340277230440334248143767911820138660914530495517202266234755526326233959683887096723501214654210968661139588220137332138508007661964253161275737596948482152330232158178911729338538229285712699034888124995232172255994575585909674760655544926839255260098749639898069342681008145219362853574203464839331840 := ch_to (ch_of (n := [80, 998, 864, 865, 870, 990, 991, 78, 992, 999, 1000, 81, 1001, 868, 869, 1002, 1003, 82, 1004, 850, 854, 855, 867, 866]) rfl) (by decide +kernel)
set_option maxRecDepth 100000 in
set_option maxHeartbeats 4000000 in
theorem ch_X12_layLeast_r3 : CH wsX12_layLeast_r3 846322702240272414379247748516379139288920461088294007033032231212826954008533448817201948133038436767536487156007796960102707338236840271756298252271418841125311586825215092928745945811840739524098512221082789350935842298297863486082593231083570023635738123684033429436789328627916480220825140466326646396642073040949709407205255453668475212354761323899807929991168 := ch_to (ch_of (n := [1008, 1012, 1013, 1005, 1006, 83, 1007, 987, 988, 77, 989, 965, 966, 967, 984, 985, 76, 986, 1009, 1010, 84, 1011, 1214, 1215]) rfl) (by decide +kernel)
set_option maxRecDepth 100000 in
set_option maxHeartbeats 4000000 in
theorem ch_X12_layLeast_r4 : CH wsX12_layLeast_r4 69484684096361314818835314112877116418714632397469859640335879220741407383632437200813736669931135925234146550138036583256467594834388890457767320024622135573314255842800539663978649967924840631233354244537097889618592837345484416547534184490147863033840724763617227731142546373738644834095251544946573421004060434402084466709540705773358169149966430077826081607618463590718111744 := ch_to (ch_of (n := [121, 1216, 1017, 1018, 85, 1019, 1020, 1014, 1015, 1016, 993, 994, 79, 995, 1259, 1260, 130, 1261, 1245, 1246, 127, 1247, 958, 959]) rfl) (by decide +kernel)
set_option maxRecDepth 100000 in
set_option maxHeartbeats 4000000 in
theorem ch_X12_layLeast_r5 : CH wsX12_layLeast_r5 1111687093546307274985911289849069195103558894819136560626736243481830694850365022065516297802199374282044397543487645305045674207761362574712001945809270674444224730892838187738019293293373248320011885589224657540176939335919026542744025957370206856453373070396813084188552657430937883470346801475379749920583143631907076593495525120918347729230209470773929279155328189080008654848 := ch_to (ch_of (n := [75, 960, 1263, 1264, 131, 1265]) rfl) (by decide +kernel)
set_option maxRecDepth 100000 in
set_option maxHeartbeats 4000000 in
theorem ch_X12_layLeast : CH wsX12_layLeast 1269883415129902692609688794382920026930660522604839059692423650519742894025164332325792103160484891735962122620653078991014618689215446170032332847922446862341244494395302595863508755047975329706824368030616394446428504016291797155383051788247033736935504509147271707814664472376814347107141545553663194899220827364746052258569744331400854871003861609816111693104708705199610396672 := ch_to (ch_cons 1255 rfl (ch_app (ch_app ch_X12_layLeast_r1 (ch_app ch_X12_layLeast_r2 (ch_app ch_X12_layLeast_r3 (ch_app ch_X12_layLeast_r4 ch_X12_layLeast_r5)))) ch_X120)) (by decide +kernel)
set_option maxRecDepth 100000 in
set_option maxHeartbeats 4000000 in
theorem ch_X12_least_r1 : CH wsX12_least_r1 80569398032548388745467880468905655408255737277570197742299568856442273615210415620694007698592435606823920557833178070016207942574006445234632403636071503384900374382320391284172118713239929331760981200859637847095934332394853658358872586881224144905110338359643936450271277237419337634348628111383957576418397452442612600949251973034903585101283975364878562351863893617262198784 := ch_to (ch_of (n := [830, 1252, 1008, 833, 872, 1262, 873, 984, 985, 76, 156, 986, 965, 966, 967, 1253, 1254, 128, 1255, 1208, 1209, 119, 1210, 836]) rfl) (by decide +kernel)
set_option maxRecDepth 100000 in
set_option maxHeartbeats 4000000 in
theorem ch_X12_least_r2 : CH wsX12_least_r2 8685055418330525585886284176650296570304401348134059286334394223109097787697560303255146287607145759570202076146138519898654119425030939795910213042111741909697663915094240739178577483634268476695829685789348662122772236109289071275064418032175660027788358702661392170936414896743892361349533245958010305921808023831606235452168095647320418164574826629079117274304674461080616960 := ch_to (ch_of (n := [1189, 1190, 1191, 1256, 1257, 129, 1258, 874, 1021, 1022, 86, 1023, 996, 997, 80, 998, 864, 865, 870, 990, 991, 78, 992, 999]) rfl) (by decide +kernel)
set_option maxRecDepth 100000 in
set_option maxHeartbeats 4000000 in
theorem ch_X12_least_r3 : CH wsX12_least_r3 134399333755330846863278784273438975609474671518536298367323736389174105688658854561148330787650979710859765450873653216731059949124370383143330214057731798106289661775744938471107127470844810360736994145206689671417034338490570184740782996387635983891212894301148282219588686694318389592897709699693019136 := ch_to (ch_of (n := [1000, 81, 1001, 868, 869, 1002, 1003, 82, 1004, 850, 854, 855, 867, 866, 1012, 1013, 1005, 1006, 83, 1007, 987, 988, 77, 989]) rfl) (by decide +kernel)
set_option maxRecDepth 100000 in
set_option maxHeartbeats 4000000 in
theorem ch_X12_least_r4 : CH wsX12_least_r4 69480443346646179439591349584533709605385635810854375853580221236964162191945824917283541929874833847874959074770755871279897565055552945354126461544414549673581244179431927272013951874306452421189094206399089646699113514559336107643263261052609322591650750440813802167636436555195478232143863231438615584732731270095752471190114699731860680988306746954492508167845740133075648512 := ch_to (ch_of (n := [1009, 1010, 84, 1011, 1214, 1215, 121, 1216, 1017, 1018, 85, 1019, 1020, 1014, 1015, 1016, 993, 994, 79, 995, 1259, 1260, 130, 1261]) rfl) (by decide +kernel)
set_option maxRecDepth 100000 in
set_option maxHeartbeats 4000000 in
theorem ch_X12_least_r5 : CH wsX12_least_r5 1111691334296023256687857494649826981164636407784891333333952989759614973074146036946734504277319152538321869709886956137177182821006945518261182384182318671361722928334876264389191623299620518556057126668151328569088137710199271866848720676273173245387097924402293620828302300182976490417606094161728333885764970927064478958359679199865902663287640658249207555231538895933126213632 := ch_to (ch_of (n := [1245, 1246, 127, 1247, 958, 959, 75, 960, 1263, 1264, 131, 1265]) rfl) (by decide +kernel)
set_option maxRecDepth 100000 in
set_option maxHeartbeats 4000000 in
theorem ch_X12_least : CH wsX12_least 1270465003662380183162311167058273543878433729336922173825005997187301050429417801750003275888822182852872685747639233216173573672776361372984494658685469822249693517236520146354064185458906089901529526768435062724000273134577639621291259780085679568933520278136644861588505027332696328491300288967430543284919484403943841142946163283744147654045478846443998648447049040488847900672 := ch_to (ch_cons 1251 rfl (ch_app (ch_app ch_X12_least_r1 (ch_app ch_X12_least_r2 (ch_app ch_X12_least_r3 (ch_app ch_X12_least_r4 ch_X12_least_r5)))) ch_X120)) (by decide +kernel)
set_option maxRecDepth 100000 in
set_option maxHeartbeats 4000000 in
theorem ch_X12_apart : CH wsX12_apart 5203966097332199540962620163682042769307631123633352402659556175201804029836680149006119720866162092421210806977140503895691783124161732454069953302838660381462064754694610172886591674830791775236479710273844905605846838573774239433481250692219130145866174442655580414269208292514127802333112415945459400923534111101570260513349217744366479014439025434868093450357360355277851584364544 := ch_to (ch_cons 1278 rfl (ch_of (n := []) rfl)) (by decide +kernel)
set_option maxRecDepth 100000 in
set_option maxHeartbeats 4000000 in
theorem ch_X12_pointsTo : CH wsX12_pointsTo 9757436432497874139304912865756054896895291914660018114541574266520703463239102160310623751431273092324363699889946015338437226372298018373970108954062346353793178435115089686200536490539441044679206146982487156469530343305964499127861237233859231542984944386667575793208051578336243384569296120681836430502292767394738776193156531479477556556662217045597676376364056400343077834719232 := ch_to (ch_cons 1275 rfl (ch_app (ch_of (n := [833, 1189, 1190, 156, 1191, 1276, 1277, 1278]) rfl) ch_X120)) (by decide +kernel)
set_option maxRecDepth 100000 in
set_option maxHeartbeats 4000000 in
theorem ch_X12_findRings : CH wsX12_findRings 10326620224393583464097699446158778324788314068807416033582463223183400779002489051608168095901009571182933631903070757952784246540266156726574864815126051027185848371906126039025661698004617341822578372003384648273280518843417780971077933684772421371307477155255729321656267373866982515917417404225470963705186922623881193528735237926018336799912819328001045258384630919420388468326400 := ch_to (ch_cons 1272 rfl (ch_app (ch_of (n := [833, 876, 875, 1189, 1190, 156, 1191, 1273, 1274, 133, 1275, 1276, 1277, 1278]) rfl) ch_X120)) (by decide +kernel)
set_option maxRecDepth 100000 in
set_option maxHeartbeats 4000000 in
theorem ch_X12_rings_r1 : CH wsX12_rings_r1 2581655056098395866024424905678863109529691185587465778061795634308840875222117423595155124577516809983052667348179495235867638673802783847509776352032555252286536767782051519140199699087503024470809029001489480714586864793589800338659578676339074677999121126256169846786085229720257721667087936756450049079080281153564422188194858618728056082948742403825648145882578969877958568706048 := ch_to (ch_of (n := [830, 875, 984, 985, 76, 156, 986, 833, 965, 966, 967, 1270, 1271, 132, 1272, 876, 1189, 1190, 1191, 1273, 1274, 133, 1275, 1276]) rfl) (by decide +kernel)
set_option maxRecDepth 100000 in
set_option maxHeartbeats 4000000 in
theorem ch_X12_rings_r2 : CH wsX12_rings_r2 7805949145998299311443930245523064153961446685450028603989334262802706044755020223509179581299243138631816210465710755843537674686242598681104929954257990572193097132041915259329887512246187662854719565410767358408770257860661359150221876038328695218799261663983370621403812438771191703499668623918189101385301166652355390770023826616549718521658538152302140175536040532916777376546816 := ch_to (ch_of (n := [1277, 1278]) rfl) (by decide +kernel)
set_option maxRecDepth 100000 in
set_option maxHeartbeats 4000000 in
theorem ch_X12_rings : CH wsX12_rings 10397768198380547129696797768709118753274941838075840773462574342766237943472912413020362283456576680968537269429079072279074525538553871497070212983387713682987607302669402266165918482996079904086251830788594455046085210882764364145035895107061112211228613133539692528998821255588851536081764253962921938742866890696617600591897569818675884372191918704817396738014945645296543885950976 := ch_to (ch_cons 1269 rfl (ch_app (ch_app ch_X12_rings_r1 ch_X12_rings_r2) ch_X120)) (by decide +kernel)
set_option maxRecDepth 100000 in
set_option maxHeartbeats 4000000 in
theorem ch_X12_around : CH wsX12_around 341056229095433360465722959632352798504191201672901741427401327721332032056428884435525822736196314672578208564966090059189874159445530581141723082073114414415165434376986687858098223537141723667504598131999678962369588644738372660431635837553984296717240874079150765295271805772717779377356938238129531852876347689846936340958752695225854210119895091527207823913888395668878706401683177472 := ch_to (ch_cons 1294 rfl (ch_of (n := [1276, 1277, 156, 1278]) rfl)) (by decide +kernel)
set_option maxRecDepth 100000 in
set_option maxHeartbeats 4000000 in
theorem ch_X12_agrees : CH wsX12_agrees 42630890269345378639565784380942146590872557648362270364946639093691195933329379107539056902610407080274076615979285003890388104546982812865901082415116070733138267979821010827878316920825475384993878474144486274963156083758148251788166977781801408977629882667276139761682741913375904041883841304907138007148051843254210393171911252270586478887210330893006397201337696708529725166392967168 := ch_to (ch_cons 1291 rfl (ch_of (n := [1189, 1190, 156, 1191]) rfl)) (by decide +kernel)
set_option maxRecDepth 100000 in
set_option maxHeartbeats 4000000 in
theorem ch_X12_movedBy : CH wsX12_movedBy 676774490045934438219896888416575543137403058140262911597215353504298562627433710595829901036954420640342541900301071658588869718779342232990249384562441462774201689896087858718031589691641275712625037615096374277723164430520790995941898548853096480301007296193816760315115978389813426865186626811363648938965584965337650607736335899338024976363520529849108929880013866981041877011446890496 := ch_to (ch_cons 1288 rfl (ch_app (ch_of (n := [1262, 833, 878, 877, 1289, 1290, 156, 1291, 1189, 1190, 1191, 1292, 1293, 1294, 1276, 1277, 1278]) rfl) ch_X120)) (by decide +kernel)
set_option maxRecDepth 100000 in
set_option maxHeartbeats 4000000 in
theorem ch_X12_layTunes : CH wsX12_layTunes 681437243669144089008599396083234653458702695627038395349998315837279379038167376009339384306850501875151946783352589550079409556458591145269096062721784902475991699916294229432937975832289665143236923435501739313146003197882892714474297749473324820911703388494436160366301189019906085376077095536050780562193071528884657561156296798436977341560457940194893707491657385171320583297368588288 := ch_to (ch_cons 1285 rfl (ch_app (ch_of (n := [833, 878, 877, 1262, 1286, 1287, 135, 156, 1288, 1289, 1290, 1291, 1189, 1190, 1191, 1292, 1293, 1294, 1276, 1277, 1278]) rfl) ch_X120)) (by decide +kernel)
set_option maxRecDepth 100000 in
set_option maxHeartbeats 4000000 in
theorem ch_X12_tune_r1 : CH wsX12_tune_r1 42464363433636969221848357320353418272483783904816648092783161291556452560740931076630295642379106704323257850197836562556281349638219265756794805545288620744090713090940444871215648182505571263439264225869925683939840824710045909510161212543563104795820475956189031280991137390973687364354117212705487249153918982135975051424601585280865224107652708426006066805451495587132529690078609408 := ch_to (ch_of (n := [830, 977, 833, 877, 878, 965, 966, 156, 967, 984, 985, 76, 986, 1283, 1284, 134, 1285, 1262, 1286, 1287, 135, 1288, 1289, 1290]) rfl) (by decide +kernel)
set_option maxRecDepth 100000 in
set_option maxHeartbeats 4000000 in
theorem ch_X12_tune_r2 : CH wsX12_tune_r2 639472460980851010942683450298594711292072444310090549087870471938542299664290766227013676158820320919539638765485785110561304788111310867590070509229356320217927109179557177903698294459250276388921927325524190037671328538074672328854273249359740390624484962951833993579114673679748093159517921011587890334217948161965528178882804698067541865342124695928487885611730464470490015185770643456 := ch_to (ch_of (n := [1291, 1189, 1190, 1191, 1292, 1293, 1294, 1276, 1277, 1278]) rfl) (by decide +kernel)
set_option maxRecDepth 100000 in
set_option maxHeartbeats 4000000 in
theorem ch_X12_tune : CH wsX12_tune 682020087872045295357187209541567042248865150312885330819096186128901981089509084186028069716733286217351152896809513732773570204218681315176715190178789912089221165736880357960257330020700437806091549941245439449113454378870520549997214922836703636604465161784576855987114430707441657654164419098781605823099529746544458307008838484581709444257996688323378979044059253920230048407085907968 := ch_to (ch_cons 1282 rfl (ch_app (ch_app ch_X12_tune_r1 ch_X12_tune_r2) ch_X120)) (by decide +kernel)
set_option maxRecDepth 100000 in
set_option maxHeartbeats 4000000 in
theorem ch_X12_hear : CH wsX12_hear 5456753954476208465864420400753061678869518613094966128971146775968406862390026729676859023986367689141531796563549030200033850075911089193018423774149151496173857602287357397233269813890931770097674215533369916292136675699650858485524460439357468097303132298946176485142603818301775106831218978740288101704338730772018169312228764338968926433842469503853523893234740341969737342913542619136 := ch_to (ch_cons 1298 rfl (ch_app (ch_of (n := [830, 1029, 833, 965, 966, 156, 967, 955, 956, 74, 957, 831, 832]) rfl) ch_X120)) (by decide +kernel)
set_option maxRecDepth 100000 in
set_option maxHeartbeats 4000000 in
theorem ch_X12_forget : CH wsX12_forget 87308063271619335453830726412048986861912297809519458063538348415494509798240427582787855878831308515562626207098007554018456167897155368910316707961605486585702498409779564914342393147487488329842441015426401968069959899494537861733139833419148249320152890952365150494107785082380746151026906309820803656606997378605807832599591630388569934094376063616658706207577543009564736375721631416320 := ch_to (ch_cons 1302 rfl (ch_app (ch_of (n := [830, 833]) rfl) ch_X120)) (by decide +kernel)
set_option maxRecDepth 100000 in
set_option maxHeartbeats 4000000 in
theorem ch_X12_isAsHeard : CH wsX12_isAsHeard 11175432098767274938090332980742270377176998824061974189980390956738203692192095637892172433414556764799234105378886978722285972441114807166960905788558561662655084531575613600071104192190235604444937977007666227095687577488243341807175569766213155006979826931404239942280553194533376294364788917383358864115265655731503710654812068550245206011633371419024364076798332276346662508190856825012224 := ch_to (ch_cons 1309 rfl (ch_app (ch_of (n := [833, 1189, 1190, 156, 1191]) rfl) ch_X120)) (by decide +kernel)
set_option maxRecDepth 100000 in
set_option maxHeartbeats 4000000 in
theorem ch_X12_hill : CH wsX12_hill 20953935185188640508919374338891756905711176178728153493096685979273588789595023527164412291843663318542247174680143827897454574109827022050368781743507954538883708730167427776288084380258079838294647909404843899628766082365249521351900074302420117315259663041762834597638909306197630387052267575443331450248612552250262003733705277762105417849123021993054250101749533936866514924634697977823232 := ch_to (ch_cons 1306 rfl (ch_app (ch_of (n := [830, 833, 1307, 1308, 136, 156, 1309, 1189, 1190, 1191]) rfl) ch_X120)) (by decide +kernel)
set_option maxRecDepth 100000 in
set_option maxHeartbeats 4000000 in
theorem ch_X12_ask : CH wsX12_ask 198363919753119209557324378001552082917066240261185628246699097040741334609351249649010396177987601187617509557631519594469402871634157328129561895207850753133189779041711990435398358918871029406759347637144407577921570967197897124569989169260327963781155076033390502406855090832814112797779493790455422104325791604982805273917871427635146041318469450686828380476872183379470679318219139607166976 := ch_to (ch_cons 1313 rfl (ch_app (ch_of (n := [830, 879, 833, 1262, 965, 966, 156, 967, 1307, 1308, 136, 1309, 1189, 1190, 1191]) rfl) ch_X120)) (by decide +kernel)
set_option maxRecDepth 100000 in
set_option maxHeartbeats 4000000 in
theorem ch_X12_chance_r1 : CH wsX12_chance_r1 5721821234568844768302250486140042403041136573949110687209896684117403100575501983349889577695465178476563713339549225993566346552778106638512550300443635227092643747510439835058460747163802558849917138025148414355124363949408871476051709828199652013306073032810411163213135887320369794400889880232458278513699804633520627544325771171396122872536160011245347162032236813535653257653335379117342720 := ch_to (ch_of (n := [830, 1029, 1008, 1318, 1045, 965, 966, 156, 967, 1189, 1190, 1191, 1005, 1006, 83, 1007, 833, 987, 988, 77, 989, 990, 991, 78]) rfl) (by decide +kernel)
set_option maxRecDepth 100000 in
set_option maxHeartbeats 4000000 in
theorem ch_X12_chance_r2 : CH wsX12_chance_r2 41855804968213567224547853478906320725054875457247406540771499545716837934567817284890561672488119458109166910841919797858872862722356017328064756151166307827869405370407152286801072676024887272960758524035337792904616958075776435777990406039363527010043736240963055342423554029893064011082834640896 := ch_to (ch_of (n := [992]) rfl) (by decide +kernel)
set_option maxRecDepth 100000 in
set_option maxHeartbeats 4000000 in
theorem ch_X12_chance : CH wsX12_chance 8582731851853267152453375729210063604532278748571444289035921284996327197644244314382682039133009537770324505266772505485784107940969346215583932414523153628654039982062419317665519656821603936195259999308230012202289294306460070632412630706289655384122590893492749050548365342361861231037902927966327411657371992665339134789423989584843101182983459730665289535738769135328339381782804549848793088 := ch_to (ch_cons 1317 rfl (ch_app (ch_app ch_X12_chance_r1 ch_X12_chance_r2) ch_X120)) (by decide +kernel)
set_option maxRecDepth 100000 in
set_option maxHeartbeats 4000000 in
theorem ch_X12_compare_r1 : CH wsX12_compare_r1 183098279506203032585672015556483362503920179016124270587018189481666074285506924634645473845858164193427788459373287209637027042784269016044713573924307632374332191064497505014219233294951098931710086442732018713152016368570944301939831442076163270476891516552710657052384830035559996454176125018610376547045742875835981898538290728737974121415553334702806288409177199595606668376322891574610493440 := ch_to (ch_of (n := [830, 1323, 833, 1168, 1169, 112, 156, 1170, 965, 966, 967, 1208, 1209, 119, 1210, 836, 990, 991, 78, 992, 1214, 1215, 121, 1216]) rfl) (by decide +kernel)
set_option maxRecDepth 100000 in
set_option maxHeartbeats 4000000 in
theorem ch_X12_compare_r2 : CH wsX12_compare_r2 21067058637229184657828423107808927135163915784787384139972718648658449720075642208764203207147190315566857286235054802398122861962692571661671272708595632091633260112408517056255125047307149960791808470337326680284074616693652990879943449039885488867526988528025138169131025368318029708488656315343163097088 := ch_to (ch_of (n := [1017, 1018, 85, 1019, 1020, 996, 997, 80, 998, 864, 865, 870, 999, 1000, 81, 1001, 868, 869, 1002, 1003, 82, 1004, 850, 854]) rfl) (by decide +kernel)
set_option maxRecDepth 100000 in
set_option maxHeartbeats 4000000 in
theorem ch_X12_compare_r3 : CH wsX12_compare_r3 701881008351744549810363903302336903064744975267344100493089461012629418102571512346337857488544451949114898641530678234820010953050628400534897638841153860513495663972907196964330319002730710824744063748151726379921044260874867118857740911484479978782062036189847843446713806699342923059436955458710011904 := ch_to (ch_of (n := [855, 867, 866, 1008, 1012, 1013, 1005, 1006, 83, 1007, 987, 988, 77, 989, 984, 985, 76, 986, 1009, 1010, 84, 1011, 1014, 1015]) rfl) (by decide +kernel)
set_option maxRecDepth 100000 in
set_option maxHeartbeats 4000000 in
theorem ch_X12_compare_r4 : CH wsX12_compare_r4 4240749715981701946204800757786061077512965754772707216746277784278224483239348005068191311793251499382738010705628174291830559837626467574870141923675317031366216982031532960254259841911551581974868986732256967296108325371285361647439078175796025690114494338586013074724974293645579312012933104621530494999200468068256869233767390493147867738713956499275718540232939060330496 := ch_to (ch_of (n := [1016, 993, 994, 79, 995, 1245, 1246, 127, 1247, 958, 959, 75, 960]) rfl) (by decide +kernel)
set_option maxRecDepth 100000 in
set_option maxHeartbeats 4000000 in
theorem ch_X12_compare : CH wsX12_compare 274647419259304548878512264084440022653582933404796731906528489675546418098923425505479110858111761345028372216865837075825338699040248932869900823255361211984679286557385875375528168658850763159304615601753058938257401961404572411997013230007816189937509123576571879013772878714991665834565883212486888569315426264044527478206449445583544244664119710466527847575751914231296716032436259045750341632 := ch_to (ch_cons 1322 rfl (ch_app (ch_app ch_X12_compare_r1 (ch_app ch_X12_compare_r2 (ch_app ch_X12_compare_r3 ch_X12_compare_r4))) ch_X120)) (by decide +kernel)
set_option maxRecDepth 100000 in
set_option maxHeartbeats 4000000 in
theorem ch_X12_readSum_r1 : CH wsX12_readSum_r1 27769564489834037822319651608162484746811804516865184979264891822791574920458726906246597442399803466562348851483221123385534017154294156771603147295110995036515740499892001293909473933517725150876024936153964492741260109129064722689545812593280211435674755554350417490978235194720861488344447326171955629563532610628760308420194598912 := ch_to (ch_of (n := [881, 853, 849, 1102, 1103, 95, 156, 1104, 859, 860, 1105, 1106, 96, 1107, 1108, 1096, 1097, 93, 1098, 846, 847, 1109, 1110, 97]) rfl) (by decide +kernel)
set_option maxRecDepth 100000 in
set_option maxHeartbeats 4000000 in
theorem ch_X12_readSum_r2 : CH wsX12_readSum_r2 83453967728913104351579070552233009870192062330560537542128136406703665798146086812133640640456236860211778673526631797688414330508244817345169366506509711138055941396536302964482036094758581853915680035874188210124222169888978896192079989251865172528673921016703239155953243056416925513699017661527166266578672224123807170103944937472 := ch_to (ch_of (n := [1111, 857, 858, 1080, 1081, 91, 1082, 845, 844, 843, 842, 1089, 1090, 1008, 1091, 1045, 1092, 1083, 1084, 1085, 1086, 1087, 1088, 1112]) rfl) (by decide +kernel)
set_option maxRecDepth 100000 in
set_option maxHeartbeats 4000000 in
theorem ch_X12_readSum_r3 : CH wsX12_readSum_r3 1936908539944173581196645273905104070871508601749173408833598015275333176076100674469125927688438000629657078775839554102495150699426165384509983508193810985940043173530479120343714955345292324088068356134640352895966903806080676839306198354887372206526229747969582996668102250346868877514810966905395127352678911903241467627266406063538176 := ch_to (ch_of (n := [1113, 98, 1114, 1115, 1116, 99, 1117, 1099, 1100, 94, 1101, 848, 1118, 1119, 100, 1120, 850, 1127, 855, 976, 979, 1121, 1122, 101]) rfl) (by decide +kernel)
set_option maxRecDepth 100000 in
set_option maxHeartbeats 4000000 in
theorem ch_X12_readSum_r4 : CH wsX12_readSum_r4 1864894263586826596499894164506793265575777485107810664953826334370532969326776436073243907004347990933005873257671349513665350242926075431778426010730269961482413771757252067747206649208028203236735003644551935386779728295730178448863664944722417592122216755442807033846158418851868926478131479877629758962744589219564610074467750726489604096 := ch_to (ch_of (n := [1123, 862, 1124, 1125, 102, 1126, 861, 1128, 1129, 103, 1130, 856, 1131, 1132, 104, 1133, 854, 1134, 1135, 105, 1136, 965, 966, 967]) rfl) (by decide +kernel)
set_option maxRecDepth 100000 in
set_option maxHeartbeats 4000000 in
theorem ch_X12_readSum_r5 : CH wsX12_readSum_r5 978755373054269760506697009456213960827879832824669660216227008050113186580748606662737734780238497246679013993894648723223840139695995957606404899443820650577855112285136605798963531993766797189484199267728949673103912414874299976911186606009166965540429250932669510528907721877327327274924310210656106071587602090543869173118059533530925199523840 := ch_to (ch_of (n := [1137, 1138, 106, 1139, 1140, 1141, 1142, 1143, 1144, 107, 1145, 1146, 1147, 108, 1148, 1149, 1150, 109, 1151, 1044, 1152, 1153, 1154, 1155]) rfl) (by decide +kernel)
set_option maxRecDepth 100000 in
set_option maxHeartbeats 4000000 in
theorem ch_X12_readSum_r6 : CH wsX12_readSum_r6 14681358598283296673287774492609374434192595298425791772046895417020727471062069997228847345157913230155802681649642171170670162005208676156080068053650550164655473513155349292746347967283829055906892674914038701301148266737960087661371551717512005482775962072769943329189952624843756479547130970056782536991011095961818364598156455325392715397464064 := ch_to (ch_of (n := [1156, 110, 1157, 1158, 1159]) rfl) (by decide +kernel)
set_option maxRecDepth 100000 in
set_option maxHeartbeats 4000000 in
theorem ch_X12_readSum : CH wsX12_readSum 187492638214351905367728143929836909460923493556049270589386186412050953722957427705137161193776077781686018552082686090306908413292418804623912921928147944581802577831152864693532425858026663107467097418290118957456885229622995257213975054479158910930847857714612703739851923493629176800074502565916595498284635766318684685216106460551769638860704897795867527998028720773379279208062782805409689239552 := ch_to (ch_cons 1333 rfl (ch_app (ch_app ch_X12_readSum_r1 (ch_app ch_X12_readSum_r2 (ch_app ch_X12_readSum_r3 (ch_app ch_X12_readSum_r4 (ch_app ch_X12_readSum_r5 ch_X12_readSum_r6))))) ch_X120)) (by decide +kernel)
set_option maxRecDepth 100000 in
set_option maxHeartbeats 4000000 in
theorem ch_X12_readOrder_r1 : CH wsX12_readOrder_r1 1124955829286111432206368863579021456765540961336295545235737927628056856076318819108259591091617573538003759975584268369504451311392057136521295413362527417990872165850784485743983769747947582998681766536121266566394923140694166022164720228935833319625116791118440749372972966163995049512244438744556418539792455468090500878402807414793486693170437519653234477277572221365453852799053470057416775172096 := ch_to (ch_of (n := [880, 851, 849, 881, 1334, 1335, 1044, 853, 1160, 1096, 1097, 93, 156, 1098, 846, 847, 1099, 1100, 94, 1101, 844, 848, 1080, 1081]) rfl) (by decide +kernel)
set_option maxRecDepth 100000 in
set_option maxHeartbeats 4000000 in
theorem ch_X12_readOrder_r2 : CH wsX12_readOrder_r2 328112116875115834393524251877214591556616113723086196126223109425602209946508663992927790059590646342760471205663501545179284556762359648083883730202013803284299759667863822551339955508153179467110224328790931166043272359268001301505600547510626002249864523829071063584748024683934152159614083582318871788422720430043805388794101220380693423112920899518237804986475182144151089720248773874053103484928 := ch_to (ch_of (n := [91, 1082, 845, 843, 842, 1089, 1090, 1008, 1091, 1045, 1092, 1083, 1084, 1085, 1086, 1087, 1088, 1331, 1332, 138, 1333, 1102, 1103, 95]) rfl) (by decide +kernel)
set_option maxRecDepth 100000 in
set_option maxHeartbeats 4000000 in
theorem ch_X12_readOrder_r3 : CH wsX12_readOrder_r3 14242575056200240261182596137203927733724795081387500650843077848897956965383892743376397227792561279283372601176059930995006221102404839737385126022927256177499795202518838882545469250722152261541103603807455874271322509818165335861493494997618236497014716951353455007002745932461114775063330410519379091388702667078121287076844069191680 := ch_to (ch_of (n := [1104, 859, 860, 1105, 1106, 96, 1107, 1108, 1109, 1110, 97, 1111, 857, 858, 1112, 1113, 98, 1114, 1115, 1116, 99, 1117, 1118, 1119]) rfl) (by decide +kernel)
set_option maxRecDepth 100000 in
set_option maxHeartbeats 4000000 in
theorem ch_X12_readOrder_r4 : CH wsX12_readOrder_r4 116662712417056398942465273885525322587609163112289072789652762137831877399732282508706939141882777451443267375258312965356257727679883006457558089409182123523312062871962440968109139814998282840395055341433614228537301075053707302475214280975646554068678364255391126066323466664684953315798229481414690800313823264793075438544014656629899264 := ch_to (ch_of (n := [100, 1120, 850, 1127, 855, 976, 979, 1121, 1122, 101, 1123, 862, 1124, 1125, 102, 1126, 861, 1128, 1129, 103, 1130, 856, 1131, 1132]) rfl) (by decide +kernel)
set_option maxRecDepth 100000 in
set_option maxHeartbeats 4000000 in
theorem ch_X12_readOrder_r5 : CH wsX12_readOrder_r5 3823153791347732401638193979257991886815935533392571761364454763995963032685805448329610711984552846429177925670315123447100174817705619732283670732991791822557515228993051828053615948939338996607575560527088882767177187346605090526903580204358175218797978734673007257798039934498268576636192947641125157729216420258449425798990385628015302279168 := ch_to (ch_of (n := [104, 1133, 854, 1134, 1135, 105, 1136, 965, 966, 967, 1137, 1138, 106, 1139, 1140, 1141, 1142, 1143, 1144, 107, 1145, 1146, 1147, 108]) rfl) (by decide +kernel)
set_option maxRecDepth 100000 in
set_option maxHeartbeats 4000000 in
theorem ch_X12_readOrder_r6 : CH wsX12_readOrder_r6 15656292567700546842998290767509215705213197329961879506909384565807260154687285582982325489172305905595836453477938721599972477450867064807069760072838282011527126051138321706717785136986270829150709766607549083809427643826027749732634506323753037096866553304164822378393972916337287183267057636037115752338070426553595702238754116291109111627513856 := ch_to (ch_of (n := [1148, 1149, 1150, 109, 1151, 1152, 1153, 1154, 1155, 1156, 110, 1157, 1158, 1159]) rfl) (by decide +kernel)
set_option maxRecDepth 100000 in
set_option maxHeartbeats 4000000 in
theorem ch_X12_readOrder : CH wsX12_readOrder 1476504525938021254770859133447465662004772511753887913888235668752908779738542764491938195757844363767375951330241398196466315736229033461772812304318524069220988096091576653171234739885710717251386965918686233633366988772415928332934613237807832198741890241909614807447789321001438986129401326111584736736815597678381351225892951308175000284023515095283954651158179149976573259260960217109029208457216 := ch_to (ch_cons 1330 rfl (ch_app (ch_app ch_X12_readOrder_r1 (ch_app ch_X12_readOrder_r2 (ch_app ch_X12_readOrder_r3 (ch_app ch_X12_readOrder_r4 (ch_app ch_X12_readOrder_r5 ch_X12_readOrder_r6))))) ch_X120)) (by decide +kernel)
set_option maxRecDepth 100000 in
set_option maxHeartbeats 4000000 in
theorem ch_X12_sumOf_r1 : CH wsX12_sumOf_r1 137110241375554766388560469277717831679711446039064788803172560929744337047374285607364705786933077826418946955635516200444815540577442422200762096838294196924823678521029042877251644580988229929485450424670338763404185370092926112698107744900202290122743356822723701348592207143705234398760958376284258304 := ch_to (ch_of (n := [885, 881, 850, 868, 869, 1002, 1003, 82, 156, 1004, 854, 833, 864, 855, 867, 865, 866, 1008, 1012, 1013, 1005, 1006, 83, 1007]) rfl) (by decide +kernel)
set_option maxRecDepth 100000 in
set_option maxHeartbeats 4000000 in
theorem ch_X12_sumOf_r2 : CH wsX12_sumOf_r2 38402952029668702003180309482921369208839267271213268005540514943989821416583597284391995088221080296149950232758059688879289629940388954879449994962545474183578130725531894944105556616330891138425747572367834679612644578119481047575354451677765095807063275928814977777235625790599475707046859642557693952 := ch_to (ch_of (n := [987, 988, 77, 989, 990, 991, 78, 992, 965, 966, 967, 984, 985, 76, 986, 1009, 1010, 84, 1011]) rfl) (by decide +kernel)
set_option maxRecDepth 100000 in
set_option maxHeartbeats 4000000 in
theorem ch_X12_sumOf : CH wsX12_sumOf 47998115382874087774138404846038248821996414350348609261893209150259499424127256936080662208709351698742344857965730960004376939986349612900809820304986326102866510508184316868399044321081183714034542265973353060141562860503656434356926641720274568769350871362621631478211691383893089454156800508579383683370568087912787637833683607937082462647166221169861169638421445415063547876102225342896791992926208 := ch_to (ch_cons 1341 rfl (ch_app (ch_app ch_X12_sumOf_r1 ch_X12_sumOf_r2) ch_X120)) (by decide +kernel)
set_option maxRecDepth 100000 in
set_option maxHeartbeats 4000000 in
theorem ch_X12_act_r1 : CH wsX12_act_r1 542382102876151144469122397425658017732767629481633732691895111027299109024730346265753418469733334509974431898749827667106351365405367193503578205704125620640821072546498119702715869997844728010993086771805028523153398692579004794671437073278339026578023367351748502918831087722035014279548023127023601020708951105903913490823280602695949404901570952157634494464 := ch_to (ch_of (n := [1199, 1200, 116, 156, 1201, 833, 984, 985, 76, 986, 965, 966, 967, 1202, 1203, 117, 1204, 1021, 1022, 86, 1023, 996, 997, 80]) rfl) (by decide +kernel)
set_option maxRecDepth 100000 in
set_option maxHeartbeats 4000000 in
theorem ch_X12_act_r2 : CH wsX12_act_r2 3083339264837178589771736037413743295951726813483368301290756520554332650563723570306089064422392365467781950889073388010987099593336577112887789456071317302137481508533914861606333328181679711355644395626412069851791552550363759255801924177034983366228975938185824137602078182121225770784913486690385920 := ch_to (ch_of (n := [998, 864, 865, 870, 990, 991, 78, 992, 999, 1000, 81, 1001, 868, 869, 1002, 1003, 82, 1004, 850, 854, 855, 867, 866, 1008]) rfl) (by decide +kernel)
set_option maxRecDepth 100000 in
set_option maxHeartbeats 4000000 in
theorem ch_X12_act_r3 : CH wsX12_act_r3 17080731620734664613122838674484214399711285347485100402359543391904103424636588230768571201778096525277177828378640468568451300758199659553826474156751707164366334297194374936756093704634233422350860152227218965737694945458872616551263783760282699616287256863664852787576369758698636535346453011505263772224767009478208569591836245635353273423756102680914757156864 := ch_to (ch_of (n := [1012, 1013, 1005, 1006, 83, 1007, 987, 988, 77, 989, 1009, 1010, 84, 1011, 1205, 1206, 118, 1207, 838, 836, 837, 1208, 1209, 119]) rfl) (by decide +kernel)
set_option maxRecDepth 100000 in
set_option maxHeartbeats 4000000 in
theorem ch_X12_act_r4 : CH wsX12_act_r4 14121158762723395319047242198917197307516665680902275599411839486826728717197814447161488904265093973202561028200999098587612034102215633754323092722651535870277536561811440946655928234795196800165444684240264613607825333314571782188162814068378188915650152702984988691111235464621479186797761386385078460187012857502323318006098146434398268307362649827152573773882851328 := ch_to (ch_of (n := [1210, 1211, 1212, 120, 1213, 1214, 1215, 121, 1216, 1017, 1018, 85, 1019, 1020, 1014, 1015, 1016, 1221, 1222, 122, 1223, 1044, 1228, 1229]) rfl) (by decide +kernel)
set_option maxRecDepth 100000 in
set_option maxHeartbeats 4000000 in
theorem ch_X12_act_r5 : CH wsX12_act_r5 605248253749708275191763087800256713744963434667683451966499278856307450399088944705126651337951504837760742539833841622394436799333795686443363808654835211843498369998100726411646999618598102436979614106399074249526144971477113960644037987941611995800080877685410839990824219361293095805070574725653534207807028576423574402307939292635807440544420437838723737747490410070016 := ch_to (ch_of (n := [123, 1230, 978, 1235, 1236, 124, 1237, 1238, 1239, 125, 1240, 1241, 1242, 126, 1243, 1244, 871, 1192, 1193, 115, 1194, 1186, 1187, 114]) rfl) (by decide +kernel)
set_option maxRecDepth 100000 in
set_option maxHeartbeats 4000000 in
theorem ch_X12_act_r6 : CH wsX12_act_r6 4240749715981701950440859586392200837296299380593418648158744512181081302308268994463585528846845599362044716363808317097544539259356906834613408798766518366621406746662993217925487599455881147811396561698245361554411509536419614133323131318331879413300363991376555939137273647339537951210187721149208017293969323447404742075094713226679663268793208766607967533366130000265216 := ch_to (ch_of (n := [1188, 1175, 1176, 113, 1177, 1178, 1179, 1180, 993, 994, 79, 995, 1245, 1246, 127, 1247]) rfl) (by decide +kernel)
set_option maxRecDepth 100000 in
set_option maxHeartbeats 4000000 in
theorem ch_X12_act : CH wsX12_act 383984923062992702193107238773152002666879110865540426632337921631386475597362282544023107606686739206855557426292099729512899666300278426505970831525960620282748918038485678105461184950144806087973000924456693063634947748599332256800397453907335272922919840561435684181490718528598504157636978901485696181858330458088908528759423211906212348352860746148670046166490325443807154781255224701458797375258624 := ch_to (ch_cons 1344 rfl (ch_app (ch_app ch_X12_act_r1 (ch_app ch_X12_act_r2 (ch_app ch_X12_act_r3 (ch_app ch_X12_act_r4 (ch_app ch_X12_act_r5 ch_X12_act_r6))))) ch_X120)) (by decide +kernel)
set_option maxRecDepth 100000 in
set_option maxHeartbeats 4000000 in
theorem ch_X12_run_r1 : CH wsX12_run_r1 83996701920029653604742208480566935438493725113110066208313116012954123992222699638141158865241365165951110699969808701414909411386728572109203413033254634517361360465307179238169463525573385294598083736006015536490064821218173624036279272389425978133434140311376334219899874784626250467305246354685568900179710475378775096481119062319562717000618298316314004368058268657753228162210968695216046883209216 := ch_to (ch_of (n := [866, 833, 882, 883, 885, 881, 990, 991, 78, 156, 992, 1339, 1340, 140, 1341, 850, 868, 869, 1002, 1003, 82, 1004, 854, 864]) rfl) (by decide +kernel)
set_option maxRecDepth 100000 in
set_option maxHeartbeats 4000000 in
theorem ch_X12_run_r2 : CH wsX12_run_r2 153268601472377864435108831783409975214960595470286218310432946313000802971203304498863280852924992995699776441531622484718443796297099317986238384864235163376771568830894137763584182272096448428699227109751206088411892558734280156234883478996225169607633387755497608059766160912836232925909047120385540096 := ch_to (ch_of (n := [855, 867, 865, 1008, 1012, 1013, 1005, 1006, 83, 1007, 987, 988, 77, 989, 965, 966, 967, 984, 985, 76, 986, 1009, 1010, 84]) rfl) (by decide +kernel)
set_option maxRecDepth 100000 in
set_option maxHeartbeats 4000000 in
theorem ch_X12_run_r3 : CH wsX12_run_r3 671973615360237228837937667844535483507950343286983405817649397226030417595799329872758752555663613242282394168804364914011985311752208953576701598739848728191090112995282364384243551621628898805283699840298371849193570223930458705843511562671103910741150912058104070170078974050770013095106023912728021928321043212737305444928192588941909268263371473971536840689587413682794789111112778149633866936090624 := ch_to (ch_of (n := [1011, 1342, 1343, 141, 1344, 1199, 1200, 116, 1201, 1202, 1203, 117, 1204, 1021, 1022, 86, 1023, 996, 997, 80, 998, 870, 999, 1000]) rfl) (by decide +kernel)
set_option maxRecDepth 100000 in
set_option maxHeartbeats 4000000 in
theorem ch_X12_run_r4 : CH wsX12_run_r4 2256309547964788760991549173290737353768313338643596327343927565785868065876952432943855786517330943892218537495091972187457180194839722615837617445744943458570876613230051431530670357197537042305986072942870293399590880405454052992372280618820460774909815290277148518117055914189320144703706392523616011635281085175929917807852886029051472173241171292589571706978304 := ch_to (ch_of (n := [81, 1001, 1205, 1206, 118, 1207, 838, 836, 837, 1208, 1209, 119, 1210, 1211, 1212, 120, 1213, 1214, 1215, 121, 1216, 1017, 1018, 85]) rfl) (by decide +kernel)
set_option maxRecDepth 100000 in
set_option maxHeartbeats 4000000 in
theorem ch_X12_run_r5 : CH wsX12_run_r5 75168658171528964996832556369145151115208804059909549820350433751726265072818293096681473348816691514430864629880169013140072942898853471126971557093834284417691133659922840996223145520611540051328916827432374334091672304181710282090549345915431621263856735436753187971680694769364575963142745718227405038518312257819208194612130977944781380856018392843369570921836984664064 := ch_to (ch_of (n := [1019, 1020, 1014, 1015, 1016, 1221, 1222, 122, 1223, 1044, 1228, 1229, 123, 1230, 978, 1235, 1236, 124, 1237, 1238, 1239, 125, 1240, 1241]) rfl) (by decide +kernel)
set_option maxRecDepth 100000 in
set_option maxHeartbeats 4000000 in
theorem ch_X12_run_r6 : CH wsX12_run_r6 530093714497713221482254310901023904994142633725564182538103757905357338505807266712494782661691969431298912683658604279219015728768571356865016693464702421937368882174156843600285582047174459772095337608627080008259136306135013566645844817428570133048855974271114057444922382409667772593143262474506501095165664104083080177919913616019280320934786407791564198878424407736320 := ch_to (ch_of (n := [1242, 126, 1243, 1244, 871, 1192, 1193, 115, 1194, 1186, 1187, 114, 1188, 1175, 1176, 113, 1177, 1178, 1179, 1180, 993, 994, 79, 995]) rfl) (by decide +kernel)
set_option maxRecDepth 100000 in
set_option maxHeartbeats 4000000 in
theorem ch_X12_run_r7 : CH wsX12_run_r7 4240749715981701946204800757786061077512965754772707216746277784278223781014881218206467810792747727472856134274041225117380088412800352924793222118154007786679367218499801961030594739575817066553905370169891316820975377924789171204246668476324285266579038125764236657401134498370682659597576934799809917628851111246155554381367345830724436627085147070115764839264359181975552 := ch_to (ch_of (n := [1245, 1246, 127, 1247]) rfl) (by decide +kernel)
set_option maxRecDepth 100000 in
set_option maxHeartbeats 4000000 in
theorem ch_X12_run : CH wsX12_run 761970081703126143414447176935703212140100873874535724569746943689680033562364430915658322500272882452285125116637417379643083141378808331116434278486538858848708206392879170386538821538978791042815763125957804060053977555291538919474272695637817405649820982003643613128447488600051344118894350769102959777192945010200455440339333101404171282883757874989901212039990033099285171062601642405111740781035520 := ch_to (ch_cons 1338 rfl (ch_app (ch_app ch_X12_run_r1 (ch_app ch_X12_run_r2 (ch_app ch_X12_run_r3 (ch_app ch_X12_run_r4 (ch_app ch_X12_run_r5 (ch_app ch_X12_run_r6 ch_X12_run_r7)))))) ch_X120)) (by decide +kernel)
set_option maxRecDepth 100000 in
set_option maxHeartbeats 4000000 in
theorem ch_X12_giveBack : CH wsX12_giveBack 3071879384503941617544857910146447924607770518422310992761165385616607963144144443909162381357398497486665692975504820823604585929973778576686485255933618441678115413459695056366855747469967346140157451144457918445901488845622001575813446818454142401625112055553340828680171526386377099052010827239256168378933859874639658795265881307430272999194997521580103258290073847313153948792489209667956606498766848 := ch_to (ch_cons 1347 rfl (ch_app (ch_of (n := [836, 839, 837, 840, 838, 958, 959, 75, 156, 960, 833]) rfl) ch_X120)) (by decide +kernel)
set_option maxRecDepth 100000 in
set_option maxHeartbeats 4000000 in
theorem ch_X12_orders_r1 : CH wsX12_orders_r1 12751341958360568956207206843291790344122068935140953456485027389773082368153278752114007525671505801289312364598788211482033228297579584819612211472276240086967632615959235400319581451298189903943308597622313123978033799470711015951285871856762575675572560662281396629317751077041427854738042405731934165440055951332208541696 := ch_to (ch_of (n := [830, 884, 849, 838, 839, 836, 840, 837, 882, 883, 851, 881, 1074, 1075, 89, 156, 1076, 850, 853, 856, 1077, 1078, 90, 1079]) rfl) (by decide +kernel)
set_option maxRecDepth 100000 in
set_option maxHeartbeats 4000000 in
theorem ch_X12_orders_r2 : CH wsX12_orders_r2 5859144944198497042741504497807403420653859173626539216539698382600036656900903131727137559817930421105726927321151124908837140277696303341370753413288740866902212484101395560822775099499438018377269113202412978489595627550640908681656450546271054237940194268674222013181737925677753564746271649618879531112513324720211492307098516452673415500221196920337957690358143091430138530241949248620452642816 := ch_to (ch_of (n := [845, 848, 1080, 1081, 91, 1082, 844, 843, 842, 847, 846, 1089, 1090, 1008, 1091, 1045, 1092, 1083, 1084, 1085, 1086, 1087, 1088, 1328]) rfl) (by decide +kernel)
set_option maxRecDepth 100000 in
set_option maxHeartbeats 4000000 in
theorem ch_X12_orders_r3 : CH wsX12_orders_r3 1488222815826418248856342142443080468846080230101140976661199227349259502549268717928882240694787462277133615501564666676425664857677363232970716520794492677946884260077395403370239750310271406406677720797427838911692464868755912476951476788084584852434264256088264046661149155232205211338425965507215422514223163284604256949466042300892636418640501587200296072380179116299244847066514293647330454274048 := ch_to (ch_of (n := [1329, 137, 1330, 880, 1334, 1335, 1044, 1160, 1096, 1097, 93, 1098, 1099, 1100, 94, 1101, 1331, 1332, 138, 1333, 1102, 1103, 95, 1104]) rfl) (by decide +kernel)
set_option maxRecDepth 100000 in
set_option maxHeartbeats 4000000 in
theorem ch_X12_orders_r4 : CH wsX12_orders_r4 14242357728435592359446711760975390251040218522371991571715118085750800515289052064680601941519229958313895823923852669436870620482796147978505587534153771367440245030302848380300160724895845626649411334412887454700498305043192981782188641313041721247728624539197737883818984414317049669205361064153372096451434838235966335829496865751040 := ch_to (ch_of (n := [859, 860, 1105, 1106, 96, 1107, 1108, 1109, 1110, 97, 1111, 857, 858, 1112, 1113, 98, 1114, 1115, 1116, 99, 1117, 1118, 1119, 100]) rfl) (by decide +kernel)
set_option maxRecDepth 100000 in
set_option maxHeartbeats 4000000 in
theorem ch_X12_orders_r5 : CH wsX12_orders_r5 233339667626496762773093466251564077640434735590470528497575502255705446499333948618924977681738914187896246861544885117952905824679385049702267626184364571772444976538421265014508883898215801854194380884728923772927900369389905061366982593287775600993506368285634274604145177969786714032366452361913675218051088630217761187090203511011409920 := ch_to (ch_of (n := [1120, 1127, 855, 976, 979, 1121, 1122, 101, 1123, 862, 1124, 1125, 102, 1126, 861, 1128, 1129, 103, 1130, 1131, 1132, 104, 1133, 854]) rfl) (by decide +kernel)
set_option maxRecDepth 100000 in
set_option maxHeartbeats 4000000 in
theorem ch_X12_orders_r6 : CH wsX12_orders_r6 30585930392513115855288535603218131327057801220575443164369233278533212944906937612445252978901531777125108496322738836636452409060563355422031499349461765806710902771041140935802191976349980672907587860658525056496291015009238482966894314660591720502144766359821659327642610457373260425365019213246887793662624755503068710991407616267935880839168 := ch_to (ch_of (n := [1134, 1135, 105, 1136, 965, 966, 967, 1137, 1138, 106, 1139, 1140, 1141, 1142, 1143, 1144, 107, 1145, 1146, 1147, 108, 1148, 1149, 1150]) rfl) (by decide +kernel)
set_option maxRecDepth 100000 in
set_option maxHeartbeats 4000000 in
theorem ch_X12_orders_r7 : CH wsX12_orders_r7 13223792222504491345827154856891661919765067094892677536847993815943722076104765969316949969470087264145371120792290229087593985335640385830971980335077315195293157904384974559822410206809425252576901268037502842008278678819212506997040477264303979527714938029906394393603983912108547602413896038047078919756745426677996098246513617036760601802064490496981819457536 := ch_to (ch_of (n := [109, 1151, 1152, 1153, 1154, 1155, 1156, 110, 1157, 1158, 1159, 1161, 1162, 111, 1163, 955, 956, 74, 957, 831, 832, 1208, 1209, 119]) rfl) (by decide +kernel)
set_option maxRecDepth 100000 in
set_option maxHeartbeats 4000000 in
theorem ch_X12_orders_r8 : CH wsX12_orders_r8 94496289660033360305334984540637802368323072475212163492985156509334147389985722935848143181876390646157481938725010183655010865416150780617784065739496868516012499359317348052186612989630042575317362623616339062240135086931030463264453889256666503587522377559867794912857923179679720499489728184453222295784927076658235611760540543138425526943062017636164836953681733055679814607856774768848157225779200 := ch_to (ch_of (n := [1210, 833, 1336, 1337, 139, 1338, 866, 885, 990, 991, 78, 992, 1339, 1340, 140, 1341, 868, 869, 1002, 1003, 82, 1004, 864, 867]) rfl) (by decide +kernel)
set_option maxRecDepth 100000 in
set_option maxHeartbeats 4000000 in
theorem ch_X12_orders_r9 : CH wsX12_orders_r9 671973615360237228837937667844535483507949809514120257859380237137321839964099338895091643646275882364296564251915613319492524272764196950348551304860413168648709731707906615026383192108163714263000580978846929959928889027535590452870538571348745350919571649222293621085729157085844732020067046119381234835637563804877148894185082027102161656260194921972885668589075742894596186068823924166077833161998336 := ch_to (ch_of (n := [865, 1012, 1013, 1005, 1006, 83, 1007, 987, 988, 77, 989, 984, 985, 76, 986, 1009, 1010, 84, 1011, 1342, 1343, 141, 1344, 1199]) rfl) (by decide +kernel)
set_option maxRecDepth 100000 in
set_option maxHeartbeats 4000000 in
theorem ch_X12_orders_r10 : CH wsX12_orders_r10 4390712261378366407607181312493422048312880810089415930199273579673292926152235099484634527924336050708663072339068036345119026523270543869459440974454347029868251835768310144637214170461737821798825627930326852615800062153891367183805094587356056898356135783426344637508772895721470022388978172788188433332426198845801428982351440609166785750247863258928203694080 := ch_to (ch_of (n := [1200, 116, 1201, 1202, 1203, 117, 1204, 1021, 1022, 86, 1023, 996, 997, 80, 998, 870, 999, 1000, 81, 1001, 1205, 1206, 118, 1207]) rfl) (by decide +kernel)
set_option maxRecDepth 100000 in
set_option maxHeartbeats 4000000 in
theorem ch_X12_orders_r11 : CH wsX12_orders_r11 32609342669006596296291402780178910973764160941020148274737120785000174371077962989956160229356735597276866762217968538648946746533969970098783479594599770524024063015370095758489325994004212280605813767733016683885149087875168874474964357917386583599317340808928982113898177359242216835171705417419387610095260250144274165951837910120156880711132260395076167926095544320 := ch_to (ch_of (n := [1211, 1212, 120, 1213, 1214, 1215, 121, 1216, 1017, 1018, 85, 1019, 1020, 1014, 1015, 1016, 1221, 1222, 122, 1223, 1228, 1229, 123, 1230]) rfl) (by decide +kernel)
set_option maxRecDepth 100000 in
set_option maxHeartbeats 4000000 in
theorem ch_X12_orders_r12 : CH wsX12_orders_r12 605229765548170273231690321714236971129394817976800029926421302560430584672256560915074015840105162190651896021619528430078561934072199729256712480006750540432666385173064050125524746821920101633224286243994265602452841734815117169377465713590258387466169753051530833672435322864937334575999846002776678411856920656371536441049338182949210424941305914352883964516944689758208 := ch_to (ch_of (n := [978, 1235, 1236, 124, 1237, 1238, 1239, 125, 1240, 1241, 1242, 126, 1243, 1244, 871, 1192, 1193, 115, 1194, 1186, 1187, 114, 1188, 1175]) rfl) (by decide +kernel)
set_option maxRecDepth 100000 in
set_option maxHeartbeats 4000000 in
theorem ch_X12_orders_r13 : CH wsX12_orders_r13 5375788922881897830703501342760524617779580109185280853431724163152501379353306632950420974891661388103615639320454295482408659958385166166648256406516220439634175459047120703182874838277677251201580273705553040480710691225746328771471304081766498284949611199203655902745772283356659501528229923955479714401509237528564363422019499559800196180580901472949792694651544069134890729943585899501938320443703296 := ch_to (ch_of (n := [1176, 113, 1177, 1178, 1179, 1180, 993, 994, 79, 995, 1245, 1246, 127, 1247, 1345, 1346, 142, 1347, 958, 959, 75, 960]) rfl) (by decide +kernel)
set_option maxRecDepth 100000 in
set_option maxHeartbeats 4000000 in
theorem ch_X12_orders : CH wsX12_orders 6143755839435411135841194449545492957604738505977786725040476603224036703031059581444946116265918108443504420518115212668924511272960674404233191305280303141023823967549061186897511734838041616357712313131370945265833676671728342424681365975234787117465143987575381320630639880718025949618042007200952374391786788145471962498462538045713015164190651424541872174092518886286644312102816405913297602626977792 := ch_to (ch_cons 1327 rfl (ch_app (ch_app ch_X12_orders_r1 (ch_app ch_X12_orders_r2 (ch_app ch_X12_orders_r3 (ch_app ch_X12_orders_r4 (ch_app ch_X12_orders_r5 (ch_app ch_X12_orders_r6 (ch_app ch_X12_orders_r7 (ch_app ch_X12_orders_r8 (ch_app ch_X12_orders_r9 (ch_app ch_X12_orders_r10 (ch_app ch_X12_orders_r11 (ch_app ch_X12_orders_r12 ch_X12_orders_r13)))))))))))) ch_X120)) (by decide +kernel)
set_option maxRecDepth 100000 in
set_option maxHeartbeats 4000000 in
theorem ch_X12_stopped : CH wsX12_stopped 49150070152063065880717726562343166793724328294756975884178646169865727410306311102546598101718375959786651087608076860166127432465739033427610912659211593959135034462080827613362336465105467772504604093640543570079067111853057160342515944458820412494109413772477810926823623824991817394274250929910385107328945001281968099731848250521653014161554093957668914111992964527491593991630625170240076516098572288 := ch_to (ch_cons 1351 rfl (ch_app (ch_of (n := [830, 884]) rfl) ch_X120)) (by decide +kernel)
set_option maxRecDepth 100000 in
set_option maxHeartbeats 4000000 in
theorem ch_X12_draw : CH wsX12_draw 188736269383922172981956069999397760487901420651866787395246001292284393255576234633778936710598563685580740176415015143001393930033902149653497285312608019989687128116277406214143763941409160876979921895479787912257141662245061218383908769780854070968136915821598661158358301142595702079164812364299395375301236801101446582289165188997947301211523273278079598070231668817285697296283695234239968294332461481984 := ch_to (ch_cons 1359 rfl (ch_app (ch_of (n := [886, 1360, 1361, 1362]) rfl) ch_X120)) (by decide +kernel)
set_option maxRecDepth 100000 in
set_option maxHeartbeats 4000000 in
theorem ch_X12_days_r1 : CH wsX12_days_r1 1572802244866018108182967249994981342132158130017316479097696916470101561037559762551952304427757051967920907675337838191652406589617773882543127986489268937908500980577838655880266740113964603360757675664220574569953350185164759352115055946156023176873460272773604686807566621486249873003238962808569677755189024494509748776741117544000580721296362561986561260752596051327675846459835485347506454742731587584 := ch_to (ch_of (n := [830, 1091, 1356, 886, 833, 889, 887, 888, 965, 966, 156, 967, 955, 956, 74, 957, 831, 832, 1208, 1209, 119, 1210, 836, 1238]) rfl) (by decide +kernel)
set_option maxRecDepth 100000 in
set_option maxHeartbeats 4000000 in
theorem ch_X12_days_r2 : CH wsX12_days_r2 198173082853118281631053873499367648540694369247319712579551393162950444209333130124003928693998451064688711643916702307662330060584690046142360191673904873068412149733665364825449324843515195532414265121581729541856272533652419079069690027043141739995167657647652866296819401066806621806837617751317850930783769848831955399428087358388503989646437740289492017546673560040183787087655127472013139395585180172288 := ch_to (ch_of (n := [1239, 125, 1240, 990, 991, 78, 992, 1357, 1358, 143, 1359, 1360, 1361, 1362, 1202, 1203, 117, 1204, 1021, 1022, 86, 1023, 996, 997]) rfl) (by decide +kernel)
set_option maxRecDepth 100000 in
set_option maxHeartbeats 4000000 in
theorem ch_X12_days_r3 : CH wsX12_days_r3 135093126422526618156875059122862378271055530769573058555399358017657377144689468367787880776033195232578393963289527103514397145763119903161187461063034494345572657722909042389477470560672909135739312238424527579808383485885039942975958814109493829587573848966745601957831724466862912598121978894225506304 := ch_to (ch_of (n := [80, 998, 864, 865, 870, 999, 1000, 81, 1001, 868, 869, 1002, 1003, 82, 1004, 850, 854, 855, 867, 866, 1008, 1012, 1013, 1005]) rfl) (by decide +kernel)
set_option maxRecDepth 100000 in
set_option maxHeartbeats 4000000 in
theorem ch_X12_days_r4 : CH wsX12_days_r4 2221597093380715087745525339855495240633416210356771768461710591907226085936535835636910367436902201907627141608395834630311484295972078579036437150444008952889704547939372482277160771030532774672110097969060470629972382748211785436114975133790706002731477809448889890348752695177663909724517472390668319792977783340052667351360541214101668239760677054542491827568640 := ch_to (ch_of (n := [1006, 83, 1007, 987, 988, 77, 989, 984, 985, 76, 986, 1009, 1010, 84, 1011, 1211, 1212, 120, 1213, 1214, 1215, 121, 1216, 1017]) rfl) (by decide +kernel)
set_option maxRecDepth 100000 in
set_option maxHeartbeats 4000000 in
theorem ch_X12_days_r5 : CH wsX12_days_r5 567957551247549845971150991405578152429815310826167190731351082792578124501262143297264669836192448580530982726233940664012301710457190049699748008571814224347154211563730004065423759739778554380470157965389814666273623319866765920491930696179356173199210523839440319642322955638738667679892333902576920780305663484226717299227782106451014604004790044656357167818461820223488 := ch_to (ch_of (n := [1018, 85, 1019, 1020, 1014, 1015, 1016, 1241, 1242, 126, 1243, 1244, 871, 1192, 1193, 115, 1194, 1186, 1187, 114, 1188, 1175, 1176, 113]) rfl) (by decide +kernel)
set_option maxRecDepth 100000 in
set_option maxHeartbeats 4000000 in
theorem ch_X12_days_r6 : CH wsX12_days_r6 4240749715981701946235589798333168089697944557625431951559693653893508027081798890293635707690804109638779912850963382999773287406798855560160189957127627274494751954472799818388324149870308994407316144549610571283085641712468337082116492984880211608328397643458342698441907286004628420179527571902996071114707642769978221506850801729836164992802894811774753764144044876759040 := ch_to (ch_of (n := [1177, 1178, 1179, 1180, 993, 994, 79, 995, 1245, 1246, 127, 1247, 958, 959, 75, 960]) rfl) (by decide +kernel)
set_option maxRecDepth 100000 in
set_option maxHeartbeats 4000000 in
theorem ch_X12_days : CH wsX12_days 200532286220417308793328324374360125360233386080902026260251825902409979392190699949211979215870207279810097552407311429670867791436594295977206775998576655145504067405955836656076234531760642511828891252320620083301645745970196636889713995586659957876976969768163247702830477679465591058505468618316880359682323314816985940307704937929880732846342615101186250777830611102255004312513179352319027281382407667712 := ch_to (ch_cons 1355 rfl (ch_app (ch_app ch_X12_days_r1 (ch_app ch_X12_days_r2 (ch_app ch_X12_days_r3 (ch_app ch_X12_days_r4 (ch_app ch_X12_days_r5 ch_X12_days_r6))))) ch_X120)) (by decide +kernel)
set_option maxRecDepth 100000 in
set_option maxHeartbeats 4000000 in
theorem ch_X12_drawn : CH wsX12_drawn 1610549498742802542779358463994860889496758789562596586298232169698119830404555437561415734079405251551140115704135652509430658866970825930200914917536699644859661953773048443022723911718144511144889021580052719485669967486032197920378736323100064579298678800387818076973644191600276572517589885459172660676633244861521008002362632176737501979401630332750677745724289332229681235875266311713242225046065644568576 := ch_to (ch_cons 1366 rfl (ch_app (ch_of (n := [830, 889, 1185, 888, 887, 965, 966, 156, 967]) rfl) ch_X120)) (by decide +kernel)
set_option maxRecDepth 100000 in
set_option maxHeartbeats 4000000 in
theorem ch_X12_count : CH wsX12_count 180381543859193884791288147967424419623636984431010817606549778301745937447462726647323655778876067266432366077939126209622737260087259250468048886576119887241516512530916733294853102811239405878107582948034809707916638869933427694694794234848210417355441599499284060018192196041229526070552101193788481410552682515814509545906689065775392175538733411476815236315949670810578782148854970462114414319411018566991872 := ch_to (ch_cons 1370 rfl (ch_app (ch_of (n := [830, 833, 838, 843, 832, 1371, 1372, 987, 988, 77, 156, 989, 990, 991, 78, 992, 965, 966, 967]) rfl) ch_X120)) (by decide +kernel)
set_option maxRecDepth 100000 in
set_option maxHeartbeats 4000000 in
theorem ch_X12_status : CH wsX12_status 1649202686712629803806063067130737550844681000512098903831312258758819999519659215061244852835438329293095918426871257654898497195997585771557939945189550662448425838184332739370528699225228222587588950932142449701943154832381638294776371144866012634557119805088980617030177441672729134216543721628897562172677888154391365391075210861739461594433971536642519783708544535541155081374874461008172779394851507963691008 := ch_to (ch_cons 1376 rfl (ch_app (ch_of (n := [830, 831]) rfl) ch_X120)) (by decide +kernel)
