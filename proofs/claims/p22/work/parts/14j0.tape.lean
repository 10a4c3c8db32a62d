def aT6 : List aCe := [.inr (11, [(false, .inr (some [1])), (true, .inl (0, 1600)), (false, .inl (-2147483648, 2147483647)), (false, .inl (-2147483648, 2147483647)), (false, .inr (some [2, 14])), (false, .inr (some [2, 14])), (false, .inr (some [26])), (false, .inr (some [31])), (false, .inr (some [34])), (false, .inr (some [38])), (false, .inr (some [181])), (false, .inr (some [185])), (false, .inr (some [219])), (false, .inl (0, 33)), (false, .inr (some [220])), (false, .inl (-2147483648, 2147483647))]),
  .inl (true, 0, 1600, .inl (0, 255)),
  .inr (4, [(false, .inl (-2147483648, 2147483647)), (false, .inl (-2147483648, 2147483647)), (false, .inl (-2147483648, 2147483647)), (false, .inl (-2147483648, 2147483647)), (false, .inl (-2147483648, 2147483647)), (false, .inr none), (false, .inr none), (false, .inl (0, 9)), (false, .inr (some [3])), (false, .inr (some [4])), (false, .inr (some [5])), (false, .inr (some [6])), (false, .inl (0, 511)), (false, .inl (0, 6)), (false, .inr (some [7])), (false, .inr (some [8])), (false, .inr (some [9])), (false, .inr (some [10]))]),
  .inl (false, 0, 9, .inl (-2147483648, 2147483647)),
  .inl (false, 0, 9, .inl (-2147483648, 2147483647)),
  .inl (false, 0, 9, .inl (-2147483648, 2147483647)),
  .inl (false, 0, 9, .inl (-2147483648, 2147483647)),
  .inl (false, 0, 6, .inl (-2147483648, 2147483647)),
  .inl (false, 0, 6, .inl (-2147483648, 2147483647)),
  .inl (false, 0, 6, .inl (-2147483648, 2147483647)),
  .inr (7, [(false, .inr (some [11])), (false, .inr (some [12])), (false, .inr (some [13])), (false, .inl (0, 1600))]),
  .inl (false, 0, 1600, .inl (-2147483648, 2147483647)),
  .inl (false, 0, 3, .inl (0, 1600)),
  .inl (false, 0, 3, .inl (0, 1600)),
  .inr (4, [(false, .inl (-2147483648, 2147483647)), (false, .inl (-2147483648, 2147483647)), (false, .inl (-2147483648, 2147483647)), (false, .inl (-2147483648, 2147483647)), (false, .inl (-2147483648, 2147483647)), (false, .inr none), (false, .inr none), (false, .inl (0, 9)), (false, .inr (some [15])), (false, .inr (some [16])), (false, .inr (some [17])), (false, .inr (some [18])), (false, .inl (0, 511)), (false, .inl (0, 6)), (false, .inr (some [19])), (false, .inr (some [20])), (false, .inr (some [21])), (false, .inr (some [22]))]),
  .inl (false, 0, 9, .inl (-2147483648, 2147483647)),
  .inl (false, 0, 9, .inl (-2147483648, 2147483647)),
  .inl (false, 0, 9, .inl (-2147483648, 2147483647)),
  .inl (false, 0, 9, .inl (-2147483648, 2147483647)),
  .inl (false, 0, 6, .inl (-2147483648, 2147483647)),
  .inl (false, 0, 6, .inl (-2147483648, 2147483647)),
  .inl (false, 0, 6, .inl (-2147483648, 2147483647)),
  .inr (7, [(false, .inr (some [23])), (false, .inr (some [24])), (false, .inr (some [25])), (false, .inl (0, 1600))]),
  .inl (false, 0, 1600, .inl (-2147483648, 2147483647)),
  .inl (false, 0, 3, .inl (0, 1600)),
  .inl (false, 0, 3, .inl (0, 1600)),
  .inr (9, [(false, .inr (some [27])), (false, .inr (some [30])), (false, .inr (some [2, 14])), (false, .inl (-2147483648, 2147483647))]),
  .inr (5, [(false, .inr (some [28])), (false, .inr (some [1, 29])), (false, .inl (0, 1600)), (false, .inl (0, 1600)), (false, .inl (-2147483648, 2147483647)), (false, .inl (-2147483648, 2147483647)), (false, .inl (-2147483648, 2147483647)), (false, .inl (-2147483648, 2147483647)), (false, .inl (-2147483648, 2147483647)), (false, .inl (-2147483648, 2147483647)), (false, .inl (-2147483648, 2147483647)), (false, .inl (-2147483648, 2147483647))]),
  .inl (true, 0, 26, .inl (-2147483648, 2147483647)),
  .inl (false, 0, 0, .inl (-2147483648, 2147483647)),
  .inr (10, [(false, .inr (some [27])), (false, .inr (some [10, 22])), (false, .inl (-2147483648, 2147483647))]),
  .inr (8, [(false, .inl (-2147483648, 2147483647)), (false, .inl (0, 511)), (false, .inr (some [32])), (false, .inr (some [33])), (false, .inl (-2147483648, 2147483647)), (false, .inl (-2147483648, 2147483647))]),
  .inl (false, 0, 9, .inl (-2147483648, 2147483647)),
  .inl (false, 0, 6, .inl (-2147483648, 2147483647)),
  .inr (1, [(false, .inr (some [35])), (false, .inr (some [36])), (false, .inr (some [37])), (false, .inl (0, 40))]),
  .inl (false, 0, 40, .inl (-2147483648, 2147483647)),
  .inl (false, 0, 40, .inl (-2147483648, 2147483647)),
  .inl (false, 0, 40, .inl (-2147483648, 2147483647)),
  .inr (2, [(false, .inr (some [39])), (false, .inr (some [40])), (false, .inl (0, 19)), (false, .inl (0, 20))]),
  .inl (false, 3, 20, .inr (some [41, 48, 55, 62, 69, 76, 83, 90, 97, 104, 111, 118, 125, 132, 139, 146, 153, 160, 167, 174])),
  .inl (false, 4, 20, .inr (some [44, 51, 58, 65, 72, 79, 86, 93, 100, 107, 114, 121, 128, 135, 142, 149, 156, 163, 170, 177])),
  .inr (8, [(false, .inl (-2147483648, 2147483647)), (false, .inl (0, 511)), (false, .inr (some [42])), (false, .inr (some [43])), (false, .inl (-2147483648, 2147483647)), (false, .inl (-2147483648, 2147483647))]),
  .inl (false, 0, 9, .inl (-2147483648, 2147483647)),
  .inl (false, 0, 6, .inl (-2147483648, 2147483647)),
  .inr (1, [(false, .inr (some [45])), (false, .inr (some [46])), (false, .inr (some [47])), (false, .inl (0, 40))]),
  .inl (false, 0, 40, .inl (-2147483648, 2147483647)),
  .inl (false, 0, 40, .inl (-2147483648, 2147483647)),
  .inl (false, 0, 40, .inl (-2147483648, 2147483647)),
  .inr (8, [(false, .inl (-2147483648, 2147483647)), (false, .inl (0, 511)), (false, .inr (some [49])), (false, .inr (some [50])), (false, .inl (-2147483648, 2147483647)), (false, .inl (-2147483648, 2147483647))]),
  .inl (false, 0, 9, .inl (-2147483648, 2147483647)),
  .inl (false, 0, 6, .inl (-2147483648, 2147483647)),
  .inr (1, [(false, .inr (some [52])), (false, .inr (some [53])), (false, .inr (some [54])), (false, .inl (0, 40))]),
  .inl (false, 0, 40, .inl (-2147483648, 2147483647)),
  .inl (false, 0, 40, .inl (-2147483648, 2147483647)),
  .inl (false, 0, 40, .inl (-2147483648, 2147483647)),
  .inr (8, [(false, .inl (-2147483648, 2147483647)), (false, .inl (0, 511)), (false, .inr (some [56])), (false, .inr (some [57])), (false, .inl (-2147483648, 2147483647)), (false, .inl (-2147483648, 2147483647))]),
  .inl (false, 0, 9, .inl (-2147483648, 2147483647)),
  .inl (false, 0, 6, .inl (-2147483648, 2147483647)),
  .inr (1, [(false, .inr (some [59])), (false, .inr (some [60])), (false, .inr (some [61])), (false, .inl (0, 40))]),
  .inl (false, 0, 40, .inl (-2147483648, 2147483647)),
  .inl (false, 0, 40, .inl (-2147483648, 2147483647)),
  .inl (false, 0, 40, .inl (-2147483648, 2147483647)),
  .inr (8, [(false, .inl (-2147483648, 2147483647)), (false, .inl (0, 511)), (false, .inr (some [63])), (false, .inr (some [64])), (false, .inl (-2147483648, 2147483647)), (false, .inl (-2147483648, 2147483647))]),
  .inl (false, 0, 9, .inl (-2147483648, 2147483647)),
  .inl (false, 0, 6, .inl (-2147483648, 2147483647)),
  .inr (1, [(false, .inr (some [66])), (false, .inr (some [67])), (false, .inr (some [68])), (false, .inl (0, 40))]),
  .inl (false, 0, 40, .inl (-2147483648, 2147483647)),
  .inl (false, 0, 40, .inl (-2147483648, 2147483647)),
  .inl (false, 0, 40, .inl (-2147483648, 2147483647)),
  .inr (8, [(false, .inl (-2147483648, 2147483647)), (false, .inl (0, 511)), (false, .inr (some [70])), (false, .inr (some [71])), (false, .inl (-2147483648, 2147483647)), (false, .inl (-2147483648, 2147483647))]),
  .inl (false, 0, 9, .inl (-2147483648, 2147483647)),
  .inl (false, 0, 6, .inl (-2147483648, 2147483647)),
  .inr (1, [(false, .inr (some [73])), (false, .inr (some [74])), (false, .inr (some [75])), (false, .inl (0, 40))]),
  .inl (false, 0, 40, .inl (-2147483648, 2147483647)),
  .inl (false, 0, 40, .inl (-2147483648, 2147483647)),
  .inl (false, 0, 40, .inl (-2147483648, 2147483647)),
  .inr (8, [(false, .inl (-2147483648, 2147483647)), (false, .inl (0, 511)), (false, .inr (some [77])), (false, .inr (some [78])), (false, .inl (-2147483648, 2147483647)), (false, .inl (-2147483648, 2147483647))]),
  .inl (false, 0, 9, .inl (-2147483648, 2147483647)),
  .inl (false, 0, 6, .inl (-2147483648, 2147483647)),
  .inr (1, [(false, .inr (some [80])), (false, .inr (some [81])), (false, .inr (some [82])), (false, .inl (0, 40))]),
  .inl (false, 0, 40, .inl (-2147483648, 2147483647)),
  .inl (false, 0, 40, .inl (-2147483648, 2147483647)),
  .inl (false, 0, 40, .inl (-2147483648, 2147483647)),
  .inr (8, [(false, .inl (-2147483648, 2147483647)), (false, .inl (0, 511)), (false, .inr (some [84])), (false, .inr (some [85])), (false, .inl (-2147483648, 2147483647)), (false, .inl (-2147483648, 2147483647))]),
  .inl (false, 0, 9, .inl (-2147483648, 2147483647)),
  .inl (false, 0, 6, .inl (-2147483648, 2147483647)),
  .inr (1, [(false, .inr (some [87])), (false, .inr (some [88])), (false, .inr (some [89])), (false, .inl (0, 40))]),
  .inl (false, 0, 40, .inl (-2147483648, 2147483647)),
  .inl (false, 0, 40, .inl (-2147483648, 2147483647)),
  .inl (false, 0, 40, .inl (-2147483648, 2147483647)),
  .inr (8, [(false, .inl (-2147483648, 2147483647)), (false, .inl (0, 511)), (false, .inr (some [91])), (false, .inr (some [92])), (false, .inl (-2147483648, 2147483647)), (false, .inl (-2147483648, 2147483647))]),
  .inl (false, 0, 9, .inl (-2147483648, 2147483647)),
  .inl (false, 0, 6, .inl (-2147483648, 2147483647)),
  .inr (1, [(false, .inr (some [94])), (false, .inr (some [95])), (false, .inr (some [96])), (false, .inl (0, 40))]),
  .inl (false, 0, 40, .inl (-2147483648, 2147483647)),
  .inl (false, 0, 40, .inl (-2147483648, 2147483647)),
  .inl (false, 0, 40, .inl (-2147483648, 2147483647)),
  .inr (8, [(false, .inl (-2147483648, 2147483647)), (false, .inl (0, 511)), (false, .inr (some [98])), (false, .inr (some [99])), (false, .inl (-2147483648, 2147483647)), (false, .inl (-2147483648, 2147483647))]),
  .inl (false, 0, 9, .inl (-2147483648, 2147483647)),
  .inl (false, 0, 6, .inl (-2147483648, 2147483647)),
  .inr (1, [(false, .inr (some [101])), (false, .inr (some [102])), (false, .inr (some [103])), (false, .inl (0, 40))]),
  .inl (false, 0, 40, .inl (-2147483648, 2147483647)),
  .inl (false, 0, 40, .inl (-2147483648, 2147483647)),
  .inl (false, 0, 40, .inl (-2147483648, 2147483647)),
  .inr (8, [(false, .inl (-2147483648, 2147483647)), (false, .inl (0, 511)), (false, .inr (some [105])), (false, .inr (some [106])), (false, .inl (-2147483648, 2147483647)), (false, .inl (-2147483648, 2147483647))]),
  .inl (false, 0, 9, .inl (-2147483648, 2147483647)),
  .inl (false, 0, 6, .inl (-2147483648, 2147483647)),
  .inr (1, [(false, .inr (some [108])), (false, .inr (some [109])), (false, .inr (some [110])), (false, .inl (0, 40))]),
  .inl (false, 0, 40, .inl (-2147483648, 2147483647)),
  .inl (false, 0, 40, .inl (-2147483648, 2147483647)),
  .inl (false, 0, 40, .inl (-2147483648, 2147483647)),
  .inr (8, [(false, .inl (-2147483648, 2147483647)), (false, .inl (0, 511)), (false, .inr (some [112])), (false, .inr (some [113])), (false, .inl (-2147483648, 2147483647)), (false, .inl (-2147483648, 2147483647))]),
  .inl (false, 0, 9, .inl (-2147483648, 2147483647)),
  .inl (false, 0, 6, .inl (-2147483648, 2147483647)),
  .inr (1, [(false, .inr (some [115])), (false, .inr (some [116])), (false, .inr (some [117])), (false, .inl (0, 40))]),
  .inl (false, 0, 40, .inl (-2147483648, 2147483647)),
  .inl (false, 0, 40, .inl (-2147483648, 2147483647)),
  .inl (false, 0, 40, .inl (-2147483648, 2147483647)),
  .inr (8, [(false, .inl (-2147483648, 2147483647)), (false, .inl (0, 511)), (false, .inr (some [119])), (false, .inr (some [120])), (false, .inl (-2147483648, 2147483647)), (false, .inl (-2147483648, 2147483647))]),
  .inl (false, 0, 9, .inl (-2147483648, 2147483647)),
  .inl (false, 0, 6, .inl (-2147483648, 2147483647)),
  .inr (1, [(false, .inr (some [122])), (false, .inr (some [123])), (false, .inr (some [124])), (false, .inl (0, 40))]),
  .inl (false, 0, 40, .inl (-2147483648, 2147483647)),
  .inl (false, 0, 40, .inl (-2147483648, 2147483647)),
  .inl (false, 0, 40, .inl (-2147483648, 2147483647)),
  .inr (8, [(false, .inl (-2147483648, 2147483647)), (false, .inl (0, 511)), (false, .inr (some [126])), (false, .inr (some [127])), (false, .inl (-2147483648, 2147483647)), (false, .inl (-2147483648, 2147483647))]),
  .inl (false, 0, 9, .inl (-2147483648, 2147483647)),
  .inl (false, 0, 6, .inl (-2147483648, 2147483647)),
  .inr (1, [(false, .inr (some [129])), (false, .inr (some [130])), (false, .inr (some [131])), (false, .inl (0, 40))]),
  .inl (false, 0, 40, .inl (-2147483648, 2147483647)),
  .inl (false, 0, 40, .inl (-2147483648, 2147483647)),
  .inl (false, 0, 40, .inl (-2147483648, 2147483647)),
  .inr (8, [(false, .inl (-2147483648, 2147483647)), (false, .inl (0, 511)), (false, .inr (some [133])), (false, .inr (some [134])), (false, .inl (-2147483648, 2147483647)), (false, .inl (-2147483648, 2147483647))]),
  .inl (false, 0, 9, .inl (-2147483648, 2147483647)),
  .inl (false, 0, 6, .inl (-2147483648, 2147483647)),
  .inr (1, [(false, .inr (some [136])), (false, .inr (some [137])), (false, .inr (some [138])), (false, .inl (0, 40))]),
  .inl (false, 0, 40, .inl (-2147483648, 2147483647)),
  .inl (false, 0, 40, .inl (-2147483648, 2147483647)),
  .inl (false, 0, 40, .inl (-2147483648, 2147483647)),
  .inr (8, [(false, .inl (-2147483648, 2147483647)), (false, .inl (0, 511)), (false, .inr (some [140])), (false, .inr (some [141])), (false, .inl (-2147483648, 2147483647)), (false, .inl (-2147483648, 2147483647))]),
  .inl (false, 0, 9, .inl (-2147483648, 2147483647)),
  .inl (false, 0, 6, .inl (-2147483648, 2147483647)),
  .inr (1, [(false, .inr (some [143])), (false, .inr (some [144])), (false, .inr (some [145])), (false, .inl (0, 40))]),
  .inl (false, 0, 40, .inl (-2147483648, 2147483647)),
  .inl (false, 0, 40, .inl (-2147483648, 2147483647)),
  .inl (false, 0, 40, .inl (-2147483648, 2147483647)),
  .inr (8, [(false, .inl (-2147483648, 2147483647)), (false, .inl (0, 511)), (false, .inr (some [147])), (false, .inr (some [148])), (false, .inl (-2147483648, 2147483647)), (false, .inl (-2147483648, 2147483647))]),
  .inl (false, 0, 9, .inl (-2147483648, 2147483647)),
  .inl (false, 0, 6, .inl (-2147483648, 2147483647)),
  .inr (1, [(false, .inr (some [150])), (false, .inr (some [151])), (false, .inr (some [152])), (false, .inl (0, 40))]),
  .inl (false, 0, 40, .inl (-2147483648, 2147483647)),
  .inl (false, 0, 40, .inl (-2147483648, 2147483647)),
  .inl (false, 0, 40, .inl (-2147483648, 2147483647)),
  .inr (8, [(false, .inl (-2147483648, 2147483647)), (false, .inl (0, 511)), (false, .inr (some [154])), (false, .inr (some [155])), (false, .inl (-2147483648, 2147483647)), (false, .inl (-2147483648, 2147483647))]),
  .inl (false, 0, 9, .inl (-2147483648, 2147483647)),
  .inl (false, 0, 6, .inl (-2147483648, 2147483647)),
  .inr (1, [(false, .inr (some [157])), (false, .inr (some [158])), (false, .inr (some [159])), (false, .inl (0, 40))]),
  .inl (false, 0, 40, .inl (-2147483648, 2147483647)),
  .inl (false, 0, 40, .inl (-2147483648, 2147483647)),
  .inl (false, 0, 40, .inl (-2147483648, 2147483647)),
  .inr (8, [(false, .inl (-2147483648, 2147483647)), (false, .inl (0, 511)), (false, .inr (some [161])), (false, .inr (some [162])), (false, .inl (-2147483648, 2147483647)), (false, .inl (-2147483648, 2147483647))]),
  .inl (false, 0, 9, .inl (-2147483648, 2147483647)),
  .inl (false, 0, 6, .inl (-2147483648, 2147483647)),
  .inr (1, [(false, .inr (some [164])), (false, .inr (some [165])), (false, .inr (some [166])), (false, .inl (0, 40))]),
  .inl (false, 0, 40, .inl (-2147483648, 2147483647)),
  .inl (false, 0, 40, .inl (-2147483648, 2147483647)),
  .inl (false, 0, 40, .inl (-2147483648, 2147483647)),
  .inr (8, [(false, .inl (-2147483648, 2147483647)), (false, .inl (0, 511)), (false, .inr (some [168])), (false, .inr (some [169])), (false, .inl (-2147483648, 2147483647)), (false, .inl (-2147483648, 2147483647))]),
  .inl (false, 0, 9, .inl (-2147483648, 2147483647)),
  .inl (false, 0, 6, .inl (-2147483648, 2147483647)),
  .inr (1, [(false, .inr (some [171])), (false, .inr (some [172])), (false, .inr (some [173])), (false, .inl (0, 40))]),
  .inl (false, 0, 40, .inl (-2147483648, 2147483647)),
  .inl (false, 0, 40, .inl (-2147483648, 2147483647)),
  .inl (false, 0, 40, .inl (-2147483648, 2147483647)),
  .inr (8, [(false, .inl (-2147483648, 2147483647)), (false, .inl (0, 511)), (false, .inr (some [175])), (false, .inr (some [176])), (false, .inl (-2147483648, 2147483647)), (false, .inl (-2147483648, 2147483647))]),
  .inl (false, 0, 9, .inl (-2147483648, 2147483647)),
  .inl (false, 0, 6, .inl (-2147483648, 2147483647)),
  .inr (1, [(false, .inr (some [178])), (false, .inr (some [179])), (false, .inr (some [180])), (false, .inl (0, 40))]),
  .inl (false, 0, 40, .inl (-2147483648, 2147483647)),
  .inl (false, 0, 40, .inl (-2147483648, 2147483647)),
  .inl (false, 0, 40, .inl (-2147483648, 2147483647)),
  .inr (0, [(false, .inr (some [2, 14])), (false, .inr (some [182])), (false, .inr (some [184])), (false, .inl (0, 511)), (false, .inl (0, 511))]),
  .inr (6, [(false, .inr (some [183])), (false, .inl (-2147483648, 2147483647)), (false, .inl (-2147483648, 2147483647)), (false, .inl (-2147483648, 2147483647)), (false, .inl (-2147483648, 2147483647)), (false, .inl (-2147483648, 2147483647)), (false, .inl (-2147483648, 2147483647))]),
  .inl (false, 0, 128, .inl (-2147483648, 2147483647)),
  .inl (false, 1, 49, .inr none),
  .inr (3, [(false, .inr (some [181])), (false, .inr (some [186])), (false, .inr (some [187])), (false, .inr (some [188])), (false, .inr (some [189])), (false, .inr (some [190])), (false, .inl (-2147483648, 2147483647)), (false, .inl (-2147483648, 2147483647)), (false, .inr (some [191])), (false, .inl (0, 16)), (false, .inl (-2147483648, 2147483647)), (false, .inl (-2147483648, 2147483647)), (false, .inl (-2147483648, 2147483647))]),
  .inl (false, 3, 9, .inr (some [192, 195, 198, 201, 204, 207, 210, 213, 216])),
  .inl (false, 1, 9, .inr none),
  .inl (false, 0, 54, .inl (-2147483648, 2147483647)),
  .inl (false, 0, 3584, .inl (-2147483648, 2147483647)),
  .inl (false, 0, 6, .inl (-2147483648, 2147483647)),
  .inl (true, 0, 64, .inl (0, 255)),
  .inr (8, [(false, .inl (-2147483648, 2147483647)), (false, .inl (0, 511)), (false, .inr (some [193])), (false, .inr (some [194])), (false, .inl (-2147483648, 2147483647)), (false, .inl (-2147483648, 2147483647))]),
  .inl (false, 0, 9, .inl (-2147483648, 2147483647)),
  .inl (false, 0, 6, .inl (-2147483648, 2147483647)),
  .inr (8, [(false, .inl (-2147483648, 2147483647)), (false, .inl (0, 511)), (false, .inr (some [196])), (false, .inr (some [197])), (false, .inl (-2147483648, 2147483647)), (false, .inl (-2147483648, 2147483647))]),
  .inl (false, 0, 9, .inl (-2147483648, 2147483647)),
  .inl (false, 0, 6, .inl (-2147483648, 2147483647)),
  .inr (8, [(false, .inl (-2147483648, 2147483647)), (false, .inl (0, 511)), (false, .inr (some [199])), (false, .inr (some [200])), (false, .inl (-2147483648, 2147483647)), (false, .inl (-2147483648, 2147483647))]),
  .inl (false, 0, 9, .inl (-2147483648, 2147483647)),
  .inl (false, 0, 6, .inl (-2147483648, 2147483647)),
  .inr (8, [(false, .inl (-2147483648, 2147483647)), (false, .inl (0, 511)), (false, .inr (some [202])), (false, .inr (some [203])), (false, .inl (-2147483648, 2147483647)), (false, .inl (-2147483648, 2147483647))]),
  .inl (false, 0, 9, .inl (-2147483648, 2147483647)),
  .inl (false, 0, 6, .inl (-2147483648, 2147483647)),
  .inr (8, [(false, .inl (-2147483648, 2147483647)), (false, .inl (0, 511)), (false, .inr (some [205])), (false, .inr (some [206])), (false, .inl (-2147483648, 2147483647)), (false, .inl (-2147483648, 2147483647))]),
  .inl (false, 0, 9, .inl (-2147483648, 2147483647)),
  .inl (false, 0, 6, .inl (-2147483648, 2147483647)),
  .inr (8, [(false, .inl (-2147483648, 2147483647)), (false, .inl (0, 511)), (false, .inr (some [208])), (false, .inr (some [209])), (false, .inl (-2147483648, 2147483647)), (false, .inl (-2147483648, 2147483647))]),
  .inl (false, 0, 9, .inl (-2147483648, 2147483647)),
  .inl (false, 0, 6, .inl (-2147483648, 2147483647)),
  .inr (8, [(false, .inl (-2147483648, 2147483647)), (false, .inl (0, 511)), (false, .inr (some [211])), (false, .inr (some [212])), (false, .inl (-2147483648, 2147483647)), (false, .inl (-2147483648, 2147483647))]),
  .inl (false, 0, 9, .inl (-2147483648, 2147483647)),
  .inl (false, 0, 6, .inl (-2147483648, 2147483647)),
  .inr (8, [(false, .inl (-2147483648, 2147483647)), (false, .inl (0, 511)), (false, .inr (some [214])), (false, .inr (some [215])), (false, .inl (-2147483648, 2147483647)), (false, .inl (-2147483648, 2147483647))]),
  .inl (false, 0, 9, .inl (-2147483648, 2147483647)),
  .inl (false, 0, 6, .inl (-2147483648, 2147483647)),
  .inr (8, [(false, .inl (-2147483648, 2147483647)), (false, .inl (0, 511)), (false, .inr (some [217])), (false, .inr (some [218])), (false, .inl (-2147483648, 2147483647)), (false, .inl (-2147483648, 2147483647))]),
  .inl (false, 0, 9, .inl (-2147483648, 2147483647)),
  .inl (false, 0, 6, .inl (-2147483648, 2147483647)),
  .inl (false, 0, 33, .inl (-2147483648, 2147483647)),
  .inl (false, 0, 6, .inl (-2147483648, 2147483647)),
  .inr (12, [(false, .inr (some [222])), (true, .inl (0, 1600)), (false, .inl (0, 1600)), (false, .inl (-2147483648, 2147483647)), (false, .inl (0, 1600)), (false, .inl (0, 1600)), (false, .inl (-2147483648, 2147483647)), (false, .inr none), (false, .inl (-2147483648, 2147483647)), (false, .inl (-2147483648, 2147483647)), (false, .inl (-2147483648, 2147483647)), (false, .inl (-2147483648, 2147483647)), (false, .inl (-2147483648, 2147483647)), (true, .inl (0, 1)), (false, .inr (some [223])), (false, .inr (some [224])), (false, .inr (some [225])), (false, .inr (some [226])), (false, .inr (some [227])), (false, .inr (some [228])), (false, .inr (some [229])), (false, .inr (some [230])), (false, .inr (some [231])), (false, .inr (some [232])), (false, .inr (some [233])), (false, .inr (some [234])), (false, .inr (some [235])), (false, .inr (some [236])), (false, .inr (some [237])), (false, .inr (some [238])), (false, .inr (some [239])), (false, .inr (some [240])), (false, .inr (some [241])), (true, .inl (-2147483648, 2147483647)), (true, .inl (0, 1)), (false, .inl (-2147483648, 2147483647)), (false, .inr (some [242])), (false, .inr (some [243])), (false, .inr (some [244])), (false, .inr (some [245])), (false, .inr (some [246])), (false, .inl (-2147483648, 2147483647)), (false, .inl (-2147483648, 2147483647)), (false, .inr (some [247])), (false, .inl (-2147483648, 2147483647)), (false, .inl (0, 1)), (true, .inl (0, 1)), (false, .inr (some [248])), (false, .inr (some [249])), (false, .inr (some [250])), (false, .inr (some [251])), (false, .inr (some [252])), (false, .inr (some [253])), (false, .inr (some [254])), (false, .inl (0, 19)), (false, .inl (0, 20)), (false, .inr none), (false, .inr (some [255])), (false, .inr (some [256])), (false, .inr (some [257])), (false, .inr (some [258])), (false, .inr (some [259])), (false, .inr (some [260])), (false, .inr (some [261])), (false, .inr (some [262])), (false, .inr (some [263])), (true, .inl (0, 16)), (false, .inr (some [264])), (false, .inr (some [265])), (false, .inr (some [266])), (false, .inr (some [267])), (false, .inr (some [268])), (false, .inl (0, 33))]),
  .inl (true, 0, 1800, .inl (0, 255)),
  .inl (true, 0, 2, .inl (-2147483648, 2147483647)),
  .inl (true, 0, 2, .inl (-2147483648, 2147483647)),
  .inl (true, 0, 2, .inl (-2147483648, 2147483647)),
  .inl (true, 0, 2, .inl (-2147483648, 2147483647)),
  .inl (true, 0, 128, .inl (0, 1)),
  .inl (true, 0, 2, .inl (0, 9)),
  .inl (true, 0, 18, .inl (0, 63)),
  .inl (true, 0, 18, .inl (-2147483648, 2147483647)),
  .inl (true, 0, 18, .inl (-2147483648, 2147483647)),
  .inl (true, 0, 2, .inl (0, 511)),
  .inl (true, 0, 2, .inl (0, 6)),
  .inl (true, 0, 12, .inl (0, 63)),
  .inl (true, 0, 12, .inl (0, 63)),
  .inl (true, 0, 6, .inl (-2147483648, 2147483647)),
  .inl (true, 0, 6, .inl (-2147483648, 2147483647)),
  .inl (true, 0, 3200, .inl (-2147483648, 2147483647)),
  .inl (true, 0, 3200, .inl (-2147483648, 2147483647)),
  .inl (true, 1, 18, .inr none),
  .inl (true, 1, 12, .inr none),
  .inl (false, 0, 20, .inl (-2147483648, 2147483647)),
  .inl (false, 0, 20, .inl (-2147483648, 2147483647)),
  .inl (false, 2, 20, .inl (0, 1)),
  .inl (false, 0, 20, .inl (-2147483648, 2147483647)),
  .inl (false, 0, 20, .inl (-2147483648, 2147483647)),
  .inl (false, 0, 500, .inl (-2147483648, 2147483647)),
  .inl (false, 0, 6, .inl (-2147483648, 2147483647)),
  .inl (false, 0, 22, .inl (-2147483648, 2147483647)),
  .inl (false, 0, 22, .inl (0, 511)),
  .inl (false, 0, 198, .inl (-2147483648, 2147483647)),
  .inl (false, 0, 132, .inl (0, 63)),
  .inl (false, 0, 22, .inl (0, 40)),
  .inl (false, 0, 2640, .inl (-2147483648, 2147483647)),
  .inl (false, 0, 9, .inl (-2147483648, 2147483647)),
  .inl (false, 1, 500, .inr none),
  .inl (false, 0, 10, .inl (-2147483648, 2147483647)),
  .inl (false, 0, 64, .inl (-2147483648, 2147483647)),
  .inl (false, 0, 64, .inl (-2147483648, 2147483647)),
  .inl (false, 0, 64, .inl (0, 63)),
  .inl (false, 0, 64, .inl (0, 511)),
  .inl (false, 0, 54, .inl (-2147483648, 2147483647)),
  .inl (false, 0, 3584, .inl (-2147483648, 2147483647)),
  .inl (true, 0, 16, .inl (0, 255)),
  .inl (true, 0, 16, .inl (0, 5)),
  .inl (true, 0, 16, .inl (-2147483648, 2147483647)),
  .inl (false, 0, 1674, .inl (-2147483648, 2147483647)),
  .inl (false, 0, 50, .inl (-2147483648, 2147483647))]
noncomputable abbrev aΘ6 (E : zM → Prop) : aTh := (aT6, E, zpg)
def aH6 (E : zM → Prop) : Prop := aEs (aΘ6 E) ∧ True
abbrev c6_X11_refuse : aCt := (144, [.inr (some [0]), .inl (0, 5)], some (.inl (-1, -1)))
def a6_X11_refuse_0 : List (Nat × aF) := [(0, a_lda 0 1), (1, a_gf aT6 11 14 (.inr (some [220]))), (4, a_ldi 1 1), (5, a_d22), (6, a_al aT6 0 (-2147483648, 2147483647)), (7, a_pi (1) 1), (8, a_b2 g_add), (9, a_as aT6 0), (10, a_pi (-1) 1), (11, a_ri false)]
theorem p6_X11_refuse_0 {E : zM → Prop} (h : aH6 E) : aP0 (aΘ6 E) 0 tX11_refuse_0 a6_X11_refuse_0 := ⟨rfl, aok_lda, rfl, aok_gf, rfl, aok_ldi, rfl, aok_d22, rfl, aok_al, rfl, aok_pi rfl, rfl, aok_b2 sd_add, rfl, aok_as h.1, rfl, aok_pi rfl, rfl, aok_ri, trivial⟩
def b6_X11_refuse : aTb := [(100000, a6_X11_refuse_0)]
theorem q6_X11_refuse {E : zM → Prop} (h : aH6 E) : aP1 (aΘ6 E) 0 tX11_refuse b6_X11_refuse := ⟨rfl, p6_X11_refuse_0 h, trivial⟩
def n6_X11_refuse : List aNd := []
theorem k6_X11_refuse {E : zM → Prop} (h : aH6 E) : aCv (aΘ6 E) 1 c6_X11_refuse := aMeth (D := 0) (c := c6_X11_refuse) (tb := b6_X11_refuse) (ns := n6_X11_refuse) (fuel := 3000) rfl (q6_X11_refuse h) (by decide +kernel)
abbrev c6_X11_refused : aCt := (145, [.inr (some [0]), .inl (0, 5)], some (.inl (0, 0)))
def a6_X11_refused_0 : List (Nat × aF) := [(0, a_lda 0 1), (1, a_gf aT6 11 14 (.inr (some [220]))), (4, a_ldi 1 1), (5, a_d22), (6, a_al aT6 0 (-2147483648, 2147483647)), (7, a_pi (1) 1), (8, a_b2 g_add), (9, a_as aT6 0), (10, a_pi (0) 1), (11, a_ri true)]
theorem p6_X11_refused_0 {E : zM → Prop} (h : aH6 E) : aP0 (aΘ6 E) 0 tX11_refused_0 a6_X11_refused_0 := ⟨rfl, aok_lda, rfl, aok_gf, rfl, aok_ldi, rfl, aok_d22, rfl, aok_al, rfl, aok_pi rfl, rfl, aok_b2 sd_add, rfl, aok_as h.1, rfl, aok_pi rfl, rfl, aok_ri, trivial⟩
def b6_X11_refused : aTb := [(100000, a6_X11_refused_0)]
theorem q6_X11_refused {E : zM → Prop} (h : aH6 E) : aP1 (aΘ6 E) 0 tX11_refused b6_X11_refused := ⟨rfl, p6_X11_refused_0 h, trivial⟩
def n6_X11_refused : List aNd := []
theorem k6_X11_refused {E : zM → Prop} (h : aH6 E) : aCv (aΘ6 E) 1 c6_X11_refused := aMeth (D := 0) (c := c6_X11_refused) (tb := b6_X11_refused) (ns := n6_X11_refused) (fuel := 3000) rfl (q6_X11_refused h) (by decide +kernel)
abbrev c6_X12_refuses : aCt := (208, [.inr (some [221]), .inl (0, 5)], some (.inl (-1, -1)))
def a6_X12_refuses_0 : List (Nat × aF) := [(0, a_lda 0 1), (1, a_gf aT6 12 47 (.inr (some [248]))), (4, a_ldi 1 1), (5, a_d22), (6, a_al aT6 0 (-2147483648, 2147483647)), (7, a_pi (1) 1), (8, a_b2 g_add), (9, a_as aT6 0), (10, a_pi (-1) 1), (11, a_ri false)]
theorem p6_X12_refuses_0 {E : zM → Prop} (h : aH6 E) : aP0 (aΘ6 E) 0 tX12_refuses_0 a6_X12_refuses_0 := ⟨rfl, aok_lda, rfl, aok_gf, rfl, aok_ldi, rfl, aok_d22, rfl, aok_al, rfl, aok_pi rfl, rfl, aok_b2 sd_add, rfl, aok_as h.1, rfl, aok_pi rfl, rfl, aok_ri, trivial⟩
def b6_X12_refuses : aTb := [(100000, a6_X12_refuses_0)]
theorem q6_X12_refuses {E : zM → Prop} (h : aH6 E) : aP1 (aΘ6 E) 0 tX12_refuses b6_X12_refuses := ⟨rfl, p6_X12_refuses_0 h, trivial⟩
def n6_X12_refuses : List aNd := []
theorem k6_X12_refuses {E : zM → Prop} (h : aH6 E) : aCv (aΘ6 E) 1 c6_X12_refuses := aMeth (D := 0) (c := c6_X12_refuses) (tb := b6_X12_refuses) (ns := n6_X12_refuses) (fuel := 3000) rfl (q6_X12_refuses h) (by decide +kernel)
abbrev c6_X7_clear : aCt := (74, [.inr (some [10, 22])], none)
def a6_X7_clear_0 : List (Nat × aF) := [(0, a_lda 0 1), (1, a_pi (0) 1), (2, a_pf aT6 7 3 (.int)), (5, a_pi (0) 1), (6, a_sti 2 1 1), (7, a_ldi 1 1), (8, a_pi (3) 1), (9, a_ic d_ge d_lt 3 32), (12, a_lda 0 1), (13, a_gf aT6 7 1 (.inr (some [12, 24]))), (16, a_ldi 1 1), (17, a_pi (0) 1)]
theorem p6_X7_clear_0 {E : zM → Prop} (h : aH6 E) : aP0 (aΘ6 E) 0 tX7_clear_0 a6_X7_clear_0 := ⟨rfl, aok_lda, rfl, aok_pi rfl, rfl, aok_pf h.1, rfl, aok_pi rfl, rfl, aok_sti, rfl, aok_ldi, rfl, aok_pi rfl, rfl, aok_ic sj_ge, rfl, aok_lda, rfl, aok_gf, rfl, aok_ldi, rfl, aok_pi rfl, trivial⟩
def a6_X7_clear_1 : List (Nat × aF) := [(18, a_as aT6 0), (19, a_lda 0 1), (20, a_gf aT6 7 2 (.inr (some [13, 25]))), (23, a_ldi 1 1), (24, a_pi (0) 1), (25, a_as aT6 0), (26, a_iw 2 1 (1)), (29, a_gt 7), (32, a_rv)]
theorem p6_X7_clear_1 {E : zM → Prop} (h : aH6 E) : aP0 (aΘ6 E) 0 tX7_clear_1 a6_X7_clear_1 := ⟨rfl, aok_as h.1, rfl, aok_lda, rfl, aok_gf, rfl, aok_ldi, rfl, aok_pi rfl, rfl, aok_as h.1, rfl, aok_iw rfl, rfl, aok_gt, rfl, aok_rv, trivial⟩
def b6_X7_clear : aTb := [(18, a6_X7_clear_0), (100000, a6_X7_clear_1)]
theorem q6_X7_clear {E : zM → Prop} (h : aH6 E) : aP1 (aΘ6 E) 0 tX7_clear b6_X7_clear := ⟨rfl, p6_X7_clear_0 h, rfl, p6_X7_clear_1 h, trivial⟩
def n6_X7_clear : List aNd := [(7, [(0, .inr (some [10, 22])), (1, .inl (0, 3))], [(1, -1)], 3)]
theorem k6_X7_clear {E : zM → Prop} (h : aH6 E) : aCv (aΘ6 E) 1 c6_X7_clear := aMeth (D := 0) (c := c6_X7_clear) (tb := b6_X7_clear) (ns := n6_X7_clear) (fuel := 3000) rfl (q6_X7_clear h) (by decide +kernel)
abbrev c6_X4_clear : aCt := (48, [.inr (some [2, 14])], none)
def a6_X4_clear_0 : List (Nat × aF) := [(0, a_lda 0 1), (1, a_pi (0) 1), (2, a_pf aT6 4 0 (.int)), (5, a_lda 0 1), (6, a_pi (0) 1), (7, a_pf aT6 4 1 (.int)), (10, a_lda 0 1), (11, a_pi (0) 1), (12, a_pf aT6 4 2 (.int)), (15, a_lda 0 1), (16, a_pi (3) 1), (17, a_pf aT6 4 3 (.int))]
theorem p6_X4_clear_0 {E : zM → Prop} (h : aH6 E) : aP0 (aΘ6 E) 1 tX4_clear_0 a6_X4_clear_0 := ⟨rfl, aok_lda, rfl, aok_pi rfl, rfl, aok_pf h.1, rfl, aok_lda, rfl, aok_pi rfl, rfl, aok_pf h.1, rfl, aok_lda, rfl, aok_pi rfl, rfl, aok_pf h.1, rfl, aok_lda, rfl, aok_pi rfl, rfl, aok_pf h.1, trivial⟩
def a6_X4_clear_1 : List (Nat × aF) := [(20, a_lda 0 1), (21, a_pi (0) 1), (22, a_pf aT6 4 4 (.int)), (25, a_lda 0 1), (26, a_pl 1), (27, a_pf aT6 4 5 (.long)), (30, a_lda 0 1), (31, a_pl 1), (32, a_pf aT6 4 6 (.long)), (35, a_lda 0 1), (36, a_pi (0) 1), (37, a_pf aT6 4 7 (.int))]
theorem p6_X4_clear_1 {E : zM → Prop} (h : aH6 E) : aP0 (aΘ6 E) 1 tX4_clear_1 a6_X4_clear_1 := ⟨rfl, aok_lda, rfl, aok_pi rfl, rfl, aok_pf h.1, rfl, aok_lda, rfl, aok_pl, rfl, aok_pf h.1, rfl, aok_lda, rfl, aok_pl, rfl, aok_pf h.1, rfl, aok_lda, rfl, aok_pi rfl, rfl, aok_pf h.1, trivial⟩
def a6_X4_clear_2 : List (Nat × aF) := [(40, a_lda 0 1), (41, a_pi (0) 1), (42, a_pf aT6 4 12 (.int)), (45, a_lda 0 1), (46, a_pi (0) 1), (47, a_pf aT6 4 13 (.int)), (50, a_lda 0 1), (51, a_gf aT6 4 17 (.inr (some [10, 22]))), (54, a_cv aT6 c6_X7_clear 0 7), (57, a_rv)]
theorem p6_X4_clear_2 {E : zM → Prop} (h : aH6 E) : aP0 (aΘ6 E) 1 tX4_clear_2 a6_X4_clear_2 := ⟨rfl, aok_lda, rfl, aok_pi rfl, rfl, aok_pf h.1, rfl, aok_lda, rfl, aok_pi rfl, rfl, aok_pf h.1, rfl, aok_lda, rfl, aok_gf, rfl, aok_cv (c := c6_X7_clear) (D' := 1) (k6_X7_clear h) (by decide), rfl, aok_rv, trivial⟩
def b6_X4_clear : aTb := [(20, a6_X4_clear_0), (40, a6_X4_clear_1), (100000, a6_X4_clear_2)]
theorem q6_X4_clear {E : zM → Prop} (h : aH6 E) : aP1 (aΘ6 E) 1 tX4_clear b6_X4_clear := ⟨rfl, p6_X4_clear_0 h, rfl, p6_X4_clear_1 h, rfl, p6_X4_clear_2 h, trivial⟩
def n6_X4_clear : List aNd := []
theorem k6_X4_clear {E : zM → Prop} (h : aH6 E) : aCv (aΘ6 E) 2 c6_X4_clear := aMeth (D := 1) (c := c6_X4_clear) (tb := b6_X4_clear) (ns := n6_X4_clear) (fuel := 3000) rfl (q6_X4_clear h) (by decide +kernel)
abbrev c6_X9_faultKind : aCt := (84, [.inr (some [26])], some (.inl (-2147483648, 2147483647)))
def a6_X9_faultKind_0 : List (Nat × aF) := [(0, a_lda 0 1), (1, a_gf aT6 9 0 (.inr (some [27]))), (4, a_gf aT6 5 10 (.inl (-2147483648, 2147483647))), (7, a_ri false)]
theorem p6_X9_faultKind_0 {E : zM → Prop} (h : aH6 E) : aP0 (aΘ6 E) 0 tX9_faultKind_0 a6_X9_faultKind_0 := ⟨rfl, aok_lda, rfl, aok_gf, rfl, aok_gf, rfl, aok_ri, trivial⟩
def b6_X9_faultKind : aTb := [(100000, a6_X9_faultKind_0)]
theorem q6_X9_faultKind {E : zM → Prop} (h : aH6 E) : aP1 (aΘ6 E) 0 tX9_faultKind b6_X9_faultKind := ⟨rfl, p6_X9_faultKind_0 h, trivial⟩
def n6_X9_faultKind : List aNd := []
theorem k6_X9_faultKind {E : zM → Prop} (h : aH6 E) : aCv (aΘ6 E) 1 c6_X9_faultKind := aMeth (D := 0) (c := c6_X9_faultKind) (tb := b6_X9_faultKind) (ns := n6_X9_faultKind) (fuel := 3000) rfl (q6_X9_faultKind h) (by decide +kernel)
abbrev c6_X9_faultPlace : aCt := (85, [.inr (some [26])], some (.inl (-2147483648, 2147483647)))
def a6_X9_faultPlace_0 : List (Nat × aF) := [(0, a_lda 0 1), (1, a_gf aT6 9 0 (.inr (some [27]))), (4, a_gf aT6 5 11 (.inl (-2147483648, 2147483647))), (7, a_ri false)]
theorem p6_X9_faultPlace_0 {E : zM → Prop} (h : aH6 E) : aP0 (aΘ6 E) 0 tX9_faultPlace_0 a6_X9_faultPlace_0 := ⟨rfl, aok_lda, rfl, aok_gf, rfl, aok_gf, rfl, aok_ri, trivial⟩
def b6_X9_faultPlace : aTb := [(100000, a6_X9_faultPlace_0)]
theorem q6_X9_faultPlace {E : zM → Prop} (h : aH6 E) : aP1 (aΘ6 E) 0 tX9_faultPlace b6_X9_faultPlace := ⟨rfl, p6_X9_faultPlace_0 h, trivial⟩
def n6_X9_faultPlace : List aNd := []
theorem k6_X9_faultPlace {E : zM → Prop} (h : aH6 E) : aCv (aΘ6 E) 1 c6_X9_faultPlace := aMeth (D := 0) (c := c6_X9_faultPlace) (tb := b6_X9_faultPlace) (ns := n6_X9_faultPlace) (fuel := 3000) rfl (q6_X9_faultPlace h) (by decide +kernel)
abbrev c6_X0_moveTo : aCt := (1, [.inr (some [181]), .inr (some [2, 14])], none)
def a6_X0_moveTo_0 : List (Nat × aF) := [(0, a_lda 0 1), (1, a_lda 1 1), (2, a_pf aT6 0 0 (.object "MissingLamps$Quay")), (5, a_rv)]
theorem p6_X0_moveTo_0 {E : zM → Prop} (h : aH6 E) : aP0 (aΘ6 E) 0 tX0_moveTo_0 a6_X0_moveTo_0 := ⟨rfl, aok_lda, rfl, aok_lda, rfl, aok_pf h.1, rfl, aok_rv, trivial⟩
def b6_X0_moveTo : aTb := [(100000, a6_X0_moveTo_0)]
theorem q6_X0_moveTo {E : zM → Prop} (h : aH6 E) : aP1 (aΘ6 E) 0 tX0_moveTo b6_X0_moveTo := ⟨rfl, p6_X0_moveTo_0 h, trivial⟩
def n6_X0_moveTo : List aNd := []
theorem k6_X0_moveTo {E : zM → Prop} (h : aH6 E) : aCv (aΘ6 E) 1 c6_X0_moveTo := aMeth (D := 0) (c := c6_X0_moveTo) (tb := b6_X0_moveTo) (ns := n6_X0_moveTo) (fuel := 3000) rfl (q6_X0_moveTo h) (by decide +kernel)
abbrev c6_X4_setFirst : aCt := (49, [.inr (some [2, 14]), .inr (some [31])], none)
def a6_X4_setFirst_0 : List (Nat × aF) := [(0, a_lda 1 1), (1, a_pi (0) 1), (2, a_pf aT6 8 0 (.int)), (5, a_lda 1 1), (6, a_lda 0 1), (7, a_gf aT6 4 12 (.inl (0, 511))), (10, a_pf aT6 8 1 (.int)), (13, a_pi (0) 1), (14, a_sti 3 2 1), (15, a_ldi 2 1), (16, a_pi (9) 2), (18, a_ic d_ge d_lt 3 34)]
theorem p6_X4_setFirst_0 {E : zM → Prop} (h : aH6 E) : aP0 (aΘ6 E) 0 tX4_setFirst_0 a6_X4_setFirst_0 := ⟨rfl, aok_lda, rfl, aok_pi rfl, rfl, aok_pf h.1, rfl, aok_lda, rfl, aok_lda, rfl, aok_gf, rfl, aok_pf h.1, rfl, aok_pi rfl, rfl, aok_sti, rfl, aok_ldi, rfl, aok_pi rfl, rfl, aok_ic sj_ge, trivial⟩
def a6_X4_setFirst_1 : List (Nat × aF) := [(21, a_lda 1 1), (22, a_gf aT6 8 2 (.inr (some [32]))), (25, a_ldi 2 1), (26, a_pi (0) 1), (27, a_as aT6 0), (28, a_iw 3 2 (1)), (31, a_gt 15), (34, a_lda 0 1), (35, a_gf aT6 4 15 (.inr (some [8, 20]))), (38, a_pi (0) 1), (39, a_lda 1 1), (40, a_gf aT6 8 3 (.inr (some [33])))]
theorem p6_X4_setFirst_1 {E : zM → Prop} (h : aH6 E) : aP0 (aΘ6 E) 0 tX4_setFirst_1 a6_X4_setFirst_1 := ⟨rfl, aok_lda, rfl, aok_gf, rfl, aok_ldi, rfl, aok_pi rfl, rfl, aok_as h.1, rfl, aok_iw rfl, rfl, aok_gt, rfl, aok_lda, rfl, aok_gf, rfl, aok_pi rfl, rfl, aok_lda, rfl, aok_gf, trivial⟩
def a6_X4_setFirst_2 : List (Nat × aF) := [(43, a_pi (0) 1), (44, a_pi (6) 2), (46, a_cp aT6 0 (-2147483648, 2147483647)), (49, a_rv)]
theorem p6_X4_setFirst_2 {E : zM → Prop} (h : aH6 E) : aP0 (aΘ6 E) 0 tX4_setFirst_2 a6_X4_setFirst_2 := ⟨rfl, aok_pi rfl, rfl, aok_pi rfl, rfl, aok_cp h.1, rfl, aok_rv, trivial⟩
def b6_X4_setFirst : aTb := [(21, a6_X4_setFirst_0), (43, a6_X4_setFirst_1), (100000, a6_X4_setFirst_2)]
theorem q6_X4_setFirst {E : zM → Prop} (h : aH6 E) : aP1 (aΘ6 E) 0 tX4_setFirst b6_X4_setFirst := ⟨rfl, p6_X4_setFirst_0 h, rfl, p6_X4_setFirst_1 h, rfl, p6_X4_setFirst_2 h, trivial⟩
def n6_X4_setFirst : List aNd := [(15, [(0, .inr (some [2, 14])), (1, .inr (some [31])), (2, .inl (0, 9))], [(2, -1)], 9)]
theorem k6_X4_setFirst {E : zM → Prop} (h : aH6 E) : aCv (aΘ6 E) 1 c6_X4_setFirst := aMeth (D := 0) (c := c6_X4_setFirst) (tb := b6_X4_setFirst) (ns := n6_X4_setFirst) (fuel := 3000) rfl (q6_X4_setFirst h) (by decide +kernel)
abbrev c6_X11_forgetActs : aCt := (148, [.inr (some [0])], none)
def a6_X11_forgetActs_0 : List (Nat × aF) := [(0, a_lda 0 1), (1, a_gf aT6 11 8 (.inr (some [34]))), (4, a_pi (0) 1), (5, a_pf aT6 1 3 (.int)), (8, a_lda 0 1), (9, a_gf aT6 11 9 (.inr (some [38]))), (12, a_pi (0) 1), (13, a_pf aT6 2 3 (.int)), (16, a_rv)]
theorem p6_X11_forgetActs_0 {E : zM → Prop} (h : aH6 E) : aP0 (aΘ6 E) 0 tX11_forgetActs_0 a6_X11_forgetActs_0 := ⟨rfl, aok_lda, rfl, aok_gf, rfl, aok_pi rfl, rfl, aok_pf h.1, rfl, aok_lda, rfl, aok_gf, rfl, aok_pi rfl, rfl, aok_pf h.1, rfl, aok_rv, trivial⟩
def b6_X11_forgetActs : aTb := [(100000, a6_X11_forgetActs_0)]
theorem q6_X11_forgetActs {E : zM → Prop} (h : aH6 E) : aP1 (aΘ6 E) 0 tX11_forgetActs b6_X11_forgetActs := ⟨rfl, p6_X11_forgetActs_0 h, trivial⟩
def n6_X11_forgetActs : List aNd := []
theorem k6_X11_forgetActs {E : zM → Prop} (h : aH6 E) : aCv (aΘ6 E) 1 c6_X11_forgetActs := aMeth (D := 0) (c := c6_X11_forgetActs) (tb := b6_X11_forgetActs) (ns := n6_X11_forgetActs) (fuel := 3000) rfl (q6_X11_forgetActs h) (by decide +kernel)
abbrev c6_X3_forgetMet : aCt := (39, [.inr (some [185])], none)
def a6_X3_forgetMet_0 : List (Nat × aF) := [(0, a_lda 0 1), (1, a_pi (0) 1), (2, a_pf aT6 3 9 (.int)), (5, a_rv)]
theorem p6_X3_forgetMet_0 {E : zM → Prop} (h : aH6 E) : aP0 (aΘ6 E) 0 tX3_forgetMet_0 a6_X3_forgetMet_0 := ⟨rfl, aok_lda, rfl, aok_pi rfl, rfl, aok_pf h.1, rfl, aok_rv, trivial⟩
def b6_X3_forgetMet : aTb := [(100000, a6_X3_forgetMet_0)]
theorem q6_X3_forgetMet {E : zM → Prop} (h : aH6 E) : aP1 (aΘ6 E) 0 tX3_forgetMet b6_X3_forgetMet := ⟨rfl, p6_X3_forgetMet_0 h, trivial⟩
def n6_X3_forgetMet : List aNd := []
theorem k6_X3_forgetMet {E : zM → Prop} (h : aH6 E) : aCv (aΘ6 E) 1 c6_X3_forgetMet := aMeth (D := 0) (c := c6_X3_forgetMet) (tb := b6_X3_forgetMet) (ns := n6_X3_forgetMet) (fuel := 3000) rfl (q6_X3_forgetMet h) (by decide +kernel)
theorem aLq_c : aLq aT0 aT6 = true := by decide +kernel
theorem aLq_d : aLq aT6 aT0 = true := by decide +kernel
